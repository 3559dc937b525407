/-! THE TEXT: the class follows it as each sign comes, the reference reads it whole -/
def t_st (tx : Nat → Nat) : Nat → Nat × Nat
  | 0 => (0, 0)
  | n + 1 => (if t_beh (t_st tx n).2 (tx n) = 6 then (t_st tx n).1 else (t_st tx n).1 + 1, t_beh (t_st tx n).2 (tx n))
theorem t_st_ext {tx tx' : Nat → Nat} : ∀ n, (∀ k, k < n → tx' k = tx k) → t_st tx' n = t_st tx n
  | 0, _ => rfl
  | n + 1, e => by rw [t_st, t_st, t_st_ext n (fun k hk => e k (by omega)), e n (by omega)]
theorem t_beh6 (c : Nat) : t_beh 6 c = 6 := rfl
theorem t_six {tx : Nat → Nat} {n : Nat} (h : (t_st tx n).2 = 6) : ∀ j, t_st tx (n + j) = ((t_st tx n).1, 6)
  | 0 => Prod.ext rfl h
  | j + 1 => by
    rw [← Nat.add_assoc, t_st, t_six h j]
    show (if t_beh 6 (tx (n + j)) = 6 then (t_st tx n).1 else (t_st tx n).1 + 1, t_beh 6 (tx (n + j))) = _
    rw [t_beh6, if_pos rfl]
theorem t_pre {tx : Nat → Nat} {n : Nat} (h : ¬ (t_st tx (n + 1)).2 = 6) : ¬ (t_st tx n).2 = 6 := fun q => h (by rw [t_six q 1])
theorem t_len {tx : Nat → Nat} : ∀ n, ¬ (t_st tx n).2 = 6 → (t_st tx n).1 = n
  | 0, _ => rfl
  | n + 1, h => by
    have h1 := t_len n (t_pre h)
    have h2 : ¬ t_beh (t_st tx n).2 (tx n) = 6 := h
    show (if t_beh (t_st tx n).2 (tx n) = 6 then (t_st tx n).1 else (t_st tx n).1 + 1) = n + 1
    rw [if_neg h2, h1]
theorem t_err {tx : Nat → Nat} {n len : Nat} (hn : n < len) (h1 : ¬ (t_st tx n).2 = 6) (h2 : (t_st tx (n + 1)).2 = 6) : t_st tx len = (n, 6) := by
  have e := t_six h2 (len - (n + 1))
  rw [show n + 1 + (len - (n + 1)) = len by omega] at e
  have h3 : (t_st tx (n + 1)).1 = n := by
    show (if t_beh (t_st tx n).2 (tx n) = 6 then (t_st tx n).1 else (t_st tx n).1 + 1) = n
    rw [if_pos (show t_beh (t_st tx n).2 (tx n) = 6 from h2), t_len n h1]
  rw [e, h3]
theorem t_b1 {c : Nat} (hc : c < 2 ^ 31) : t_beh 1 c = if 48 ≤ c ∧ c ≤ 50 then 0 else 6 := by
  have := m_ng_or c 48
  show (if m_ng c 48 < 3 then 0 else 6) = _
  (repeat' split) <;> omega
theorem t_b2 {c : Nat} (hc : c < 2 ^ 31) : t_beh 2 c = if 48 ≤ c ∧ c ≤ 51 then 0 else 6 := by
  have := m_ng_or c 48
  show (if m_ng c 48 < 4 then 0 else 6) = _
  (repeat' split) <;> omega
theorem t_b3 {c : Nat} (hc : c < 2 ^ 31) : t_beh 3 c = if 48 ≤ c ∧ c ≤ 52 then 4 else 6 := by
  have := m_ng_or c 48
  show (if m_ng c 48 < 5 then 4 else 6) = _
  (repeat' split) <;> omega
theorem t_b4 {c : Nat} (hc : c < 2 ^ 31) : t_beh 4 c = if 48 ≤ c ∧ c ≤ 57 then 5 else 6 := by
  have := m_ng_or c 48
  show (if m_ng c 48 < 10 then 5 else 6) = _
  (repeat' split) <;> omega
theorem t_b5 {c : Nat} (hc : c < 2 ^ 31) : t_beh 5 c = if 48 ≤ c ∧ c ≤ 57 then 0 else 6 := by
  have := m_ng_or c 48
  show (if m_ng c 48 < 10 then 0 else 6) = _
  (repeat' split) <;> omega
theorem t_hb (c : Nat) : ((c = 99 ∨ c = 100) ∧ t_beh1 c = 1 ∧ m_hi c = 50) ∨ ((c = 98 ∨ c = 108) ∧ t_beh1 c = 2 ∧ m_hi c = 51) ∨ (c = 119 ∧ t_beh1 c = 3 ∧ m_hi c = 52) ∨ (¬ (c = 99 ∨ c = 100 ∨ c = 119 ∨ c = 98 ∨ c = 108) ∧ t_beh1 c = 6) := by
  unfold t_beh1 m_hi
  (repeat' split) <;> omega
theorem t_pt {tx : Nat → Nat} {len n ix : Nat} {td : Nat → Nat} (h0 : (t_st tx ix).2 = 0) (hi : ix < len) (ht : ∀ k, tx k < 2 ^ 31) :
    ((m_pt tx len n ix 0 td).2.2.2 = 1 ∧ (t_st tx (m_pt tx len n ix 0 td).1).2 = 0) ∨
    ((m_pt tx len n ix 0 td).2.2.2 = 0 ∧ (((m_pt tx len n ix 0 td).2.1 = 1 ∧ t_st tx len = ((m_pt tx len n ix 0 td).1, 6)) ∨ ((m_pt tx len n ix 0 td).2.1 = 0 ∧ ¬ (t_st tx len).2 = 0 ∧ ¬ (t_st tx len).2 = 6))) := by
  have s1 : (t_st tx (ix + 1)).2 = t_beh1 (tx ix) := by
    show t_beh (t_st tx ix).2 (tx ix) = _
    rw [h0]
    rfl
  have s2 : (t_st tx (ix + 2)).2 = t_beh (t_st tx (ix + 1)).2 (tx (ix + 1)) := rfl
  have s3 : (t_st tx (ix + 3)).2 = t_beh (t_st tx (ix + 2)).2 (tx (ix + 2)) := rfl
  have s4 : (t_st tx (ix + 4)).2 = t_beh (t_st tx (ix + 3)).2 (tx (ix + 3)) := rfl
  have hb := t_hb (tx ix)
  unfold m_pt
  by_cases c0 : tx ix = 99 ∨ tx ix = 100 ∨ tx ix = 119 ∨ tx ix = 98 ∨ tx ix = 108
  · rw [if_pos c0]
    have n1 : ¬ (t_st tx (ix + 1)).2 = 6 ∧ ¬ (t_st tx (ix + 1)).2 = 0 := by rw [s1]; omega
    have h2a : 48 ≤ tx (ix + 1) → tx (ix + 1) ≤ m_hi (tx ix) → (t_st tx (ix + 2)).2 = if tx ix = 119 then 4 else 0 := by
      intro a1 a2
      rw [s2, s1]
      rcases hb with ⟨q, q1, q2⟩ | ⟨q, q1, q2⟩ | ⟨q, q1, q2⟩ | ⟨q, q1⟩
      · rw [q1, t_b1 (ht _), if_pos (by omega), if_neg (by omega)]
      · rw [q1, t_b2 (ht _), if_pos (by omega), if_neg (by omega)]
      · rw [q1, t_b3 (ht _), if_pos (by omega), if_pos q]
      · exact absurd c0 q
    have h2b : ¬ (48 ≤ tx (ix + 1) ∧ tx (ix + 1) ≤ m_hi (tx ix)) → (t_st tx (ix + 2)).2 = 6 := by
      intro a1
      rw [s2, s1]
      rcases hb with ⟨q, q1, q2⟩ | ⟨q, q1, q2⟩ | ⟨q, q1, q2⟩ | ⟨q, q1⟩
      · rw [q1, t_b1 (ht _), if_neg (by omega)]
      · rw [q1, t_b2 (ht _), if_neg (by omega)]
      · rw [q1, t_b3 (ht _), if_neg (by omega)]
      · exact absurd c0 q
    by_cases c1 : ix + 1 < len ∧ 48 ≤ tx (ix + 1) ∧ tx (ix + 1) ≤ m_hi (tx ix)
    · rw [if_pos c1]
      have e2 := h2a c1.2.1 c1.2.2
      by_cases c2 : tx ix = 119
      · rw [if_pos c2] at e2 ⊢
        rw [e2] at s3
        rw [t_b4 (ht _)] at s3
        by_cases c3 : ix + 2 < len ∧ 48 ≤ tx (ix + 2) ∧ tx (ix + 2) ≤ 57
        · rw [if_pos c3]
          rw [if_pos c3.2] at s3
          rw [s3, t_b5 (ht _)] at s4
          by_cases c4 : ix + 3 < len ∧ 48 ≤ tx (ix + 3) ∧ tx (ix + 3) ≤ 57
          · rw [if_pos c4]
            rw [if_pos c4.2] at s4
            exact Or.inl ⟨rfl, s4⟩
          · rw [if_neg c4]
            refine Or.inr ⟨rfl, ?_⟩
            by_cases q : ix + 3 < len
            · rw [if_neg (by omega)] at s4
              exact Or.inl ⟨bn_t q, t_err q (by rw [s3]; decide) s4⟩
            · have hl : len = ix + 3 := by omega
              exact Or.inr ⟨bn_f q, by rw [hl, s3]; decide, by rw [hl, s3]; decide⟩
        · rw [if_neg c3]
          refine Or.inr ⟨rfl, ?_⟩
          by_cases q : ix + 2 < len
          · rw [if_neg (by omega)] at s3
            exact Or.inl ⟨bn_t q, t_err q (by rw [e2]; decide) s3⟩
          · have hl : len = ix + 2 := by omega
            exact Or.inr ⟨bn_f q, by rw [hl, e2]; decide, by rw [hl, e2]; decide⟩
      · rw [if_neg c2] at e2 ⊢
        exact Or.inl ⟨rfl, e2⟩
    · rw [if_neg c1]
      refine Or.inr ⟨rfl, ?_⟩
      by_cases q : ix + 1 < len
      · exact Or.inl ⟨bn_t q, t_err q n1.1 (h2b (by omega))⟩
      · have hl : len = ix + 1 := by omega
        exact Or.inr ⟨bn_f q, by rw [hl]; exact n1.2, by rw [hl]; exact n1.1⟩
  · rw [if_neg c0]
    have h6 : (t_st tx (ix + 1)).2 = 6 := by rw [s1]; omega
    exact Or.inr ⟨rfl, Or.inl ⟨bn_t hi, t_err hi (by rw [h0]; decide) h6⟩⟩
theorem t_tx {tx : Nat → Nat} {len : Nat} (ht : ∀ k, tx k < 2 ^ 31) : ∀ (f ix n : Nat) (td : Nat → Nat), (t_st tx ix).2 = 0 → ix ≤ len → len < ix + f →
    ((m_tx tx len f ix n td).2.2.2.2 = 1 ∧ (t_st tx len).2 = 0) ∨ ((m_tx tx len f ix n td).2.2.2.2 = 0 ∧ (m_tx tx len f ix n td).2.1 = 0 ∧ (t_st tx len).2 = 0 ∧ n = 0 ∧ ix = len) ∨ ((m_tx tx len f ix n td).2.2.2.2 = 0 ∧ (m_tx tx len f ix n td).2.1 = 1 ∧ t_st tx len = ((m_tx tx len f ix n td).1, 6)) ∨ ((m_tx tx len f ix n td).2.2.2.2 = 0 ∧ (m_tx tx len f ix n td).2.1 = 0 ∧ ¬ (t_st tx len).2 = 0 ∧ ¬ (t_st tx len).2 = 6)
  | 0, ix, n, td, _, h1, h2 => absurd h2 (by omega)
  | f + 1, ix, n, td, h0, h1, h2 => by
    by_cases c1 : ix < len
    · rcases t_pt (n := n) (td := td) h0 c1 ht with ⟨p1, p2⟩ | ⟨p1, p2⟩
      · have h3 := m_pt_ok p1
        rw [m_tx_yes c1 (by omega)]
        rcases t_tx ht f _ (n + 1) (m_pt tx len n ix 0 td).2.2.1 p2 h3.2.1 (by omega) with h | ⟨_, _, _, h, _⟩ | h | h
        · exact Or.inl h
        · exact absurd h (Nat.succ_ne_zero n)
        · exact Or.inr (Or.inr (Or.inl h))
        · exact Or.inr (Or.inr (Or.inr h))
      · rw [m_tx_no c1 p1]
        rcases p2 with p2 | p2
        · exact Or.inr (Or.inr (Or.inl ⟨rfl, p2.1, p2.2⟩))
        · exact Or.inr (Or.inr (Or.inr ⟨rfl, p2.1, p2.2.1, p2.2.2⟩))
    · have hl : ix = len := by omega
      rw [m_tx_end c1]
      rw [hl] at h0
      by_cases q : 0 < n
      · exact Or.inl ⟨bn_t q, h0⟩
      · exact Or.inr (Or.inl ⟨bn_f q, rfl, h0, by omega, hl⟩)
theorem t_fin {tx td : Nat → Nat} {len : Nat} {TX : Nat × Nat × Nat × (Nat → Nat) × Nat} (ht : ∀ k, tx k < 2 ^ 31) (hl : len ≤ 60) (h : m_tx tx len 61 0 0 td = TX) : ((TX.2.2.2.2 = 1 ↔ 0 < len ∧ (t_st tx len).2 = 0) ∧ TX.2.2.2.2 ≤ 1) ∧ (if TX.2.2.2.2 = 0 ∧ TX.2.1 = 1 then TX.1 else len) = (t_st tx len).1 := by
  have hg := m_tx_good (tx := tx) (len := len) 61 0 0 td (by omega) (by omega) (fun k hk => absurd hk (Nat.not_lt_zero k))
  have hn : len = 0 → m_tx tx len 61 0 0 td = (0, 0, 0, td, bn (0 < 0)) := fun q => m_tx_end (by omega)
  have hle := m_tx_le tx len 61 0 0 td
  have hx := t_tx ht 61 0 0 td rfl (Nat.zero_le len) (by omega)
  rw [h] at hg hn hle hx
  refine ⟨⟨?_, hle⟩, ?_⟩
  · constructor
    · intro q
      rcases hx with ⟨_, h2⟩ | ⟨h1, _⟩ | ⟨h1, _⟩ | ⟨h1, _⟩
      · refine ⟨?_, h2⟩
        by_cases z : len = 0
        · have := hn z
          rw [this] at q
          exact absurd ((bn_f (Nat.lt_irrefl 0)).symm.trans q) Nat.zero_ne_one
        · omega
      · omega
      · omega
      · omega
    · rintro ⟨q1, q2⟩
      rcases hx with ⟨h1, _⟩ | ⟨_, _, _, _, h5⟩ | ⟨_, _, h3⟩ | ⟨_, _, h3, _⟩
      · exact h1
      · omega
      · rw [h3] at q2
        exact absurd (show (6 : Nat) = 0 from q2) (by decide)
      · exact absurd q2 h3
  · rcases hx with ⟨h1, h2⟩ | ⟨h1, h2, h3, _⟩ | ⟨h1, h2, h3⟩ | ⟨h1, h2, h3, h4⟩
    · rw [if_neg (by omega), t_len len (by omega)]
    · rw [if_neg (by omega), t_len len (by omega)]
    · rw [if_pos ⟨h1, h2⟩, h3]
    · rw [if_neg (by omega), t_len len h4]
/-- in a right text each letter has its number behind it -/
theorem t_gd {tx : Nat → Nat} {len : Nat} (ht : ∀ k, tx k < 2 ^ 31) (hf : (t_st tx len).2 = 0) : ∀ i, i < len → 97 ≤ tx i → i + 1 < len ∧ 48 ≤ tx (i + 1) ∧ tx (i + 1) ≤ 57 ∧ c_sh (tx i) (tx (i + 1) - 48) := by
  have n6 : ∀ i, i ≤ len → ¬ (t_st tx i).2 = 6 := by
    intro i hi q
    have e := t_six q (len - i)
    rw [show i + (len - i) = len by omega] at e
    rw [e] at hf
    exact absurd (show (6 : Nat) = 0 from hf) (by decide)
  intro i hi hc
  have s1 : (t_st tx (i + 1)).2 = t_beh (t_st tx i).2 (tx i) := rfl
  have s2 : (t_st tx (i + 2)).2 = t_beh (t_st tx (i + 1)).2 (tx (i + 1)) := rfl
  have h1 := n6 (i + 1) (by omega)
  have h0 := n6 i (by omega)
  have hle : (t_st tx i).2 ≤ 6 := by
    cases i with
    | zero => exact Nat.zero_le _
    | succ i => exact t_beh_le _ _
  rw [s1] at h1
  have e0 : (t_st tx i).2 = 0 := by
    generalize hg : (t_st tx i).2 = e at h1 h0 hle
    rcases (show e = 0 ∨ e = 1 ∨ e = 2 ∨ e = 3 ∨ e = 4 ∨ e = 5 by omega) with rfl | rfl | rfl | rfl | rfl | rfl
    · rfl
    · rw [t_b1 (ht _), if_neg (by omega)] at h1; exact absurd rfl h1
    · rw [t_b2 (ht _), if_neg (by omega)] at h1; exact absurd rfl h1
    · rw [t_b3 (ht _), if_neg (by omega)] at h1; exact absurd rfl h1
    · rw [t_b4 (ht _), if_neg (by omega)] at h1; exact absurd rfl h1
    · rw [t_b5 (ht _), if_neg (by omega)] at h1; exact absurd rfl h1
  rw [e0] at s1 h1
  have h1 : ¬ t_beh1 (tx i) = 6 := h1
  have s1 : (t_st tx (i + 1)).2 = t_beh1 (tx i) := s1
  have hb := t_hb (tx i)
  have hlt : i + 1 < len := by
    by_cases q : i + 1 = len
    · rw [q, hf] at s1
      omega
    · omega
  have h2 := n6 (i + 2) (by omega)
  rw [s2, s1] at h2
  unfold c_sh
  rcases hb with ⟨q, q1, q2⟩ | ⟨q, q1, q2⟩ | ⟨q, q1, q2⟩ | ⟨q, q1⟩
  · rw [q1, t_b1 (ht _)] at h2
    by_cases z : 48 ≤ tx (i + 1) ∧ tx (i + 1) ≤ 50
    · refine ⟨hlt, z.1, by omega, ?_⟩
      rcases q with q | q
      · exact Or.inl ⟨q, by omega⟩
      · exact Or.inr (Or.inl ⟨q, by omega⟩)
    · rw [if_neg z] at h2; exact absurd rfl h2
  · rw [q1, t_b2 (ht _)] at h2
    by_cases z : 48 ≤ tx (i + 1) ∧ tx (i + 1) ≤ 51
    · refine ⟨hlt, z.1, by omega, ?_⟩
      rcases q with q | q
      · exact Or.inr (Or.inr (Or.inr (Or.inl ⟨q, by omega⟩)))
      · exact Or.inr (Or.inr (Or.inr (Or.inr ⟨q, by omega⟩)))
    · rw [if_neg z] at h2; exact absurd rfl h2
  · rw [q1, t_b3 (ht _)] at h2
    by_cases z : 48 ≤ tx (i + 1) ∧ tx (i + 1) ≤ 52
    · exact ⟨hlt, z.1, by omega, Or.inr (Or.inr (Or.inl ⟨q, by omega⟩))⟩
    · rw [if_neg z] at h2; exact absurd rfl h2
  · exact absurd q1 h1
/-! the deeds of a text, one after the other -/
def t_D (tx td : Nat → Nat) (len N : Nat) : Nat → Nat → Nat → Prop
  | 0, _, _ => False
  | f + 1, ix, n => (ix = len ∧ n = N) ∨ ((n < N ∧ ix < len ∧ 97 ≤ tx ix ∧ 48 ≤ tx (ix + 1) ∧ tx (ix + 1) ≤ 57 ∧ td (3 * n) = tx ix ∧ td (3 * n + 1) = tx (ix + 1) - 48) ∧ ((¬ tx ix = 119 ∧ ix + 2 ≤ len ∧ t_D tx td len N f (ix + 2) (n + 1)) ∨ (tx ix = 119 ∧ ix + 4 ≤ len ∧ (48 ≤ tx (ix + 2) ∧ tx (ix + 2) ≤ 57 ∧ 48 ≤ tx (ix + 3) ∧ tx (ix + 3) ≤ 57) ∧ td (3 * n + 2) = 10 * (tx (ix + 2) - 48) + tx (ix + 3) - 48 ∧ t_D tx td len N f (ix + 4) (n + 1))))
theorem m_pt_keep {tx : Nat → Nat} {len n ix fl k : Nat} {td : Nat → Nat} (hk : k < 3 * n) : (m_pt tx len n ix fl td).2.2.1 k = td k := by
  unfold m_pt
  (repeat' split) <;> first | rfl | (dsimp only; rw [n_up_ne (by omega), n_up_ne (by omega), n_up_ne (by omega)]) | (dsimp only; rw [n_up_ne (by omega), n_up_ne (by omega)])
theorem m_tx_keep {tx : Nat → Nat} {len k : Nat} : ∀ (f ix n : Nat) (td : Nat → Nat), k < 3 * n → (m_tx tx len f ix n td).2.2.2.1 k = td k
  | 0, ix, n, td, h => by rw [m_tx]
  | f + 1, ix, n, td, h => by
    by_cases c1 : ix < len
    · by_cases c2 : (m_pt tx len n ix 0 td).2.2.2 = 0
      · rw [m_tx_no c1 c2]
        exact m_pt_keep h
      · rw [m_tx_yes c1 c2, m_tx_keep f _ _ _ (by omega)]
        exact m_pt_keep h
    · rw [m_tx_end c1]
theorem m_tx_up {tx : Nat → Nat} {len : Nat} : ∀ (f ix n : Nat) (td : Nat → Nat), n ≤ (m_tx tx len f ix n td).2.2.1
  | 0, ix, n, td => by rw [m_tx]; exact Nat.le_refl n
  | f + 1, ix, n, td => by
    by_cases c1 : ix < len
    · by_cases c2 : (m_pt tx len n ix 0 td).2.2.2 = 0
      · rw [m_tx_no c1 c2]
        exact Nat.le_refl n
      · rw [m_tx_yes c1 c2]
        exact Nat.le_trans (Nat.le_succ n) (m_tx_up f _ (n + 1) _)
    · rw [m_tx_end c1]
      exact Nat.le_refl n
theorem m_pt_one {tx : Nat → Nat} {len n ix fl : Nat} {td : Nat → Nat} (h : (m_pt tx len n ix fl td).2.2.2 = 1) : (97 ≤ tx ix ∧ 48 ≤ tx (ix + 1) ∧ tx (ix + 1) ≤ 57 ∧ (m_pt tx len n ix fl td).2.2.1 (3 * n) = tx ix ∧ (m_pt tx len n ix fl td).2.2.1 (3 * n + 1) = tx (ix + 1) - 48) ∧ ((¬ tx ix = 119 ∧ ix + 2 ≤ len ∧ (m_pt tx len n ix fl td).1 = ix + 2) ∨ (tx ix = 119 ∧ ix + 4 ≤ len ∧ (48 ≤ tx (ix + 2) ∧ tx (ix + 2) ≤ 57 ∧ 48 ≤ tx (ix + 3) ∧ tx (ix + 3) ≤ 57) ∧ (m_pt tx len n ix fl td).2.2.1 (3 * n + 2) = 10 * (tx (ix + 2) - 48) + tx (ix + 3) - 48 ∧ (m_pt tx len n ix fl td).1 = ix + 4)) := by
  have hb := t_hb (tx ix)
  revert h
  unfold m_pt
  by_cases c0 : tx ix = 99 ∨ tx ix = 100 ∨ tx ix = 119 ∨ tx ix = 98 ∨ tx ix = 108
  · rw [if_pos c0]
    by_cases c1 : ix + 1 < len ∧ 48 ≤ tx (ix + 1) ∧ tx (ix + 1) ≤ m_hi (tx ix)
    · rw [if_pos c1]
      by_cases c2 : tx ix = 119
      · rw [if_pos c2]
        by_cases c3 : ix + 2 < len ∧ 48 ≤ tx (ix + 2) ∧ tx (ix + 2) ≤ 57
        · rw [if_pos c3]
          by_cases c4 : ix + 3 < len ∧ 48 ≤ tx (ix + 3) ∧ tx (ix + 3) ≤ 57
          · rw [if_pos c4]
            intro _
            refine ⟨⟨by omega, by omega, by omega, ?_, ?_⟩, Or.inr ⟨c2, by omega, by omega, ?_, rfl⟩⟩
            · dsimp only
              rw [n_up_ne (by omega), n_up_ne (by omega), n_up_at]
            · dsimp only
              rw [n_up_ne (by omega), n_up_at]
            · dsimp only
              rw [n_up_at]
          · rw [if_neg c4]
            intro h
            exact absurd (show (0 : Nat) = 1 from h) (by decide)
        · rw [if_neg c3]
          intro h
          exact absurd (show (0 : Nat) = 1 from h) (by decide)
      · rw [if_neg c2]
        intro _
        refine ⟨⟨by omega, by omega, by omega, ?_, ?_⟩, Or.inl ⟨c2, by omega, rfl⟩⟩
        · dsimp only
          rw [n_up_ne (by omega), n_up_at]
        · dsimp only
          rw [n_up_at]
    · rw [if_neg c1]
      intro h
      exact absurd (show (0 : Nat) = 1 from h) (by decide)
  · rw [if_neg c0]
    intro h
    exact absurd (show (0 : Nat) = 1 from h) (by decide)
theorem t_Dof {tx : Nat → Nat} {len : Nat} : ∀ (f ix n : Nat) (td : Nat → Nat), ix ≤ len → (m_tx tx len f ix n td).2.2.2.2 = 1 → t_D tx (m_tx tx len f ix n td).2.2.2.1 len (m_tx tx len f ix n td).2.2.1 f ix n
  | 0, ix, n, td, _, h => absurd h (by rw [m_tx]; exact Nat.zero_ne_one)
  | f + 1, ix, n, td, hi, h => by
    by_cases c1 : ix < len
    · by_cases c2 : (m_pt tx len n ix 0 td).2.2.2 = 0
      · rw [m_tx_no c1 c2] at h
        exact absurd (show (0 : Nat) = 1 from h) (by decide)
      · have h3 := m_pt_le tx len n ix 0 td
        have h4 : (m_pt tx len n ix 0 td).2.2.2 = 1 := by omega
        have h5 := m_pt_one h4
        have h6 := m_pt_ok h4
        rw [m_tx_yes c1 c2] at h ⊢
        have ih := t_Dof f _ (n + 1) _ h6.2.1 h
        have hu := m_tx_up (tx := tx) (len := len) f (m_pt tx len n ix 0 td).1 (n + 1) (m_pt tx len n ix 0 td).2.2.1
        have hk : ∀ k, k < 3 * (n + 1) → (m_tx tx len f (m_pt tx len n ix 0 td).1 (n + 1) (m_pt tx len n ix 0 td).2.2.1).2.2.2.1 k = (m_pt tx len n ix 0 td).2.2.1 k := fun k hk => m_tx_keep f _ _ _ hk
        rw [t_D]
        refine Or.inr ⟨⟨by omega, c1, h5.1.1, h5.1.2.1, h5.1.2.2.1, by rw [hk _ (by omega)]; exact h5.1.2.2.2.1, by rw [hk _ (by omega)]; exact h5.1.2.2.2.2⟩, ?_⟩
        rcases h5.2 with ⟨q1, q2, q3⟩ | ⟨q1, q2, q3, q4, q5⟩
        · refine Or.inl ⟨q1, q2, ?_⟩
          rw [q3] at ih ⊢
          exact ih
        · refine Or.inr ⟨q1, q2, q3, by rw [hk _ (by omega)]; exact q4, ?_⟩
          rw [q5] at ih ⊢
          exact ih
    · have hl : ix = len := by omega
      rw [m_tx_end c1, t_D]
      exact Or.inl ⟨hl, rfl⟩
