/-! what holds of the reference's numbers in every run; b: a bound on what is counted -/
def m_I (b : Nat) (w : Nat → Nat) : Prop :=
  (w 0 ≤ 2 * b ∧ (∀ k, w k < 2 ^ 32) ∧ w 2 ≤ b ∧ 1 ≤ w 1 ∧ w 1 ≤ 20) ∧
  (w 4 ≤ 2 ∧ ((w 3 = 4294967295 ∧ w 0 % 2 = 0 ∧ w 4 = 0) ∨ (w 3 < 3 ∧ w 0 % 2 = 1)) ∧ (1 ≤ w 4 → w 5 < 3 ∧ ¬ w 5 = w 3) ∧ (w 4 = 2 → w 6 < 3 ∧ ¬ w 6 = w 3 ∧ ¬ w 6 = w 5) ∧ ∀ c, c < 3 → w (12 + c) ≤ b) ∧
  ∀ r, r < 4 → w (15 + 17 * r) ≤ 1 ∧ (w (15 + 17 * r + 1) = 4294967295 ∨ w (15 + 17 * r + 1) ≤ 2 * b) ∧ w (15 + 17 * r + 2) ≤ 5 ∧ w (15 + 17 * r + 3) ≤ b ∧ w (15 + 17 * r + 4) ≤ b ∧ w (15 + 17 * r + 5) ≤ b ∧ w (15 + 17 * r + 6) ≤ 1
theorem m_pt_le (tx : Nat → Nat) (len n ix fl : Nat) (td : Nat → Nat) : (m_pt tx len n ix fl td).2.2.2 ≤ 1 := by
  unfold m_pt
  (repeat' split) <;> simp
theorem m_pt_ok {tx : Nat → Nat} {len n ix fl : Nat} {td : Nat → Nat} (h : (m_pt tx len n ix fl td).2.2.2 = 1) : ix + 2 ≤ (m_pt tx len n ix fl td).1 ∧ (m_pt tx len n ix fl td).1 ≤ len ∧ (m_pt tx len n ix fl td).2.1 = fl := by
  revert h
  unfold m_pt
  (repeat' split) <;> intro h <;> first | (refine ⟨?_, ?_, rfl⟩ <;> dsimp only <;> omega) | (exact absurd (show (0 : Nat) = 1 from h) (by decide))
theorem m_tx_end {tx : Nat → Nat} {len f ix n : Nat} {td : Nat → Nat} (h : ¬ ix < len) : m_tx tx len (f + 1) ix n td = (ix, 0, n, td, bn (0 < n)) := if_neg h
theorem m_tx_no {tx : Nat → Nat} {len f ix n : Nat} {td : Nat → Nat} (h : ix < len) (h2 : (m_pt tx len n ix 0 td).2.2.2 = 0) : m_tx tx len (f + 1) ix n td = ((m_pt tx len n ix 0 td).1, (m_pt tx len n ix 0 td).2.1, n, (m_pt tx len n ix 0 td).2.2.1, 0) := by
  rw [m_tx, if_pos h, if_neg (by omega)]
theorem m_tx_yes {tx : Nat → Nat} {len f ix n : Nat} {td : Nat → Nat} (h : ix < len) (h2 : ¬ (m_pt tx len n ix 0 td).2.2.2 = 0) : m_tx tx len (f + 1) ix n td = m_tx tx len f (m_pt tx len n ix 0 td).1 (n + 1) (m_pt tx len n ix 0 td).2.2.1 := by
  have h3 := m_pt_le tx len n ix 0 td
  rw [m_tx, if_pos h, if_pos (by omega)]
/-- one deed more: the bound grows by one -/
theorem m_I_up {b b' : Nat} {w : Nat → Nat} (h : m_I b w) (hb : b ≤ b') : m_I b' w := by
  obtain ⟨⟨h1, h2, h3, h4, h5⟩, ⟨h6, h7, h8, h9, h10⟩, h11⟩ := h
  refine ⟨⟨by omega, h2, by omega, h4, h5⟩, ⟨h6, h7, h8, h9, fun c hc => by have := h10 c hc; omega⟩, fun r hr => ?_⟩
  have := h11 r hr
  omega
theorem n_up_at {f : Nat → Nat} {i x : Nat} : va_up f i x i = x := if_pos rfl
theorem n_up_ne {f : Nat → Nat} {i x k : Nat} (h : ¬ k = i) : va_up f i x k = f k := if_neg h
def m_act (v : Nat → Nat → Nat) (code : Nat) (w : Nat → Nat) : Nat → Nat → Nat := va_up (va_up (va_up v 0 (va_up (va_up (v 0) 0 (if code = 0 then m_svs (v 0 0) else v 0 0)) 2 code)) 1 (if code = 0 then w else v 1)) 2 (if code = 0 then m_svp (v 0 0) (v 1) (v 2) else v 2)
theorem m_act_0 (v : Nat → Nat → Nat) (w : Nat → Nat) : m_act v 0 w = va_up (va_up (va_up v 0 (va_up (va_up (v 0) 0 (m_svs (v 0 0))) 2 0)) 1 w) 2 (m_svp (v 0 0) (v 1) (v 2)) := rfl
theorem m_act_f {v : Nat → Nat → Nat} {c : Nat} {w : Nat → Nat} (h : ¬ c = 0) : m_act v c w = va_up v 0 (va_up (v 0) 2 c) := by
  unfold m_act
  rw [if_neg h, if_neg h, if_neg h]
  funext i k
  unfold va_up
  by_cases h0 : i = 0
  · subst h0
    by_cases h2 : k = 2
    · subst h2
      rfl
    · by_cases h3 : k = 0
      · subst h3
        rfl
      · simp [h2, h3]
  · by_cases h1 : i = 1
    · subst h1
      rfl
    · by_cases h2 : i = 2
      · subst h2
        rfl
      · simp [h0, h1, h2]
/-- a deed as it is told -/
def m_good (td : Nat → Nat) (k : Nat) : Prop := ((td (3 * k) = 99 ∨ td (3 * k) = 100) ∧ td (3 * k + 1) < 3) ∨ (td (3 * k) = 119 ∧ td (3 * k + 1) < 5 ∧ td (3 * k + 2) < 100) ∨ ((td (3 * k) = 98 ∨ td (3 * k) = 108) ∧ td (3 * k + 1) < 4)
theorem m_pt_good {tx : Nat → Nat} {len n ix fl : Nat} {td : Nat → Nat} (h : (m_pt tx len n ix fl td).2.2.2 = 1) (hk : ∀ k, k < n → m_good td k) : ∀ k, k < n + 1 → m_good (m_pt tx len n ix fl td).2.2.1 k := by
  revert h
  unfold m_pt
  (repeat' split) <;> intro h
  · rename_i h1 h2 h3 h4 h5
    intro k hkn
    dsimp only
    unfold m_hi at h2
    rw [if_pos h3] at h2
    by_cases e : k = n
    · subst e
      refine Or.inr (Or.inl ?_)
      rw [n_up_ne (by omega), n_up_ne (by omega), n_up_at, n_up_ne (by omega), n_up_at, n_up_at]
      omega
    · have := hk k (by omega)
      unfold m_good at this ⊢
      rw [n_up_ne (by omega), n_up_ne (by omega), n_up_ne (by omega), n_up_ne (by omega), n_up_ne (by omega), n_up_ne (by omega), n_up_ne (by omega), n_up_ne (by omega), n_up_ne (by omega)]
      exact this
  · exact absurd (show (0 : Nat) = 1 from h) (by decide)
  · exact absurd (show (0 : Nat) = 1 from h) (by decide)
  · rename_i h1 h2 h3
    intro k hkn
    dsimp only
    by_cases e : k = n
    · subst e
      unfold m_good
      rw [n_up_ne (by omega), n_up_at, n_up_at]
      unfold m_hi at h2
      rw [if_neg h3] at h2
      split at h2
      · exact Or.inl ⟨by omega, by omega⟩
      · exact Or.inr (Or.inr ⟨by omega, by omega⟩)
    · have := hk k (by omega)
      unfold m_good at this ⊢
      rw [n_up_ne (by omega), n_up_ne (by omega), n_up_ne (by omega), n_up_ne (by omega), n_up_ne (by omega), n_up_ne (by omega)]
      exact this
  · exact absurd (show (0 : Nat) = 1 from h) (by decide)
  · exact absurd (show (0 : Nat) = 1 from h) (by decide)
theorem m_tx_good {tx : Nat → Nat} {len : Nat} : ∀ (f ix n : Nat) (td : Nat → Nat), 2 * n ≤ ix → ix ≤ len → (∀ k, k < n → m_good td k) → (m_tx tx len f ix n td).2.2.2.2 = 1 → 2 * (m_tx tx len f ix n td).2.2.1 ≤ len ∧ ∀ k, k < (m_tx tx len f ix n td).2.2.1 → m_good (m_tx tx len f ix n td).2.2.2.1 k
  | 0, ix, n, td, _, _, _, h => absurd h (by rw [m_tx]; exact Nat.zero_ne_one)
  | f + 1, ix, n, td, h1, h2, hk, h => by
    by_cases c1 : ix < len
    · by_cases c2 : (m_pt tx len n ix 0 td).2.2.2 = 0
      · rw [m_tx_no c1 c2] at h
        exact absurd (show (0 : Nat) = 1 from h) (by decide)
      · have h3 := m_pt_le tx len n ix 0 td
        have h4 : (m_pt tx len n ix 0 td).2.2.2 = 1 := by omega
        have h5 := m_pt_ok h4
        rw [m_tx_yes c1 c2] at h ⊢
        exact m_tx_good f _ _ _ (by omega) (by omega) (m_pt_good h4 hk) h
    · rw [m_tx_end c1] at h ⊢
      exact ⟨by dsimp only; omega, hk⟩
theorem m_tx_le (tx : Nat → Nat) (len : Nat) : ∀ (f ix n : Nat) (td : Nat → Nat), (m_tx tx len f ix n td).2.2.2.2 ≤ 1
  | 0, ix, n, td => by rw [m_tx]; exact Nat.zero_le _
  | f + 1, ix, n, td => by
    rw [m_tx]
    (repeat' split) <;> first | exact m_tx_le tx len f _ _ _ | exact Nat.zero_le _ | exact bn_le _
theorem m_pt_at {tx : Nat → Nat} {len n ix fl : Nat} {td : Nat → Nat} (h : ix < len) (hl : fl ≤ 1) : (m_pt tx len n ix fl td).1 ≤ len + 4 ∧ (m_pt tx len n ix fl td).2.1 ≤ 1 := by
  unfold m_pt
  (repeat' split) <;> refine ⟨?_, ?_⟩ <;> dsimp only <;> first | omega | exact bn_le _ | exact hl
theorem m_tx_at (tx : Nat → Nat) (len : Nat) : ∀ (f ix n : Nat) (td : Nat → Nat), ix ≤ len + 4 → (m_tx tx len f ix n td).1 ≤ len + 4 ∧ (m_tx tx len f ix n td).2.1 ≤ 1
  | 0, ix, n, td, h => by rw [m_tx]; exact ⟨h, Nat.zero_le _⟩
  | f + 1, ix, n, td, h => by
    by_cases c1 : ix < len
    · by_cases c2 : (m_pt tx len n ix 0 td).2.2.2 = 0
      · rw [m_tx_no c1 c2]
        exact m_pt_at c1 (Nat.zero_le _)
      · rw [m_tx_yes c1 c2]
        exact m_tx_at tx len f _ _ _ (m_pt_at c1 (Nat.zero_le _)).1
    · rw [m_tx_end c1]
      exact ⟨h, Nat.zero_le _⟩
/-! the invariant, over every deed -/
def m_IR (b : Nat) (w : Nat → Nat) (r : Nat) : Prop := w (15 + 17 * r) ≤ 1 ∧ (w (15 + 17 * r + 1) = 4294967295 ∨ w (15 + 17 * r + 1) ≤ 2 * b) ∧ w (15 + 17 * r + 2) ≤ 5 ∧ w (15 + 17 * r + 3) ≤ b ∧ w (15 + 17 * r + 4) ≤ b ∧ w (15 + 17 * r + 5) ≤ b ∧ w (15 + 17 * r + 6) ≤ 1
theorem m_IR_eq {b : Nat} {w w' : Nat → Nat} {r : Nat} (h : m_IR b w r) (e : ∀ k, k < 7 → w' (15 + 17 * r + k) = w (15 + 17 * r + k)) : m_IR b w' r := by
  unfold m_IR at h ⊢
  rw [show w' (15 + 17 * r) = w (15 + 17 * r) from e 0 (by omega), e 1 (by omega), e 2 (by omega), e 3 (by omega), e 4 (by omega), e 5 (by omega), e 6 (by omega)]
  exact h
theorem n_up_lt {f : Nat → Nat} {i x b : Nat} (h : ∀ k, f k < b) (hx : x < b) : ∀ k, va_up f i x k < b := by
  intro k
  unfold va_up
  split
  · exact hx
  · exact h k
theorem m_comes_I {b : Nat} {w : Nat → Nat} {c : Nat} (hI : m_I b w) (hb : b < 2 ^ 28) (hc : c < 3) (hm : m_mode w c = 0) : m_I (b + 1) (m_comes w c) := by
  obtain ⟨⟨h1, h2, h3, h4, h5⟩, ⟨h6, h7, h8, h9, h10⟩, h11⟩ := hI
  unfold m_mode at hm
  split at hm
  · exact absurd hm (by decide)
  · rename_i m1
    split at hm
    · exact absurd hm (by decide)
    · rename_i m2
      unfold m_comes
      split
      · rename_i o
        rcases h7 with h7 | h7
        · omega
        · have h12 : ¬ (2 ≤ w 4) := by
            intro q
            have := h9 (by omega)
            have := h8 (by omega)
            omega
          have hcase : w 4 = 0 ∨ w 4 = 1 := by omega
          refine ⟨⟨?_, n_up_lt (n_up_lt h2 (by omega)) (by omega), ?_, ?_, ?_⟩, ⟨?_, ?_, ?_, ?_, ?_⟩, ?_⟩
          · rw [n_up_ne (by omega), n_up_ne (by omega)]; omega
          · rw [n_up_ne (by omega), n_up_ne (by omega)]; omega
          · rw [n_up_ne (by omega), n_up_ne (by omega)]; omega
          · rw [n_up_ne (by omega), n_up_ne (by omega)]; omega
          · rw [n_up_at]; omega
          · rw [n_up_ne (by omega), n_up_ne (by omega), n_up_ne (by omega), n_up_ne (by omega), n_up_at]; omega
          · intro _
            have := h8
            refine ⟨?_, ?_⟩ <;> unfold va_up <;> (repeat' split) <;> omega
          · have h8' := h8
            rw [n_up_at]
            intro q
            refine ⟨?_, ?_, ?_⟩ <;> unfold va_up <;> (repeat' split) <;> omega
          · intro c' hc'
            have := h10 c' hc'
            rw [n_up_ne (by omega), n_up_ne (by omega)]; omega
          · intro r hr
            have h := h11 r hr
            have e : ∀ k, k < 7 → va_up (va_up w (5 + w 4) c) 4 (w 4 + 1) (15 + 17 * r + k) = w (15 + 17 * r + k) := fun k hk => by
              rw [n_up_ne (by omega), n_up_ne (by omega)]
            have g : m_IR (b + 1) w r := by unfold m_IR; omega
            exact m_IR_eq g e
      · rename_i o
        rcases h7 with h7 | h7
        · refine ⟨⟨?_, n_up_lt (n_up_lt h2 (by omega)) (by omega), ?_, ?_, ?_⟩, ⟨?_, ?_, ?_, ?_, ?_⟩, ?_⟩
          · rw [n_up_at]; omega
          · rw [n_up_ne (by omega), n_up_ne (by omega)]; omega
          · rw [n_up_ne (by omega), n_up_ne (by omega)]; omega
          · rw [n_up_ne (by omega), n_up_ne (by omega)]; omega
          · rw [n_up_ne (by omega), n_up_ne (by omega)]; omega
          · rw [n_up_ne (by omega), n_up_at, n_up_at, n_up_ne (by omega), n_up_ne (by omega)]; omega
          · rw [n_up_ne (by omega), n_up_ne (by omega)]; omega
          · rw [n_up_ne (by omega), n_up_ne (by omega)]; omega
          · intro c' hc'
            have := h10 c' hc'
            rw [n_up_ne (by omega), n_up_ne (by omega)]; omega
          · intro r hr
            have h := h11 r hr
            have e : ∀ k, k < 7 → va_up (va_up w 3 c) 0 (w 0 + 1) (15 + 17 * r + k) = w (15 + 17 * r + k) := fun k hk => by
              rw [n_up_ne (by omega), n_up_ne (by omega)]
            have g : m_IR (b + 1) w r := by unfold m_IR; omega
            exact m_IR_eq g e
        · omega
theorem m_w4 {b : Nat} {w : Nat → Nat} {c : Nat} (hI : m_I b w) (hc : c < 3) (hm : m_mode w c = 0) : w 4 < 2 := by
  obtain ⟨_, ⟨h6, h7, h8, h9, _⟩, _⟩ := hI
  unfold m_mode at hm
  split at hm
  · exact absurd hm (by decide)
  · split at hm
    · exact absurd hm (by decide)
    · rename_i m1 m2
      have q : ¬ w 4 = 2 := by
        intro q
        have := h9 q
        have := h8 (by omega)
        rcases h7 with h7 | h7 <;> omega
      omega
theorem m_mode1 {w : Nat → Nat} {c : Nat} (h : m_mode w c = 1) : w 3 = c := by
  unfold m_mode at h
  split at h
  · assumption
  · split at h <;> exact absurd h (by decide)
/-- what the invariant says of a row that is another one at some places -/
theorem m_I_of {b b' : Nat} {w w' : Nat → Nat} (hI : m_I b w) (hb : b ≤ b') (h0 : w' 0 ≤ 2 * b') (hlt : ∀ k, w' k < 2 ^ 32) (h2 : w' 2 ≤ b') (h1 : w' 1 = w 1)
    (hB : w' 4 ≤ 2 ∧ ((w' 3 = 4294967295 ∧ w' 0 % 2 = 0 ∧ w' 4 = 0) ∨ (w' 3 < 3 ∧ w' 0 % 2 = 1)) ∧ (1 ≤ w' 4 → w' 5 < 3 ∧ ¬ w' 5 = w' 3) ∧ (w' 4 = 2 → w' 6 < 3 ∧ ¬ w' 6 = w' 3 ∧ ¬ w' 6 = w' 5) ∧ ∀ c, c < 3 → w' (12 + c) ≤ b')
    (hR : ∀ r, r < 4 → m_IR b' w' r) : m_I b' w' := by
  obtain ⟨⟨_, _, _, i4, i5⟩, _, _⟩ := hI
  exact ⟨⟨h0, hlt, h2, by omega, by omega⟩, hB, hR⟩
theorem m_IR_up {b b' : Nat} {w : Nat → Nat} {r : Nat} (h : m_IR b w r) (hb : b ≤ b') : m_IR b' w r := by
  unfold m_IR at h ⊢
  omega
theorem m_chalk_I {b : Nat} {w : Nat → Nat} {f x : Nat} (hI : m_I b w) (hf : f < 5) (hx : x < 2 ^ 32) : m_I (b + 1) (va_up w (7 + f) x) := by
  have hc := hI
  obtain ⟨⟨h1, h2, h3, h4, h5⟩, ⟨h6, h7, h8, h9, h10⟩, h11⟩ := hI
  refine m_I_of hc (by omega) ?_ (n_up_lt h2 hx) ?_ ?_ ⟨?_, ?_, ?_, ?_, fun c hc => ?_⟩ fun r hr => m_IR_eq (m_IR_up (h11 r hr) (by omega)) fun k hk => ?_
  · rw [n_up_ne (by omega)]; omega
  · rw [n_up_ne (by omega)]; omega
  · rw [n_up_ne (by omega)]
  · rw [n_up_ne (by omega)]; omega
  · rw [n_up_ne (by omega), n_up_ne (by omega), n_up_ne (by omega)]; exact h7
  · rw [n_up_ne (by omega), n_up_ne (by omega), n_up_ne (by omega)]; exact h8
  · rw [n_up_ne (by omega), n_up_ne (by omega), n_up_ne (by omega), n_up_ne (by omega)]; exact h9
  · rw [n_up_ne (by omega)]; have := h10 c hc; omega
  · rw [n_up_ne (by omega)]
theorem m_set_I {b : Nat} {w : Nat → Nat} {x : Nat} (hI : m_I b w) (hx : 1 ≤ x) (hx2 : x ≤ 20) : m_I (b + 1) (va_up w 1 x) := by
  obtain ⟨⟨h1, h2, h3, h4, h5⟩, ⟨h6, h7, h8, h9, h10⟩, h11⟩ := hI
  refine ⟨⟨?_, n_up_lt h2 (by omega), ?_, ?_, ?_⟩, ⟨?_, ?_, ?_, ?_, fun c hc => ?_⟩, fun r hr => m_IR_eq (m_IR_up (h11 r hr) (by omega)) fun k hk => ?_⟩
  · rw [n_up_ne (by omega)]; omega
  · rw [n_up_ne (by omega)]; omega
  · rw [n_up_at]; omega
  · rw [n_up_at]; omega
  · rw [n_up_ne (by omega)]; omega
  · rw [n_up_ne (by omega), n_up_ne (by omega), n_up_ne (by omega)]; exact h7
  · rw [n_up_ne (by omega), n_up_ne (by omega), n_up_ne (by omega)]; exact h8
  · rw [n_up_ne (by omega), n_up_ne (by omega), n_up_ne (by omega), n_up_ne (by omega)]; exact h9
  · rw [n_up_ne (by omega)]; have := h10 c hc; omega
  · rw [n_up_ne (by omega)]
theorem m_keep5_at {w : Nat → Nat} {a k : Nat} (h : k < a) : m_keep5 w a k = w k := by
  unfold m_keep5
  rw [n_up_ne (by omega), n_up_ne (by omega), n_up_ne (by omega), n_up_ne (by omega), n_up_ne (by omega)]
theorem m_keep5_lt {w : Nat → Nat} {a b : Nat} (h : ∀ k, w k < b) : ∀ k, m_keep5 w a k < b :=
  n_up_lt (n_up_lt (n_up_lt (n_up_lt (n_up_lt h (h _)) (h _)) (h _)) (h _)) (h _)
theorem m_ends0_at {w : Nat → Nat} {c k : Nat} (hk : k < 83) (h3 : ¬ k = 3) (hc : ¬ k = 12 + c) (h0 : ¬ k = 0) : m_ends0 w c k = w k := by
  unfold m_ends0
  rw [n_up_ne h3, n_up_ne hc, m_keep5_at (by omega), n_up_ne h0]
theorem m_ends0_0 {w : Nat → Nat} {c : Nat} : m_ends0 w c 0 = w 0 + 1 := by
  unfold m_ends0
  rw [n_up_ne (by omega), n_up_ne (by omega), m_keep5_at (by omega), n_up_at]
theorem m_ends0_3 {w : Nat → Nat} {c : Nat} : m_ends0 w c 3 = 4294967295 := n_up_at
theorem m_ends0_c {w : Nat → Nat} {c : Nat} (hc : c < 3) : m_ends0 w c (12 + c) = w (12 + c) + 1 := by
  unfold m_ends0
  rw [n_up_ne (by omega), n_up_at]
theorem m_ends0_lt {w : Nat → Nat} {c b : Nat} (h : ∀ k, w k < 2 ^ 32) (h0 : w 0 + 1 < 2 ^ 32) (hc : w (12 + c) + 1 < 2 ^ 32) : ∀ k, m_ends0 w c k < 2 ^ 32 :=
  n_up_lt (n_up_lt (m_keep5_lt (n_up_lt h h0)) hc) (by omega)
theorem m_ends_I {b : Nat} {w : Nat → Nat} {c : Nat} (hI : m_I b w) (hb : b < 2 ^ 28) (hc : c < 3) (hm : m_mode w c = 1) : m_I (b + 1) (m_ends w c) := by
  have hcc := hI
  have h3c := m_mode1 hm
  obtain ⟨⟨h1, h2, h3, h4, h5⟩, ⟨h6, h7, h8, h9, h10⟩, h11⟩ := hI
  have hd := h10 c hc
  have hlt := m_ends0_lt (b := b) (c := c) h2 (by omega) (by omega)
  have hodd : w 0 % 2 = 1 := by rcases h7 with h7 | h7 <;> omega
  have hdone : ∀ c', c' < 3 → m_ends0 w c (12 + c') ≤ b + 1 := by
    intro c' hc'
    have := h10 c' hc'
    by_cases q : c' = c
    · subst q
      rw [m_ends0_c hc]
      omega
    · rw [m_ends0_at (by omega) (by omega) (by omega) (by omega)]
      omega
  have hR : ∀ r, r < 4 → m_IR (b + 1) (m_ends0 w c) r := fun r hr => m_IR_eq (m_IR_up (h11 r hr) (by omega)) fun k hk => m_ends0_at (by omega) (by omega) (by omega) (by omega)
  unfold m_ends
  split
  · rename_i q4
    have q5 := h8 (by omega)
    have hw5 := h2 5
    have hw6 := h2 6
    refine m_I_of hcc (by omega) ?_ (n_up_lt (n_up_lt (n_up_lt (n_up_lt hlt (by omega)) (by omega)) (by omega)) (by omega)) ?_ ?_ ⟨?_, ?_, ?_, ?_, fun c' hc' => ?_⟩ fun r hr => m_IR_eq (hR r hr) fun k hk => ?_
    · rw [n_up_at]; omega
    · rw [n_up_ne (by omega), n_up_ne (by omega), n_up_ne (by omega), n_up_ne (by omega), m_ends0_at (by omega) (by omega) (by omega) (by omega)]; omega
    · rw [n_up_ne (by omega), n_up_ne (by omega), n_up_ne (by omega), n_up_ne (by omega), m_ends0_at (by omega) (by omega) (by omega) (by omega)]
    · rw [n_up_ne (by omega), n_up_at]; omega
    · rw [n_up_at, n_up_ne (by omega), n_up_ne (by omega), n_up_ne (by omega), n_up_at]; omega
    · rw [n_up_ne (by omega), n_up_at, n_up_ne (by omega), n_up_ne (by omega), n_up_at, n_up_ne (by omega), n_up_ne (by omega), n_up_ne (by omega), n_up_at]
      intro q
      have := h9 (by omega)
      omega
    · rw [n_up_ne (by omega), n_up_at]
      intro q
      omega
    · rw [n_up_ne (by omega), n_up_ne (by omega), n_up_ne (by omega), n_up_ne (by omega)]
      exact hdone c' hc'
    · rw [n_up_ne (by omega), n_up_ne (by omega), n_up_ne (by omega), n_up_ne (by omega)]
  · rename_i q4
    refine m_I_of hcc (by omega) ?_ hlt ?_ ?_ ⟨?_, ?_, ?_, ?_, hdone⟩ hR
    · rw [m_ends0_0]; omega
    · rw [m_ends0_at (by omega) (by omega) (by omega) (by omega)]; omega
    · rw [m_ends0_at (by omega) (by omega) (by omega) (by omega)]
    · rw [m_ends0_at (by omega) (by omega) (by omega) (by omega)]; omega
    · rw [m_ends0_3, m_ends0_0, m_ends0_at (k := 4) (by omega) (by omega) (by omega) (by omega)]; omega
    · rw [m_ends0_at (k := 4) (by omega) (by omega) (by omega) (by omega)]; omega
    · rw [m_ends0_at (k := 4) (by omega) (by omega) (by omega) (by omega)]; omega
/-- a row that differs in one reader's numbers alone, and perhaps in the count of halves -/
theorem m_I_rd {b : Nat} {w w' : Nat → Nat} {r : Nat} (hI : m_I b w) (hr : r < 4) (e : ∀ k, k < 163 → ¬ k = 2 → (k < 15 + 17 * r ∨ 32 + 17 * r ≤ k) → w' k = w k) (h2 : w' 2 ≤ b + 1) (hlt : ∀ k, w' k < 2 ^ 32) (hR : m_IR (b + 1) w' r) : m_I (b + 1) w' := by
  have hc := hI
  obtain ⟨⟨h1, h3, h5, h4, h5'⟩, ⟨h6, h7, h8, h9, h10⟩, h11⟩ := hI
  have e0 := e 0 (by omega) (by omega) (by omega)
  have e3 := e 3 (by omega) (by omega) (by omega)
  have e4 := e 4 (by omega) (by omega) (by omega)
  have e5 := e 5 (by omega) (by omega) (by omega)
  have e6 := e 6 (by omega) (by omega) (by omega)
  refine m_I_of hc (by omega) (by omega) hlt h2 (e 1 (by omega) (by omega) (by omega)) ⟨by omega, by omega, by omega, by omega, fun c hc => ?_⟩ fun r' hr' => ?_
  · rw [e (12 + c) (by omega) (by omega) (by omega)]
    have := h10 c hc
    omega
  · by_cases q : r' = r
    · subst q
      exact hR
    · exact m_IR_eq (m_IR_up (h11 r' hr') (by omega)) fun k hk => e _ (by omega) (by omega) (by omega)
theorem m_fail_I {b : Nat} {w : Nat → Nat} {r : Nat} (hI : m_I b w) (hb : b < 2 ^ 28) (hr : r < 4) : m_I (b + 1) (m_fail w r) := by
  have hc := hI
  obtain ⟨⟨h1, h2, h3, h4, h5⟩, _, h11⟩ := hI
  have h := h11 r hr
  unfold m_fail
  refine m_I_rd hc hr (fun k _ _ q => ?_) ?_ (n_up_lt (n_up_lt (n_up_lt h2 (by omega)) (by omega)) (by omega)) ?_
  · rw [n_up_ne (by omega), n_up_ne (by omega), n_up_ne (by omega)]
  · rw [n_up_ne (by omega), n_up_ne (by omega), n_up_ne (by omega)]; omega
  · unfold m_IR
    simp only [va_up]
    refine ⟨?_, ?_, ?_, ?_, ?_, ?_, ?_⟩ <;> (repeat' split) <;> omega
theorem m_begins_I {b : Nat} {w : Nat → Nat} {r : Nat} (hI : m_I b w) (hb : b < 2 ^ 28) (hr : r < 4) : m_I (b + 1) (m_begins w r) := by
  have hc := hI
  unfold m_begins
  split
  · exact m_fail_I hI hb hr
  · obtain ⟨⟨h1, h2, h3, h4, h5⟩, _, h11⟩ := hI
    have h := h11 r hr
    refine m_I_rd hc hr (fun k _ _ q => ?_) ?_ (n_up_lt (n_up_lt h2 (by omega)) (by omega)) ?_
    · rw [n_up_ne (by omega), n_up_ne (by omega)]
    · rw [n_up_ne (by omega), n_up_ne (by omega)]; omega
    · unfold m_IR
      simp only [va_up]
      refine ⟨?_, ?_, ?_, ?_, ?_, ?_, ?_⟩ <;> (repeat' split) <;> omega
theorem m_anew_I {b : Nat} {w : Nat → Nat} {r h : Nat} (hI : m_I b w) (hr : r < 4) (hh : h ≤ 1) : m_I (b + 1) (m_anew w r h) := by
  have hc := hI
  obtain ⟨⟨h1, h2, h3, h4, h5⟩, _, h11⟩ := hI
  have h0 := h11 r hr
  unfold m_anew
  refine m_I_rd hc hr (fun k _ _ q => ?_) ?_ (n_up_lt (n_up_lt (n_up_lt (n_up_lt (n_up_lt h2 (by omega)) (by omega)) (by omega)) (by omega)) (by omega)) ?_
  · rw [n_up_ne (by omega), n_up_ne (by omega), n_up_ne (by omega), n_up_ne (by omega), n_up_ne (by omega)]
  · rw [n_up_ne (by omega), n_up_ne (by omega), n_up_ne (by omega), n_up_ne (by omega), n_up_ne (by omega)]; omega
  · unfold m_IR
    simp only [va_up]
    refine ⟨?_, ?_, ?_, ?_, ?_, ?_, ?_⟩ <;> (repeat' split) <;> omega
theorem m_own5_at {w : Nat → Nat} {a k : Nat} (h : k < a + 12 ∨ a + 17 ≤ k) : m_own5 w a k = w k := by
  unfold m_own5
  rw [n_up_ne (by omega), n_up_ne (by omega), n_up_ne (by omega), n_up_ne (by omega), n_up_ne (by omega)]
theorem m_well_at {w : Nat → Nat} {r k : Nat} (h : k < 15 + 17 * r ∨ 32 + 17 * r ≤ k) : m_well w r k = w k := by
  unfold m_well
  rw [n_up_ne (by omega), n_up_ne (by omega), n_up_ne (by omega), n_up_ne (by omega), m_own5_at (by omega)]
theorem m_looks_I {b : Nat} {w : Nat → Nat} {r : Nat} (hI : m_I b w) (hb : b < 2 ^ 28) (hr : r < 4) : m_I (b + 1) (m_looks w r) := by
  have hc := hI
  unfold m_looks
  obtain ⟨⟨h1, h2, h3, h4, h5⟩, _, h11⟩ := hI
  have h := h11 r hr
  split
  · rename_i q
    have h7 := h2 (7 + w (15 + 17 * r + 2))
    unfold m_take
    refine m_I_rd hc hr (fun k _ _ q => ?_) ?_ (n_up_lt (n_up_lt h2 (by omega)) (by omega)) ?_
    · rw [n_up_ne (by omega), n_up_ne (by omega)]
    · rw [n_up_ne (by omega), n_up_ne (by omega)]; omega
    · unfold m_IR
      simp only [va_up]
      refine ⟨?_, ?_, ?_, ?_, ?_, ?_, ?_⟩ <;> (repeat' split) <;> omega
  · split
    · exact m_fail_I hc hb hr
    · have hwl := m_well_lt (w := w) (r := r) h2 (by omega)
      refine m_I_rd hc hr (fun k _ k2 q => ?_) ?_ (n_up_lt hwl ?_) ?_
      · rw [n_up_ne k2, m_well_at (by omega)]
      · rw [n_up_at]; split <;> omega
      · split <;> omega
      · unfold m_IR
        rw [n_up_ne (by omega), n_up_ne (by omega), n_up_ne (by omega), n_up_ne (by omega), n_up_ne (by omega), n_up_ne (by omega), n_up_ne (by omega)]
        unfold m_well
        simp only [va_up]
        rw [m_own5_at (by omega), m_own5_at (by omega), m_own5_at (by omega), m_own5_at (by omega), m_own5_at (by omega), m_own5_at (by omega), m_own5_at (by omega)]
        refine ⟨?_, ?_, ?_, ?_, ?_, ?_, ?_⟩ <;> (repeat' split) <;> omega
theorem m_does_I {b k : Nat} {w td : Nat → Nat} (hI : m_I b w) (hb : b < 2 ^ 28) (hg : m_good td k) (hm : m_may w (td (3 * k)) (td (3 * k + 1))) : m_I (b + 1) (m_does w (td (3 * k)) (td (3 * k + 1)) (td (3 * k + 2))) := by
  unfold m_good at hg
  unfold m_may at hm
  unfold m_does
  split
  · exact m_comes_I hI hb (by omega) (by omega)
  · split
    · exact m_ends_I hI hb (by omega) (by omega)
    · split
      · exact m_chalk_I hI (by omega) (by omega)
      · split
        · exact m_begins_I hI hb (by omega)
        · exact m_looks_I hI hb (by omega)
theorem m_run_yes {td : Nat → Nat} {N f n : Nat} {w : Nat → Nat} (h : n < N) (hm : m_may w (td (3 * n)) (td (3 * n + 1))) : m_run td N (f + 1) n w = m_run td N f (n + 1) (m_does w (td (3 * n)) (td (3 * n + 1)) (td (3 * n + 2))) := by
  rw [m_run, if_pos ⟨h, hm⟩]
theorem m_run_no {td : Nat → Nat} {N f n : Nat} {w : Nat → Nat} (h : ¬ (n < N ∧ m_may w (td (3 * n)) (td (3 * n + 1)))) : m_run td N (f + 1) n w = (w, n) := by
  rw [m_run, if_neg h]
noncomputable def m_played (v : Nat → Nat → Nat) (TX : Nat × Nat × Nat × (Nat → Nat) × Nat) : Nat → Nat → Nat := if TX.2.2.2.2 = 1 then va_up (va_up (va_up (va_up v 0 (va_up (va_up (va_up (va_up (va_up (va_up (v 0) 0 (m_svs (v 0 0))) 1 0) 2 0) 3 TX.1) 4 TX.2.1) 5 TX.2.2.1)) 1 (m_run TX.2.2.2.1 TX.2.2.1 31 0 (v 1)).1) 2 (m_svp (v 0 0) (v 1) (v 2))) 4 TX.2.2.2.1 else va_up (va_up v 0 (va_up (va_up (va_up (va_up (v 0) 2 1) 3 TX.1) 4 TX.2.1) 5 TX.2.2.1)) 4 TX.2.2.2.1
theorem m_mode_le (w : Nat → Nat) (c : Nat) : m_mode w c ≤ 2 := by
  unfold m_mode
  (repeat' split) <;> omega
theorem m_ofr_le (w : Nat → Nat) (r : Nat) : m_ofr w r ≤ 2 := by
  unfold m_ofr
  (repeat' split) <;> omega
theorem m_tries_or (w : Nat → Nat) (r : Nat) : m_tries w r = 4294967295 ∨ m_tries w r ≤ 1 := by
  unfold m_tries
  (repeat' split) <;> omega
theorem m_halves_le (w : Nat → Nat) (r : Nat) : m_halves w r ≤ 1 := by
  unfold m_halves
  (repeat' split) <;> omega
