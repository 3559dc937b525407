/-! THE READERS: the same numbers, and what is told of them -/
theorem p_R_rd {b r : Nat} {v v' : Nat → Nat → Nat} {w w' : Nat → Nat} (hR : p_R v w) (hI : m_I b w) (hr : r < 4) (e0 : v' 0 0 = v 0 0) (e2 : v' 0 2 = v 0 2) (e1 : ∀ k, 1 ≤ k → k < 5 → v' k = v k) (ev : ∀ k, 5 ≤ k → ¬ k = 5 + 3 * r → ¬ k = 6 + 3 * r → ¬ k = 7 + 3 * r → v' k = v k) (ew : ∀ k, k < 163 → ¬ k = 2 → (k < 15 + 17 * r ∨ 32 + 17 * r ≤ k) → w' k = w k) (h2 : v' 0 1 = w' 2) (hRR : p_RR v' w' r) : p_R v' w' := by
  obtain ⟨⟨a0, a1, a2⟩, a3, a4, a5, a6, a7⟩ := hR
  obtain ⟨_, _, i11⟩ := hI
  refine ⟨⟨?_, h2, ?_⟩, fun f' hf' => ?_, fun c' hc' => ?_, fun c' hc' => ?_, fun k hk => ?_, fun r' hr' => ?_⟩
  · rw [e0, ew 0 (by omega) (by omega) (by omega)]; exact a0
  · rw [e2, ew 1 (by omega) (by omega) (by omega)]; exact a2
  · rw [e1 1 (by omega) (by omega), ew _ (by omega) (by omega) (by omega)]; exact a3 f' hf'
  · rw [e1 2 (by omega) (by omega), ew _ (by omega) (by omega) (by omega)]; exact a4 c' hc'
  · rw [e1 3 (by omega) (by omega), p_pl_eq (fun k h1 h2 => ew k (by omega) (by omega) (by omega))]; exact a5 c' hc'
  · rw [e1 4 (by omega) (by omega), ew _ (by omega) (by omega) (by omega)]; exact a6 k hk
  · by_cases q : r' = r
    · subst q
      exact hRR
    · exact p_RR_eq (a7 r' hr') (ev _ (by omega) (by omega) (by omega) (by omega)) (ev _ (by omega) (by omega) (by omega) (by omega)) (ev _ (by omega) (by omega) (by omega) (by omega)) (fun k hk => ew _ (by omega) (by omega) (by omega)) (i11 r' hr').2.2.1
theorem p_ofr {w : Nat → Nat} {r : Nat} : (m_ofr w r = 2 ↔ (w (15 + 17 * r + 1) = 4294967295 ∧ w (15 + 17 * r) = 1 ∧ w 1 ≤ w (15 + 17 * r + 3))) ∧ (m_ofr w r = 1 ↔ ¬ w (15 + 17 * r + 1) = 4294967295) ∧ m_ofr w r ≤ 2 := by
  unfold m_ofr
  (repeat' split) <;> omega
/-- what a reader's numbers are, in one place -/
theorem p_rd {b r : Nat} {v : Nat → Nat → Nat} {w : Nat → Nat} (hR : p_R v w) (hI : m_I b w) (hr : r < 4) : (v (5 + 3 * r) 0 = w (15 + 17 * r) ∧ v (5 + 3 * r) 0 ≤ 1) ∧ ((v (5 + 3 * r) 1 = 0 ∧ w (15 + 17 * r + 1) = 4294967295) ∨ (v (5 + 3 * r) 1 = 1 ∧ ¬ w (15 + 17 * r + 1) = 4294967295 ∧ v (5 + 3 * r) 3 = w (15 + 17 * r + 1) ∧ v (5 + 3 * r) 4 = w (15 + 17 * r + 2))) ∧ (v (5 + 3 * r) 2 = w (15 + 17 * r + 6) ∧ v (5 + 3 * r) 2 ≤ 1) ∧ v (5 + 3 * r) 5 = w (15 + 17 * r + 3) ∧ v (5 + 3 * r) 6 = w (15 + 17 * r + 4) ∧ v (5 + 3 * r) 7 = w (15 + 17 * r + 5) ∧ v 0 2 = w 1 ∧ v 0 0 = w 0 := by
  obtain ⟨⟨a0, a1, a2⟩, a3, a4, a5, a6, a7⟩ := hR
  obtain ⟨_, _, i11⟩ := hI
  obtain ⟨⟨r0, r1, r2, r5, r6, r7⟩, r8, r9⟩ := a7 r hr
  have i := i11 r hr
  refine ⟨by omega, ?_, by omega, r5, r6, r7, a2, a0⟩
  by_cases q : w (15 + 17 * r + 1) = 4294967295
  · rw [if_pos q] at r1
    exact Or.inl ⟨r1, q⟩
  · rw [if_neg q] at r1
    exact Or.inr ⟨r1, q, (r8 q).1, (r8 q).2.1⟩
theorem p_reader {b r h : Nat} {v : Nat → Nat → Nat} {w : Nat → Nat} (hR : p_R v w) (hI : m_I b w) (hr : r < 4) : p_R (va_up v (5 + 3 * r) (r_anew (fun j => v (j + (5 + 3 * r))) h 0)) (m_anew w r h) := by
  have hd := p_rd hR hI hr
  obtain ⟨⟨a0, a1, a2⟩, _⟩ := id hR
  have ew : ∀ k, (k < 15 + 17 * r ∨ 32 + 17 * r ≤ k) → m_anew w r h k = w k := fun k hk => by
    unfold m_anew
    rw [n_up_ne (by omega), n_up_ne (by omega), n_up_ne (by omega), n_up_ne (by omega), n_up_ne (by omega)]
  refine p_R_rd hR hI hr (by rw [n_up_ne2 (by omega)]) (by rw [n_up_ne2 (by omega)]) (fun k h1 h2 => n_up_ne2 (by omega)) (fun k h1 h2 _ _ => n_up_ne2 h2) (fun k _ _ hk => ew k hk) ?_ ?_
  · rw [n_up_ne2 (by omega), ew _ (by omega)]; exact a1
  · have w1 : m_anew w r h (15 + 17 * r + 1) = 4294967295 := by
      unfold m_anew
      rw [n_up_ne (by omega), n_up_ne (by omega), n_up_ne (by omega), n_up_at]
    have w6 : m_anew w r h (15 + 17 * r + 6) = 0 := n_up_at
    refine ⟨⟨?_, ?_, ?_, ?_, ?_, ?_⟩, fun q => absurd w1 q, fun q => absurd (w6.symm.trans q) (by decide)⟩
    · rw [n_up_at2]
      unfold m_anew
      rw [n_up_ne (by omega), n_up_ne (by omega), n_up_ne (by omega), n_up_ne (by omega), n_up_at]
      rfl
    · rw [n_up_at2, w1, if_pos rfl]
      rfl
    · rw [n_up_at2, w6]
      rfl
    · rw [n_up_at2]
      unfold m_anew
      rw [n_up_ne (by omega), n_up_at]
      rfl
    · rw [n_up_at2]
      unfold m_anew
      rw [n_up_ne (by omega), n_up_ne (by omega), n_up_ne (by omega), n_up_ne (by omega), n_up_ne (by omega)]
      show v (0 + (5 + 3 * r)) 6 = _
      rw [Nat.zero_add]
      omega
    · rw [n_up_at2]
      unfold m_anew
      rw [n_up_ne (by omega), n_up_ne (by omega), n_up_ne (by omega), n_up_ne (by omega), n_up_ne (by omega)]
      show v (0 + (5 + 3 * r)) 7 = _
      rw [Nat.zero_add]
      omega
/-- a try that failed, on both sides -/
theorem p_fail {b r : Nat} {v v' : Nat → Nat → Nat} {w : Nat → Nat} (hR : p_R v w) (hI : m_I b w) (hr : r < 4) (hv : v' = va_up v (5 + 3 * r) (va_up (va_up (va_up (v (5 + 3 * r)) 1 0) 5 (v (5 + 3 * r) 5 + 1)) 6 (v (5 + 3 * r) 6 + 1))) : p_R v' (m_fail w r) := by
  subst hv
  have hd := p_rd hR hI hr
  obtain ⟨⟨a0, a1, a2⟩, _, _, _, _, a7⟩ := id hR
  have w1 : m_fail w r (15 + 17 * r + 1) = 4294967295 := by
    unfold m_fail
    rw [n_up_ne (by omega), n_up_ne (by omega), n_up_at]
  have w3 : m_fail w r (15 + 17 * r + 3) = w (15 + 17 * r + 3) + 1 := by
    unfold m_fail
    rw [n_up_ne (by omega), n_up_at]
  have w4 : m_fail w r (15 + 17 * r + 4) = w (15 + 17 * r + 4) + 1 := n_up_at
  have wk : ∀ k, ¬ k = 15 + 17 * r + 1 → ¬ k = 15 + 17 * r + 3 → ¬ k = 15 + 17 * r + 4 → m_fail w r k = w k := fun k h1 h3 h4 => by
    unfold m_fail
    rw [n_up_ne h4, n_up_ne h3, n_up_ne h1]
  refine p_R_rd hR hI hr (by rw [n_up_ne2 (by omega)]) (by rw [n_up_ne2 (by omega)]) (fun k h1 h2 => n_up_ne2 (by omega)) (fun k h1 h2 _ _ => n_up_ne2 h2) (fun k _ _ hk => wk k (by omega) (by omega) (by omega)) ?_ ?_
  · rw [n_up_ne2 (by omega), wk _ (by omega) (by omega) (by omega)]; exact a1
  · refine ⟨⟨?_, ?_, ?_, ?_, ?_, ?_⟩, fun q => absurd w1 q, fun q f hf => ?_⟩
    · rw [n_up_at2, wk _ (by omega) (by omega) (by omega)]
      show v (5 + 3 * r) 0 = _
      omega
    · rw [n_up_at2, w1, if_pos rfl]
      rfl
    · rw [n_up_at2, wk _ (by omega) (by omega) (by omega)]
      show v (5 + 3 * r) 2 = _
      omega
    · rw [n_up_at2, w3]
      show v (5 + 3 * r) 5 + 1 = _
      omega
    · rw [n_up_at2, w4]
      show v (5 + 3 * r) 6 + 1 = _
      omega
    · rw [n_up_at2, wk _ (by omega) (by omega) (by omega)]
      show v (5 + 3 * r) 7 = _
      omega
    · rw [wk _ (by omega) (by omega) (by omega)] at q
      rw [n_up_ne2 (by omega), wk _ (by omega) (by omega) (by omega)]
      exact (a7 r hr).2.2 q f hf
theorem p_wf {b r : Nat} {v : Nat → Nat → Nat} {w : Nat → Nat} (hR : p_R v w) (hI : m_I b w) (hr : r < 4) : s_wf v r ↔ w (15 + 17 * r) = 1 ∧ ((¬ w (15 + 17 * r + 1) = 4294967295 ∧ ¬ w (15 + 17 * r + 1) = w 0) ∨ (w (15 + 17 * r + 1) = 4294967295 ∧ w 0 % 2 = 1)) := by
  have hd := p_rd hR hI hr
  unfold s_wf
  omega
theorem p_begin {b r : Nat} {v : Nat → Nat → Nat} {w : Nat → Nat} (hR : p_R v w) (hI : m_I b w) (hb : b < 2 ^ 28) (hr : r < 4) (hm : m_ofr w r = 0) : p_R (s_opn v r) (m_begins w r) ∧ (if s_wf v r then 0 else 1) = m_beginsr w r := by
  have hd := p_rd hR hI hr
  have ho := p_ofr (w := w) (r := r)
  have hwf := p_wf hR hI hr
  obtain ⟨⟨a0, a1, a2⟩, _, _, _, _, a7⟩ := id hR
  obtain ⟨⟨i1, i2, i3, i4, i5⟩, _, i11⟩ := id hI
  have hn : w (15 + 17 * r + 1) = 4294967295 := by omega
  have hop : s_opn v r = va_up v (5 + 3 * r) (if s_wf v r then va_up (va_up (va_up (v (5 + 3 * r)) 1 0) 5 (v (5 + 3 * r) 5 + 1)) 6 (v (5 + 3 * r) 6 + 1) else va_up (va_up (va_up (v (5 + 3 * r)) 1 1) 3 (v 0 0)) 4 0) := by
    unfold s_opn r_open r_wf s_wf
    rw [n_up_at2]
    simp only [Nat.zero_add]
  rw [hop]
  unfold m_begins m_beginsr
  by_cases q : s_wf v r
  · have q2 : w (15 + 17 * r) = 1 ∧ w 0 % 2 = 1 := by omega
    rw [if_pos q, if_pos q2, if_pos q, if_pos q2]
    exact ⟨p_fail hR hI hr rfl, rfl⟩
  · have q2 : ¬ (w (15 + 17 * r) = 1 ∧ w 0 % 2 = 1) := by omega
    rw [if_neg q, if_neg q2, if_neg q, if_neg q2]
    refine ⟨?_, rfl⟩
    have w1 : va_up (va_up w (15 + 17 * r + 1) (w 0)) (15 + 17 * r + 2) 0 (15 + 17 * r + 1) = w 0 := by
      rw [n_up_ne (by omega), n_up_at]
    have w2 : va_up (va_up w (15 + 17 * r + 1) (w 0)) (15 + 17 * r + 2) 0 (15 + 17 * r + 2) = 0 := n_up_at
    have wk : ∀ k, ¬ k = 15 + 17 * r + 1 → ¬ k = 15 + 17 * r + 2 → va_up (va_up w (15 + 17 * r + 1) (w 0)) (15 + 17 * r + 2) 0 k = w k := fun k h1 h2 => by
      rw [n_up_ne h2, n_up_ne h1]
    refine p_R_rd hR hI hr (by rw [n_up_ne2 (by omega)]) (by rw [n_up_ne2 (by omega)]) (fun k h1 h2 => n_up_ne2 (by omega)) (fun k h1 h2 _ _ => n_up_ne2 h2) (fun k _ _ hk => wk k (by omega) (by omega)) ?_ ?_
    · rw [n_up_ne2 (by omega), wk _ (by omega) (by omega)]; exact a1
    · refine ⟨⟨?_, ?_, ?_, ?_, ?_, ?_⟩, fun q => ⟨?_, ?_, ?_⟩, fun q f hf => ?_⟩
      · rw [n_up_at2, wk _ (by omega) (by omega)]
        show v (5 + 3 * r) 0 = _
        omega
      · rw [n_up_at2, w1, if_neg (by omega)]
        rfl
      · rw [n_up_at2, wk _ (by omega) (by omega)]
        show v (5 + 3 * r) 2 = _
        omega
      · rw [n_up_at2, wk _ (by omega) (by omega)]
        show v (5 + 3 * r) 5 = _
        omega
      · rw [n_up_at2, wk _ (by omega) (by omega)]
        show v (5 + 3 * r) 6 = _
        omega
      · rw [n_up_at2, wk _ (by omega) (by omega)]
        show v (5 + 3 * r) 7 = _
        omega
      · rw [n_up_at2, w1]
        exact a0
      · rw [n_up_at2, w2]
        rfl
      · intro f hf
        rw [w2] at hf
        exact absurd hf (Nat.not_lt_zero _)
      · rw [wk _ (by omega) (by omega)] at q
        rw [n_up_ne2 (by omega), wk _ (by omega) (by omega)]
        exact (a7 r hr).2.2 q f hf
/-! the latest that is the same -/
theorem o_ite {P Q : Prop} [Decidable P] [Decidable Q] {a b a' b' : Nat} (h : P ↔ Q) (ha : a = a') (hb : b = b') : (if P then a else b) = if Q then a' else b' := by
  subst ha
  subst hb
  by_cases q : P
  · rw [if_pos q, if_pos (h.mp q)]
  · rw [if_neg q, if_neg (fun z => q (h.mpr z))]
theorem p_e {kp u y w : Nat → Nat} {n : Nat} (hk : ∀ k, k < 80 → kp k = w (83 + k)) (hu : ∀ f, f < 5 → u f = y f) (hw : ∀ k, 83 ≤ k → w k < 2 ^ 32) (hy : ∀ f, f < 5 → y f < 2 ^ 32) : ∀ f, f < 5 → (nI (kp (n % 16 * 5 + f)) = nI (u f) ↔ y f = w (83 + 5 * (n % 16) + f)) := by
  intro f hf
  rw [hk _ (by omega), hu f hf, show 83 + (n % 16 * 5 + f) = 83 + 5 * (n % 16) + f by omega, o_eq32 (hw _ (by omega)) (hy f hf)]
  exact ⟨Eq.symm, Eq.symm⟩
theorem p_sm {kp u w : Nat → Nat} {fr n : Nat} (hk : ∀ k, k < 80 → kp k = w (83 + k)) (hu : ∀ f, f < 5 → u f = w (fr + f)) (hw : ∀ k, (83 ≤ k ∨ fr ≤ k ∧ k < fr + 5) → w k < 2 ^ 32) : b_sm kp u (n % 16 * 5) = m_sm w fr n := by
  have e := p_e (n := n) hk hu (fun k hk => hw k (Or.inl hk)) (fun f hf => hw (fr + f) (Or.inr (by omega)))
  unfold b_sm m_sm
  exact o_ite (e 0 (by omega)) (o_ite (e 1 (by omega)) (o_ite (e 2 (by omega)) (o_ite (e 3 (by omega)) (o_ite (e 4 (by omega)) rfl rfl) rfl) rfl) rfl) rfl
theorem m_fd_none {w : Nat → Nat} {fr m : Nat} : ∀ j, m + j ≤ 15 → m_fd w fr m j = 4294967295
  | 0, _ => rfl
  | j + 1, h => by
    rw [m_fd, if_neg (by omega)]
    exact m_fd_none j (by omega)
theorem p_ls {kp u w : Nat → Nat} {fr m : Nat} (hk : ∀ k, k < 80 → kp k = w (83 + k)) (hu : ∀ f, f < 5 → u f = w (fr + f)) (hw : ∀ k, (83 ≤ k ∨ fr ≤ k ∧ k < fr + 5) → w k < 2 ^ 32) : ∀ j, j ≤ 16 → b_ls kp u m j (16 - j) = m_fd w fr m j
  | 0, _ => rfl
  | j + 1, h => by
    have ih := p_ls hk hu hw (m := m) j (by omega)
    rw [b_ls, m_fd, p_sm hk hu hw]
    by_cases q : 16 - (j + 1) ≤ m
    · have e : m_nt m j = m - (16 - (j + 1)) := by
        have := m_nt_or m j
        omega
      rw [if_pos q, e]
      by_cases q2 : m_sm w fr (m - (16 - (j + 1))) = 1
      · rw [if_pos q2, if_pos ⟨by omega, q2⟩]
      · rw [if_neg q2, if_neg (fun z => q2 z.2), show 16 - (j + 1) + 1 = 16 - j by omega]
        exact ih
    · rw [if_neg q, if_neg (by omega), m_fd_none j (by omega)]
theorem b_ls_none {kp u : Nat → Nat} {m : Nat} (hm : m < 2 ^ 31) : ∀ f i, b_ls kp u m f i = 4294967295 ↔ ∀ j, i ≤ j → j < i + f → j ≤ m → ¬ b_sm kp u ((m - j) % 16 * 5) = 1
  | 0, i => ⟨fun _ j h1 h2 _ => absurd h2 (by omega), fun _ => rfl⟩
  | f + 1, i => by
    have ih := b_ls_none (kp := kp) (u := u) hm f (i + 1)
    rw [b_ls]
    by_cases q : i ≤ m
    · rw [if_pos q]
      by_cases q2 : b_sm kp u ((m - i) % 16 * 5) = 1
      · rw [if_pos q2]
        exact ⟨fun z => absurd z (by omega), fun z => absurd q2 (z i (by omega) (by omega) q)⟩
      · rw [if_neg q2, ih]
        refine ⟨fun z j h1 h2 h3 => ?_, fun z j h1 h2 h3 => z j (by omega) (by omega) h3⟩
        by_cases q3 : j = i
        · subst q3
          exact q2
        · exact z j (by omega) (by omega) h3
    · rw [if_neg q]
      exact ⟨fun _ j h1 h2 h3 => absurd h3 (by omega), fun _ => rfl⟩
theorem m_wh_one {w : Nat → Nat} {r tk m : Nat} (hm : m < 2 ^ 31) : ∀ n, n ≤ 16 → (m_wh w r tk m n = 1 ↔ ∃ j, j < n ∧ j ≤ m ∧ m_hs w r tk (m - j) = 1)
  | 0, _ => ⟨fun h => absurd (show (0 : Nat) = 1 from h) (by decide), fun ⟨j, h, _⟩ => absurd h (Nat.not_lt_zero _)⟩
  | n + 1, hn => by
    have ih := m_wh_one (w := w) (r := r) (tk := tk) hm n (by omega)
    have hg := m_ng_or m n
    have e : m_wh w r tk m (n + 1) = 1 ↔ (m_wh w r tk m n = 1 ∨ ((m_ng m n ≤ m ∧ m - m_ng m n < 16) ∧ m_hs w r tk (m_ng m n) = 1)) := by
      rw [m_wh]
      split
      · rename_i q
        exact ⟨fun _ => q, fun _ => rfl⟩
      · rename_i q
        exact ⟨fun z => absurd z (by decide), fun z => absurd z q⟩
    rw [e, ih]
    constructor
    · rintro (⟨j, h1, h2, h3⟩ | ⟨⟨h1, h2⟩, h3⟩)
      · exact ⟨j, by omega, h2, h3⟩
      · have hq : m_ng m n = m - n := by omega
        rw [hq] at h3
        exact ⟨n, by omega, by omega, h3⟩
    · rintro ⟨j, h1, h2, h3⟩
      by_cases q : j = n
      · subst q
        have hq : m_ng m j = m - j := by omega
        refine Or.inr ⟨by omega, ?_⟩
        rw [hq]
        exact h3
      · exact Or.inl ⟨j, by omega, h2, h3⟩
theorem p_look_take {b r : Nat} {v : Nat → Nat → Nat} {w : Nat → Nat} (hR : p_R v w) (hI : m_I b w) (hr : r < 4) (hn : ¬ w (15 + 17 * r + 1) = 4294967295) (q : w (15 + 17 * r + 2) < 5) : p_R (s_tk v r) (m_take w r) := by
  have hd := p_rd hR hI hr
  obtain ⟨⟨a0, a1, a2⟩, a3, a4, a5, a6, a7⟩ := id hR
  have hvals := ((a7 r hr).2.1 hn).2.2
  have r0 : v (5 + 3 * r) 0 = w (15 + 17 * r) := hd.1.1
  have r1 : v (5 + 3 * r) 1 = 1 := by omega
  have r3 : v (5 + 3 * r) 3 = w (15 + 17 * r + 1) := by omega
  have r4 : v (5 + 3 * r) 4 = w (15 + 17 * r + 2) := by omega
  have r2 : v (5 + 3 * r) 2 = w (15 + 17 * r + 6) := hd.2.2.1.1
  have r5 : v (5 + 3 * r) 5 = w (15 + 17 * r + 3) := hd.2.2.2.1
  have r6 : v (5 + 3 * r) 6 = w (15 + 17 * r + 4) := hd.2.2.2.2.1
  have r7 : v (5 + 3 * r) 7 = w (15 + 17 * r + 5) := hd.2.2.2.2.2.1
  clear hd
  have w2 : m_take w r (15 + 17 * r + 2) = w (15 + 17 * r + 2) + 1 := n_up_at
  have w7 : m_take w r (15 + 17 * r + 7 + w (15 + 17 * r + 2)) = w (7 + w (15 + 17 * r + 2)) := by
    unfold m_take
    rw [n_up_ne (by omega), n_up_at]
  have wk : ∀ k, ¬ k = 15 + 17 * r + 2 → ¬ k = 15 + 17 * r + 7 + w (15 + 17 * r + 2) → m_take w r k = w k := fun k h1 h2 => by
    unfold m_take
    rw [n_up_ne h1, n_up_ne h2]
  have vk : ∀ k, ¬ k = 5 + 3 * r → ¬ k = 7 + 3 * r → s_tk v r k = v k := fun k h1 h2 => by
    unfold s_tk
    rw [n_up_ne2 h2, n_up_ne2 h1]
  have v5 : s_tk v r (5 + 3 * r) = va_up (v (5 + 3 * r)) 4 (v (5 + 3 * r) 4 + 1) := by
    unfold s_tk
    rw [n_up_ne2 (by omega), n_up_at2]
  have v7 : s_tk v r (7 + 3 * r) = va_up (v (7 + 3 * r)) (v (5 + 3 * r) 4) (v 1 (v (5 + 3 * r) 4)) := n_up_at2
  generalize s_tk v r = v' at vk v5 v7 ⊢
  generalize m_take w r = w' at wk w2 w7 ⊢
  refine p_R_rd hR hI hr (by rw [vk _ (by omega) (by omega)]) (by rw [vk _ (by omega) (by omega)]) (fun k h1 h2 => vk _ (by omega) (by omega)) (fun k h1 h2 _ h3 => vk _ h2 h3) (fun k _ _ hk => wk k (by omega) (by omega)) ?_ ?_
  · rw [vk _ (by omega) (by omega), wk _ (by omega) (by omega)]; exact a1
  · refine ⟨⟨?_, ?_, ?_, ?_, ?_, ?_⟩, fun _ => ⟨?_, ?_, ?_⟩, fun z f hf => ?_⟩
    · rw [v5, wk _ (by omega) (by omega)]
      exact r0
    · rw [v5, wk _ (by omega) (by omega), if_neg hn]
      exact r1
    · rw [v5, wk _ (by omega) (by omega)]
      exact r2
    · rw [v5, wk _ (by omega) (by omega)]
      exact r5
    · rw [v5, wk _ (by omega) (by omega)]
      exact r6
    · rw [v5, wk _ (by omega) (by omega)]
      exact r7
    · rw [v5, wk _ (by omega) (by omega)]
      exact r3
    · rw [v5, w2]
      exact congrArg (· + 1) r4
    · intro f hf
      rw [w2] at hf
      rw [v7, r4]
      by_cases z : f = w (15 + 17 * r + 2)
      · rw [z, n_up_at, w7]
        exact a3 _ q
      · rw [n_up_ne z, wk _ (by omega) (by omega)]
        exact hvals f (by omega)
    · rw [wk _ (by omega) (by omega)] at z
      rw [vk _ (by omega) (by omega), wk _ (by omega) (by omega)]
      exact (a7 r hr).2.2 z f hf
theorem m_well_12 {w : Nat → Nat} {r f : Nat} (hf : f < 5) : m_well w r (15 + 17 * r + 12 + f) = w (15 + 17 * r + 7 + f) := by
  unfold m_well
  rw [n_up_ne (by omega), n_up_ne (by omega), n_up_ne (by omega), n_up_ne (by omega)]
  unfold m_own5
  rcases o_lt5 hf with rfl | rfl | rfl | rfl | rfl
  · rw [n_up_ne (by omega), n_up_ne (by omega), n_up_ne (by omega), n_up_ne (by omega)]; exact n_up_at
  · rw [n_up_ne (by omega), n_up_ne (by omega), n_up_ne (by omega)]; exact n_up_at
  · rw [n_up_ne (by omega), n_up_ne (by omega)]; exact n_up_at
  · rw [n_up_ne (by omega)]; exact n_up_at
  · exact n_up_at
theorem p_look_well {b r : Nat} {v : Nat → Nat → Nat} {w : Nat → Nat} (hR : p_R v w) (hI : m_I b w) (hr : r < 4) (hn : ¬ w (15 + 17 * r + 1) = 4294967295) (q : w (15 + 17 * r + 2) = 5) : p_R (va_up (s_wl v r) 0 (va_up (v 0) 1 (if b_ls (v 4) (v (7 + 3 * r)) (v 0 0 / 2) 16 0 = 4294967295 then v 0 1 + 1 else v 0 1))) (va_up (m_well w r) 2 (w 2 + (if m_fd (m_well w r) (15 + 17 * r + 12) (w 0 / 2) 16 = 4294967295 then 1 else 0))) := by
  have hd := p_rd hR hI hr
  obtain ⟨⟨a0, a1, a2⟩, a3, a4, a5, a6, a7⟩ := id hR
  obtain ⟨⟨i1, i2, i3, i4, i5⟩, _, i11⟩ := id hI
  have hvals := ((a7 r hr).2.1 hn).2.2
  have r0 : v (5 + 3 * r) 0 = w (15 + 17 * r) := hd.1.1
  have r6 : v (5 + 3 * r) 6 = w (15 + 17 * r + 4) := hd.2.2.2.2.1
  have r7 : v (5 + 3 * r) 7 = w (15 + 17 * r + 5) := hd.2.2.2.2.2.1
  clear hd
  have hwl : ∀ k, m_well w r k < 2 ^ 32 ∨ k = 15 + 17 * r + 5 := fun k => by
    by_cases z : k = 15 + 17 * r + 5
    · exact Or.inr z
    · refine Or.inl ?_
      unfold m_well
      rw [n_up_ne z]
      exact n_up_lt (n_up_lt (n_up_lt (n_up_lt (n_up_lt (n_up_lt (n_up_lt (n_up_lt i2 (i2 _)) (i2 _)) (i2 _)) (i2 _)) (i2 _)) (by omega)) (by omega)) (by omega) k
  have x12 : ∀ f, f < 5 → m_well w r (15 + 17 * r + 12 + f) = w (15 + 17 * r + 7 + f) := fun f hf => m_well_12 hf
  have hls : b_ls (v 4) (v (7 + 3 * r)) (v 0 0 / 2) 16 0 = m_fd (m_well w r) (15 + 17 * r + 12) (w 0 / 2) 16 := by
    rw [a0]
    exact p_ls (kp := v 4) (u := v (7 + 3 * r)) (fr := 15 + 17 * r + 12) (m := w 0 / 2) (fun k hk => by rw [m_well_at (by omega)]; exact a6 k hk) (fun f hf => by rw [x12 f hf]; exact hvals f (by omega)) (fun k hk => (hwl k).elim id (fun z => absurd z (by omega))) 16 (by omega)
  rw [hls]
  generalize m_fd (m_well w r) (15 + 17 * r + 12) (w 0 / 2) 16 = fd
  have wk : ∀ k, ¬ k = 2 → (k < 15 + 17 * r ∨ 32 + 17 * r ≤ k) → va_up (m_well w r) 2 (w 2 + (if fd = 4294967295 then 1 else 0)) k = w k := fun k h1 h2 => by
    rw [n_up_ne h1, m_well_at h2]
  have wr : ∀ k, k < 17 → va_up (m_well w r) 2 (w 2 + (if fd = 4294967295 then 1 else 0)) (15 + 17 * r + k) = m_well w r (15 + 17 * r + k) := fun k h1 => n_up_ne (by omega)
  have hw2 : va_up (m_well w r) 2 (w 2 + (if fd = 4294967295 then 1 else 0)) 2 = w 2 + (if fd = 4294967295 then 1 else 0) := n_up_at
  generalize va_up (m_well w r) 2 (w 2 + (if fd = 4294967295 then 1 else 0)) = w' at wk wr hw2 ⊢
  have m0 : m_well w r (15 + 17 * r) = w (15 + 17 * r) := by
    unfold m_well
    rw [n_up_ne (by omega), n_up_ne (by omega), n_up_ne (by omega), n_up_ne (by omega), m_own5_at (by omega)]
  have m1 : m_well w r (15 + 17 * r + 1) = 4294967295 := by
    unfold m_well
    rw [n_up_ne (by omega), n_up_ne (by omega), n_up_at]
  have m3 : m_well w r (15 + 17 * r + 3) = 0 := by
    unfold m_well
    rw [n_up_ne (by omega), n_up_at]
  have m4 : m_well w r (15 + 17 * r + 4) = w (15 + 17 * r + 4) := by
    unfold m_well
    rw [n_up_ne (by omega), n_up_ne (by omega), n_up_ne (by omega), n_up_ne (by omega), m_own5_at (by omega)]
  have m5 : m_well w r (15 + 17 * r + 5) = w (15 + 17 * r + 5) + 1 := n_up_at
  have m6 : m_well w r (15 + 17 * r + 6) = 1 := by
    unfold m_well
    rw [n_up_ne (by omega), n_up_ne (by omega), n_up_ne (by omega), n_up_at]
  have s5 : ∀ k y, va_up (s_wl v r) 0 (va_up (v 0) 1 y) (5 + 3 * r) k = va_up (va_up (va_up (va_up (v (5 + 3 * r)) 1 0) 2 1) 5 0) 7 (v (5 + 3 * r) 7 + 1) k := fun k y => by
    unfold s_wl
    rw [n_up_ne2 (by omega), n_up_ne2 (by omega), n_up_at2]
  have s6 : ∀ y, va_up (s_wl v r) 0 (va_up (v 0) 1 y) (6 + 3 * r) = v (7 + 3 * r) := fun y => by
    unfold s_wl
    rw [n_up_ne2 (by omega), n_up_at2]
  have sk : ∀ k y, ¬ k = 0 → ¬ k = 5 + 3 * r → ¬ k = 6 + 3 * r → va_up (s_wl v r) 0 (va_up (v 0) 1 y) k = v k := fun k y h0 h5 h6 => by
    unfold s_wl
    rw [n_up_ne2 h0, n_up_ne2 h6, n_up_ne2 h5]
  have w0 : w' (15 + 17 * r) = w (15 + 17 * r) := (wr 0 (by omega)).trans m0
  refine p_R_rd hR hI hr (by rw [n_up_at2, n_up_ne (by omega)]) (by rw [n_up_at2, n_up_ne (by omega)]) (fun k h1 h2 => sk _ _ (by omega) (by omega) (by omega)) (fun k h1 h2 h3 _ => sk _ _ (by omega) h2 h3) (fun k _ h1 hk => wk k h1 hk) ?_ ?_
  · rw [n_up_at2, n_up_at, hw2, a1]
    split <;> rfl
  · refine ⟨⟨?_, ?_, ?_, ?_, ?_, ?_⟩, fun z => absurd ((wr 1 (by omega)).trans m1) z, fun z f hf => ?_⟩
    · rw [s5, w0]
      exact r0
    · rw [s5, wr 1 (by omega), m1, if_pos rfl]
      rfl
    · rw [s5, wr 6 (by omega), m6]
      rfl
    · rw [s5, wr 3 (by omega), m3]
      rfl
    · rw [s5, wr 4 (by omega), m4]
      exact r6
    · rw [s5, wr 5 (by omega), m5]
      exact congrArg (· + 1) r7
    · rw [s6, show 15 + 17 * r + 12 + f = 15 + 17 * r + (12 + f) by omega, wr (12 + f) (by omega), show 15 + 17 * r + (12 + f) = 15 + 17 * r + 12 + f by omega, x12 f hf]
      exact hvals f (by omega)
theorem p_look {b r : Nat} {v : Nat → Nat → Nat} {w : Nat → Nat} (hR : p_R v w) (hI : m_I b w) (hr : r < 4) (hm : m_ofr w r = 1) : p_R (s_gl v r) (m_looks w r) ∧ s_glr v r = m_looksr w r := by
  have hd := p_rd hR hI hr
  have hn : ¬ w (15 + 17 * r + 1) = 4294967295 := (p_ofr (w := w) (r := r)).2.1.mp hm
  have hwf := p_wf hR hI hr
  have h4 : v (5 + 3 * r) 4 = w (15 + 17 * r + 2) := by omega
  have h42 : w (15 + 17 * r + 2) ≤ 5 := (hI.2.2 r hr).2.2.1
  have a3 := hR.2.1
  have hwf2 : s_wf v r ↔ w (15 + 17 * r) = 1 ∧ ¬ w (15 + 17 * r + 1) = w 0 := by
    rw [hwf]
    omega
  clear hd hwf
  unfold s_gl m_looks s_glr m_looksr
  rw [h4]
  by_cases q : w (15 + 17 * r + 2) < 5
  · rw [if_pos q, if_pos q, if_pos q, if_pos q]
    exact ⟨p_look_take hR hI hr hn q, a3 _ q⟩
  · rw [if_neg q, if_neg q, if_neg q, if_neg q]
    by_cases q2 : s_wf v r
    · rw [if_pos q2, if_pos (hwf2.mp q2), if_pos q2, if_pos (hwf2.mp q2)]
      exact ⟨p_fail hR hI hr rfl, rfl⟩
    · rw [if_neg q2, if_neg (fun z => q2 (hwf2.mpr z)), if_neg q2, if_neg (fun z => q2 (hwf2.mpr z))]
      exact ⟨p_look_well hR hI hr hn (by omega), rfl⟩
