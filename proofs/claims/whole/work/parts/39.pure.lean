/-! THE CLASS'S STATE AND THE REFERENCE'S ROW: the same numbers -/
def p_pl (w : Nat → Nat) (c : Nat) : Nat := if w 3 = c then 0 else if 0 < w 4 ∧ w 5 = c then 1 else if 1 < w 4 ∧ w 6 = c then 2 else 4294967295
def p_RR (v : Nat → Nat → Nat) (w : Nat → Nat) (r : Nat) : Prop :=
  (v (5 + 3 * r) 0 = w (15 + 17 * r) ∧ v (5 + 3 * r) 1 = (if w (15 + 17 * r + 1) = 4294967295 then 0 else 1) ∧ v (5 + 3 * r) 2 = w (15 + 17 * r + 6) ∧ v (5 + 3 * r) 5 = w (15 + 17 * r + 3) ∧ v (5 + 3 * r) 6 = w (15 + 17 * r + 4) ∧ v (5 + 3 * r) 7 = w (15 + 17 * r + 5)) ∧
  (¬ w (15 + 17 * r + 1) = 4294967295 → v (5 + 3 * r) 3 = w (15 + 17 * r + 1) ∧ v (5 + 3 * r) 4 = w (15 + 17 * r + 2) ∧ ∀ f, f < w (15 + 17 * r + 2) → v (7 + 3 * r) f = w (15 + 17 * r + 7 + f)) ∧
  (w (15 + 17 * r + 6) = 1 → ∀ f, f < 5 → v (6 + 3 * r) f = w (15 + 17 * r + 12 + f))
def p_R (v : Nat → Nat → Nat) (w : Nat → Nat) : Prop :=
  (v 0 0 = w 0 ∧ v 0 1 = w 2 ∧ v 0 2 = w 1) ∧ (∀ f, f < 5 → v 1 f = w (7 + f)) ∧ (∀ c, c < 3 → v 2 c = w (12 + c)) ∧ (∀ c, c < 3 → v 3 c = p_pl w c) ∧ (∀ k, k < 80 → v 4 k = w (83 + k)) ∧ ∀ r, r < 4 → p_RR v w r
theorem p_pl_eq {w w' : Nat → Nat} (e : ∀ k, 3 ≤ k → k ≤ 6 → w' k = w k) (c : Nat) : p_pl w' c = p_pl w c := by
  unfold p_pl
  rw [e 3 (by omega) (by omega), e 4 (by omega) (by omega), e 5 (by omega) (by omega), e 6 (by omega) (by omega)]
theorem p_RR_eq {v v' : Nat → Nat → Nat} {w w' : Nat → Nat} {r : Nat} (h : p_RR v w r) (e5 : v' (5 + 3 * r) = v (5 + 3 * r)) (e6 : v' (6 + 3 * r) = v (6 + 3 * r)) (e7 : v' (7 + 3 * r) = v (7 + 3 * r)) (ew : ∀ k, k < 17 → w' (15 + 17 * r + k) = w (15 + 17 * r + k)) (h2 : w (15 + 17 * r + 2) ≤ 5) : p_RR v' w' r := by
  unfold p_RR at h ⊢
  rw [e5, e6, e7, show w' (15 + 17 * r) = w (15 + 17 * r) from ew 0 (by omega), ew 1 (by omega), ew 2 (by omega), ew 3 (by omega), ew 4 (by omega), ew 5 (by omega), ew 6 (by omega)]
  refine ⟨h.1, fun q => ?_, fun q f hf => ?_⟩
  · obtain ⟨a, b, c⟩ := h.2.1 q
    exact ⟨a, b, fun f hf => by rw [c f hf, show 15 + 17 * r + 7 + f = 15 + 17 * r + (7 + f) by omega, ew (7 + f) (by omega)]⟩
  · rw [h.2.2 q f hf, show 15 + 17 * r + 12 + f = 15 + 17 * r + (12 + f) by omega, ew (12 + f) (by omega)]
theorem p_R_ext {v : Nat → Nat → Nat} {w w' : Nat → Nat} (h : p_R v w) (h2 : ∀ r, r < 4 → w (15 + 17 * r + 2) ≤ 5) (e : ∀ k, k < 163 → w' k = w k) : p_R v w' := by
  obtain ⟨⟨a0, a1, a2⟩, a3, a4, a5, a6, a7⟩ := h
  refine ⟨⟨?_, ?_, ?_⟩, fun f hf => ?_, fun c hc => ?_, fun c hc => ?_, fun k hk => ?_, fun r hr => ?_⟩
  · rw [e 0 (by omega)]; exact a0
  · rw [e 2 (by omega)]; exact a1
  · rw [e 1 (by omega)]; exact a2
  · rw [e _ (by omega)]; exact a3 f hf
  · rw [e _ (by omega)]; exact a4 c hc
  · rw [p_pl_eq (fun k h1 h2 => e k (by omega))]; exact a5 c hc
  · rw [e _ (by omega)]; exact a6 k hk
  · exact p_RR_eq (a7 r hr) rfl rfl rfl (fun k hk => e _ (by omega)) (h2 r hr)
theorem p_I_ext {b : Nat} {w w' : Nat → Nat} (h : m_I b w) (e : ∀ k, k < 163 → w' k = w k) (hlt : ∀ k, w' k < 2 ^ 32) : m_I b w' := by
  obtain ⟨⟨h1, h2, h3, h4, h5⟩, ⟨h6, h7, h8, h9, h10⟩, h11⟩ := h
  have e0 := e 0 (by omega)
  have e1 := e 1 (by omega)
  have e2 := e 2 (by omega)
  have e3 := e 3 (by omega)
  have e4 := e 4 (by omega)
  have e5 := e 5 (by omega)
  have e6 := e 6 (by omega)
  refine ⟨⟨by omega, hlt, by omega, by omega, by omega⟩, ⟨by omega, by omega, ?_, ?_, fun c hc => ?_⟩, fun r hr => ?_⟩
  · rw [e3, e4, e5]; exact h8
  · rw [e3, e4, e5, e6]; exact h9
  · rw [e _ (by omega)]; exact h10 c hc
  · exact m_IR_eq (w := w) (h11 r hr) (fun k hk => e _ (by omega))
theorem p_mode {b c : Nat} {v : Nat → Nat → Nat} {w : Nat → Nat} (hR : p_R v w) (hI : m_I b w) (hc : c < 3) : (v 3 c = 4294967295 ↔ m_mode w c = 0) ∧ (v 3 c = 0 ↔ m_mode w c = 1) ∧ (v 3 c = 4294967295 ∨ v 3 c = 0 ∨ (v 3 c = 1 ∧ w 5 = c ∧ m_mode w c = 2) ∨ (v 3 c = 2 ∧ ¬ w 5 = c ∧ m_mode w c = 2)) := by
  obtain ⟨_, _, _, h3, _, _⟩ := hR
  obtain ⟨_, ⟨h6, h7, h8, h9, h10⟩, _⟩ := hI
  rw [h3 c hc]
  unfold p_pl m_mode
  (repeat' split) <;> omega
theorem p_pl_n {w : Nat → Nat} {c : Nat} : (p_pl w c = 4294967295 ↔ ¬ (w 3 = c ∨ (0 < w 4 ∧ w 5 = c) ∨ (1 < w 4 ∧ w 6 = c))) ∧ (p_pl w c = 0 ↔ w 3 = c) := by
  unfold p_pl
  (repeat' split) <;> omega
theorem p_inl {b : Nat} {v : Nat → Nat → Nat} {w : Nat → Nat} (hR : p_R v w) (hI : m_I b w) : b_inl (v 3) = if w 0 % 2 = 1 then 1 + w 4 else 0 := by
  obtain ⟨_, _, _, h3, _, _⟩ := hR
  obtain ⟨_, ⟨h6, h7, h8, h9, _⟩, _⟩ := hI
  have e0 := p_pl_n (w := w) (c := 0)
  have e1 := p_pl_n (w := w) (c := 1)
  have e2 := p_pl_n (w := w) (c := 2)
  unfold b_inl
  rw [h3 0 (by omega), h3 1 (by omega), h3 2 (by omega)]
  generalize p_pl w 0 = q0 at *
  generalize p_pl w 1 = q1 at *
  generalize p_pl w 2 = q2 at *
  rcases (show w 4 = 0 ∨ w 4 = 1 ∨ w 4 = 2 by omega) with q | q | q
  · (repeat' split) <;> omega
  · have h8 := h8 (by omega)
    (repeat' split) <;> omega
  · have h8 := h8 (by omega)
    have h9 := h9 q
    (repeat' split) <;> omega
theorem p_who {b : Nat} {v : Nat → Nat → Nat} {w : Nat → Nat} (hR : p_R v w) (hI : m_I b w) : b_who (v 3) = w 3 := by
  obtain ⟨_, _, _, h3, _, _⟩ := hR
  obtain ⟨_, ⟨h6, h7, h8, h9, _⟩, _⟩ := hI
  have e0 := (p_pl_n (w := w) (c := 0)).2
  have e1 := (p_pl_n (w := w) (c := 1)).2
  have e2 := (p_pl_n (w := w) (c := 2)).2
  unfold b_who
  rw [h3 0 (by omega), h3 1 (by omega), h3 2 (by omega)]
  (repeat' split) <;> omega
theorem p_come {b c : Nat} {v : Nat → Nat → Nat} {w : Nat → Nat} (hR : p_R v w) (hI : m_I b w) (hc : c < 3) (hm : m_mode w c = 0) : p_R (b_enter v c) (m_comes w c) := by
  have hi := p_inl hR hI
  have h4 := m_w4 hI hc hm
  have hp := (p_mode hR hI hc).1.mpr hm
  obtain ⟨⟨a0, a1, a2⟩, a3, a4, a5, a6, a7⟩ := hR
  obtain ⟨⟨i1, i2, i3, i4, i5⟩, ⟨i6, i7, i8, i9, i10⟩, i11⟩ := hI
  have m2 := (p_pl_n (w := w) (c := c)).1.mp ((a5 c hc).symm.trans hp)
  have efr : ∀ k, 5 ≤ k → b_enter v c k = v k := fun k hk => by
    unfold b_enter
    rw [n_up_ne2 (by omega), n_up_ne2 (by omega)]
  unfold m_comes
  split
  · rename_i o
    rw [if_pos o] at hi
    have hn : ¬ b_inl (v 3) = 0 := by omega
    refine ⟨⟨?_, ?_, ?_⟩, fun f hf => ?_, fun c' hc' => ?_, fun c' hc' => ?_, fun k hk => ?_, fun r hr => ?_⟩
    · show (if b_inl (v 3) = 0 then v 0 0 + 1 else v 0 0) = _
      rw [if_neg hn, n_up_ne (by omega), n_up_ne (by omega)]; exact a0
    · show v 0 1 = _
      rw [n_up_ne (by omega), n_up_ne (by omega)]; exact a1
    · show v 0 2 = _
      rw [n_up_ne (by omega), n_up_ne (by omega)]; exact a2
    · show v 1 f = _
      rw [n_up_ne (by omega), n_up_ne (by omega)]; exact a3 f hf
    · show v 2 c' = _
      rw [n_up_ne (by omega), n_up_ne (by omega)]; exact a4 c' hc'
    · show va_up (v 3) c (b_inl (v 3)) c' = _
      have h5 := a5 c' hc'
      have e3 : va_up (va_up w (5 + w 4) c) 4 (w 4 + 1) 3 = w 3 := by rw [n_up_ne (by omega), n_up_ne (by omega)]
      have e4 : va_up (va_up w (5 + w 4) c) 4 (w 4 + 1) 4 = w 4 + 1 := n_up_at
      have e5 : va_up (va_up w (5 + w 4) c) 4 (w 4 + 1) 5 = if w 4 = 0 then c else w 5 := by
        rw [n_up_ne (by omega)]
        unfold va_up
        (repeat' split) <;> omega
      have e6 : va_up (va_up w (5 + w 4) c) 4 (w 4 + 1) 6 = if w 4 = 1 then c else w 6 := by
        rw [n_up_ne (by omega)]
        unfold va_up
        (repeat' split) <;> omega
      unfold p_pl at h5 ⊢
      rw [e3, e4, e5, e6]
      have h8 := i8
      by_cases q : c' = c
      · subst q
        rw [n_up_at, hi, if_neg (by omega)]
        rcases (show w 4 = 0 ∨ w 4 = 1 by omega) with z | z
        · rw [if_pos z, if_pos (by omega)]; omega
        · rw [if_neg (show ¬ w 4 = 0 by omega), if_pos z, if_neg (by omega), if_pos (by omega)]; omega
      · rw [n_up_ne q, h5]
        rcases (show w 4 = 0 ∨ w 4 = 1 by omega) with z | z
        · rw [if_pos z, if_neg (show ¬ w 4 = 1 by omega)]
          (repeat' split) <;> omega
        · rw [if_neg (show ¬ w 4 = 0 by omega), if_pos z]
          (repeat' split) <;> omega
    · show v 4 k = _
      rw [n_up_ne (by omega), n_up_ne (by omega)]; exact a6 k hk
    · exact p_RR_eq (a7 r hr) (efr _ (by omega)) (efr _ (by omega)) (efr _ (by omega)) (fun k hk => by rw [n_up_ne (by omega), n_up_ne (by omega)]) (i11 r hr).2.2.1
  · rename_i o
    rw [if_neg o] at hi
    have hw3 : w 3 = 4294967295 ∧ w 4 = 0 := by omega
    refine ⟨⟨?_, ?_, ?_⟩, fun f hf => ?_, fun c' hc' => ?_, fun c' hc' => ?_, fun k hk => ?_, fun r hr => ?_⟩
    · show (if b_inl (v 3) = 0 then v 0 0 + 1 else v 0 0) = _
      rw [if_pos hi, n_up_at, a0]
    · show v 0 1 = _
      rw [n_up_ne (by omega), n_up_ne (by omega)]; exact a1
    · show v 0 2 = _
      rw [n_up_ne (by omega), n_up_ne (by omega)]; exact a2
    · show v 1 f = _
      rw [n_up_ne (by omega), n_up_ne (by omega)]; exact a3 f hf
    · show v 2 c' = _
      rw [n_up_ne (by omega), n_up_ne (by omega)]; exact a4 c' hc'
    · show va_up (v 3) c (b_inl (v 3)) c' = _
      have h5 := a5 c' hc'
      have e3 : va_up (va_up w 3 c) 0 (w 0 + 1) 3 = c := by rw [n_up_ne (by omega), n_up_at]
      have e4 : va_up (va_up w 3 c) 0 (w 0 + 1) 4 = w 4 := by rw [n_up_ne (by omega), n_up_ne (by omega)]
      unfold p_pl at h5 ⊢
      rw [e3, e4]
      by_cases q : c' = c
      · subst q
        rw [n_up_at, hi, if_pos rfl]
      · rw [n_up_ne q, h5, if_neg (by omega), if_neg (by omega), if_neg (by omega), if_neg (by omega), if_neg (by omega), if_neg (by omega)]
    · show v 4 k = _
      rw [n_up_ne (by omega), n_up_ne (by omega)]; exact a6 k hk
    · exact p_RR_eq (a7 r hr) (efr _ (by omega)) (efr _ (by omega)) (efr _ (by omega)) (fun k hk => by rw [n_up_ne (by omega), n_up_ne (by omega)]) (i11 r hr).2.2.1
theorem p_chalk {b f y : Nat} {v : Nat → Nat → Nat} {w : Nat → Nat} (hR : p_R v w) (hI : m_I b w) (hf : f < 5) : p_R (b_write v f y) (va_up w (7 + f) y) := by
  obtain ⟨⟨a0, a1, a2⟩, a3, a4, a5, a6, a7⟩ := hR
  obtain ⟨_, _, i11⟩ := hI
  have efr : ∀ k, ¬ k = 1 → b_write v f y k = v k := fun k hk => by
    unfold b_write
    rw [n_up_ne2 hk]
  refine ⟨⟨?_, ?_, ?_⟩, fun f' hf' => ?_, fun c' hc' => ?_, fun c' hc' => ?_, fun k hk => ?_, fun r hr => ?_⟩
  · rw [efr 0 (by omega), n_up_ne (by omega)]; exact a0
  · rw [efr 0 (by omega), n_up_ne (by omega)]; exact a1
  · rw [efr 0 (by omega), n_up_ne (by omega)]; exact a2
  · show va_up (v 1) f y f' = _
    by_cases q : f' = f
    · subst q
      rw [n_up_at, n_up_at]
    · rw [n_up_ne q, n_up_ne (by omega)]; exact a3 f' hf'
  · rw [efr 2 (by omega), n_up_ne (by omega)]; exact a4 c' hc'
  · rw [efr 3 (by omega), p_pl_eq (fun k h1 h2 => n_up_ne (by omega))]; exact a5 c' hc'
  · rw [efr 4 (by omega), n_up_ne (by omega)]; exact a6 k hk
  · exact p_RR_eq (a7 r hr) (efr _ (by omega)) (efr _ (by omega)) (efr _ (by omega)) (fun k hk => n_up_ne (by omega)) (i11 r hr).2.2.1
theorem p_set {b y : Nat} {v : Nat → Nat → Nat} {w : Nat → Nat} (hR : p_R v w) (hI : m_I b w) : p_R (va_up v 0 (va_up (v 0) 2 y)) (va_up w 1 y) := by
  obtain ⟨⟨a0, a1, a2⟩, a3, a4, a5, a6, a7⟩ := hR
  obtain ⟨_, _, i11⟩ := hI
  refine ⟨⟨?_, ?_, ?_⟩, fun f' hf' => ?_, fun c' hc' => ?_, fun c' hc' => ?_, fun k hk => ?_, fun r hr => ?_⟩
  · rw [n_up_at2, n_up_ne (by omega), n_up_ne (by omega)]; exact a0
  · rw [n_up_at2, n_up_ne (by omega), n_up_ne (by omega)]; exact a1
  · rw [n_up_at2, n_up_at, n_up_at]
  · rw [n_up_ne2 (by omega), n_up_ne (by omega)]; exact a3 f' hf'
  · rw [n_up_ne2 (by omega), n_up_ne (by omega)]; exact a4 c' hc'
  · rw [n_up_ne2 (by omega), p_pl_eq (fun k h1 h2 => n_up_ne (by omega))]; exact a5 c' hc'
  · rw [n_up_ne2 (by omega), n_up_ne (by omega)]; exact a6 k hk
  · exact p_RR_eq (a7 r hr) (n_up_ne2 (by omega)) (n_up_ne2 (by omega)) (n_up_ne2 (by omega)) (fun k hk => n_up_ne (by omega)) (i11 r hr).2.2.1
/-! done -/
theorem m_keep5_in {w : Nat → Nat} {a f : Nat} (ha : 12 ≤ a) (h : f < 5) : m_keep5 w a (a + f) = w (7 + f) := by
  unfold m_keep5
  rcases o_lt5 h with rfl | rfl | rfl | rfl | rfl
  · rw [n_up_ne (by omega), n_up_ne (by omega), n_up_ne (by omega), n_up_ne (by omega)]; exact n_up_at
  · rw [n_up_ne (by omega), n_up_ne (by omega), n_up_ne (by omega), n_up_at]
  · rw [n_up_ne (by omega), n_up_ne (by omega), n_up_at]
  · rw [n_up_ne (by omega), n_up_at]
  · rw [n_up_at]
theorem m_keep5_out {w : Nat → Nat} {a k : Nat} (h : k < a ∨ a + 5 ≤ k) : m_keep5 w a k = w k := by
  unfold m_keep5
  rw [n_up_ne (by omega), n_up_ne (by omega), n_up_ne (by omega), n_up_ne (by omega), n_up_ne (by omega)]
theorem b_stpf_at {pl : Nat → Nat} {c : Nat} (hc : c < 3) : b_stpf pl c = b_stp (pl c) := by
  rcases o_lt3 hc with rfl | rfl | rfl <;> rfl
theorem p_done {b c : Nat} {v : Nat → Nat → Nat} {w : Nat → Nat} (hR : p_R v w) (hI : m_I b w) (hc : c < 3) (hm : m_mode w c = 1) : p_R (b_leave v c) (m_ends w c) := by
  have h3c := m_mode1 hm
  obtain ⟨⟨a0, a1, a2⟩, a3, a4, a5, a6, a7⟩ := hR
  obtain ⟨⟨i1, i2, i3, i4, i5⟩, ⟨i6, i7, i8, i9, i10⟩, i11⟩ := hI
  have hk : ∀ k, 83 ≤ k → k < 163 → m_ends w c k = m_keep5 (va_up w 0 (w 0 + 1)) (83 + 5 * ((w 0 + 1) / 2 % 16)) k := by
    intro k h1 h2
    unfold m_ends m_ends0
    split
    · rw [n_up_ne (by omega), n_up_ne (by omega), n_up_ne (by omega), n_up_ne (by omega), n_up_ne (by omega), n_up_ne (by omega)]
    · rw [n_up_ne (by omega), n_up_ne (by omega)]
  have hu : ∀ k, 7 ≤ k → k < 83 → ¬ k = 12 + c → m_ends w c k = w k := by
    intro k h1 h2 h3
    unfold m_ends
    split
    · rw [n_up_ne (by omega), n_up_ne (by omega), n_up_ne (by omega), n_up_ne (by omega), m_ends0_at h2 (by omega) h3 (by omega)]
    · rw [m_ends0_at h2 (by omega) h3 (by omega)]
  have hd : m_ends w c (12 + c) = w (12 + c) + 1 := by
    unfold m_ends
    split
    · rw [n_up_ne (by omega), n_up_ne (by omega), n_up_ne (by omega), n_up_ne (by omega), m_ends0_c hc]
    · exact m_ends0_c hc
  have h1' : m_ends w c 1 = w 1 := by
    unfold m_ends
    split
    · rw [n_up_ne (by omega), n_up_ne (by omega), n_up_ne (by omega), n_up_ne (by omega), m_ends0_at (by omega) (by omega) (by omega) (by omega)]
    · rw [m_ends0_at (by omega) (by omega) (by omega) (by omega)]
  have h2' : m_ends w c 2 = w 2 := by
    unfold m_ends
    split
    · rw [n_up_ne (by omega), n_up_ne (by omega), n_up_ne (by omega), n_up_ne (by omega), m_ends0_at (by omega) (by omega) (by omega) (by omega)]
    · rw [m_ends0_at (by omega) (by omega) (by omega) (by omega)]
  have h0' : m_ends w c 0 = if 0 < w 4 then w 0 + 2 else w 0 + 1 := by
    unfold m_ends
    split
    · exact n_up_at
    · exact m_ends0_0
  have h3' : m_ends w c 3 = if 0 < w 4 then w 5 else 4294967295 := by
    unfold m_ends
    split
    · rw [n_up_ne (by omega), n_up_ne (by omega), n_up_ne (by omega), n_up_at]
    · exact m_ends0_3
  have h4' : m_ends w c 4 = w 4 - 1 := by
    unfold m_ends
    split
    · rw [n_up_ne (by omega), n_up_at]
    · rw [m_ends0_at (by omega) (by omega) (by omega) (by omega)]; omega
  have h5' : m_ends w c 5 = if 0 < w 4 then w 6 else w 5 := by
    unfold m_ends
    split
    · rw [n_up_ne (by omega), n_up_ne (by omega), n_up_at]
    · rw [m_ends0_at (by omega) (by omega) (by omega) (by omega)]
  have h6' : m_ends w c 6 = w 6 := by
    unfold m_ends
    split
    · rw [n_up_ne (by omega), n_up_ne (by omega), n_up_ne (by omega), n_up_ne (by omega), m_ends0_at (by omega) (by omega) (by omega) (by omega)]
    · rw [m_ends0_at (by omega) (by omega) (by omega) (by omega)]
  have hst : ∀ c', c' < 3 → b_stpf (v 3) c' = p_pl (m_ends w c) c' := by
    intro c' hc'
    rw [b_stpf_at hc', a5 c' hc']
    unfold p_pl
    rw [h3', h4', h5', h6']
    unfold b_stp
    rcases (show w 4 = 0 ∨ w 4 = 1 ∨ w 4 = 2 by omega) with q | q | q
    · rw [if_neg (show ¬ 0 < w 4 by omega), if_neg (show ¬ 0 < w 4 by omega)]
      (repeat' split) <;> omega
    · have h8 := i8 (by omega)
      rw [if_pos (show 0 < w 4 by omega), if_pos (show 0 < w 4 by omega)]
      (repeat' split) <;> omega
    · have h8 := i8 (by omega)
      have h9 := i9 q
      rw [if_pos (show 0 < w 4 by omega), if_pos (show 0 < w 4 by omega)]
      (repeat' split) <;> omega
  have hin : 0 < b_inl (b_stpf (v 3)) ↔ 0 < w 4 := by
    have e0 := (p_pl_n (w := m_ends w c) (c := 0)).1
    have e1 := (p_pl_n (w := m_ends w c) (c := 1)).1
    have e2 := (p_pl_n (w := m_ends w c) (c := 2)).1
    rw [h3', h4', h5', h6'] at e0 e1 e2
    unfold b_inl
    rw [hst 0 (by omega), hst 1 (by omega), hst 2 (by omega)]
    by_cases q : 0 < w 4
    · have h8 := i8 (by omega)
      rw [if_pos q, if_pos q] at e0 e1 e2
      (repeat' split) <;> omega
    · rw [if_neg q, if_neg q] at e0 e1 e2
      (repeat' split) <;> omega
  have efr : ∀ k, 5 ≤ k → b_leave v c k = v k := fun k hk => by
    unfold b_leave
    rw [n_up_ne2 (by omega), n_up_ne2 (by omega), n_up_ne2 (by omega), n_up_ne2 (by omega)]
  refine ⟨⟨?_, ?_, ?_⟩, fun f' hf' => ?_, fun c' hc' => ?_, fun c' hc' => ?_, fun k hk' => ?_, fun r hr => ?_⟩
  · show (if 0 < b_inl (b_stpf (v 3)) then v 0 0 + 2 else v 0 0 + 1) = _
    rw [h0', a0]
    by_cases q : 0 < w 4
    · rw [if_pos (hin.mpr q), if_pos q]
    · rw [if_neg (fun z => q (hin.mp z)), if_neg q]
  · show v 0 1 = _
    rw [h2']; exact a1
  · show v 0 2 = _
    rw [h1']; exact a2
  · show v 1 f' = _
    rw [hu _ (by omega) (by omega) (by omega)]; exact a3 f' hf'
  · show va_up (v 2) c (v 2 c + 1) c' = _
    by_cases q : c' = c
    · subst q
      rw [n_up_at, hd, a4 c' hc]
    · rw [n_up_ne q, hu _ (by omega) (by omega) (by omega)]; exact a4 c' hc'
  · exact hst c' hc'
  · show va_cpy (v 1) (v 4) 0 ((v 0 0 + 1) / 2 % 16 * 5) 5 k = _
    rw [hk _ (by omega) (by omega), a0]
    unfold va_cpy
    by_cases q : (w 0 + 1) / 2 % 16 * 5 ≤ k ∧ k < (w 0 + 1) / 2 % 16 * 5 + 5
    · rw [if_pos q, a3 _ (by omega)]
      have h9 := m_keep5_in (w := va_up w 0 (w 0 + 1)) (a := 83 + 5 * ((w 0 + 1) / 2 % 16)) (f := k - (w 0 + 1) / 2 % 16 * 5) (by omega) (by omega)
      rw [show 83 + 5 * ((w 0 + 1) / 2 % 16) + (k - (w 0 + 1) / 2 % 16 * 5) = 83 + k by omega] at h9
      rw [h9, n_up_ne (by omega)]
      congr 1
      omega
    · rw [if_neg q, m_keep5_out (by omega), n_up_ne (by omega)]
      exact a6 k hk'
  · exact p_RR_eq (a7 r hr) (efr _ (by omega)) (efr _ (by omega)) (efr _ (by omega)) (fun k hk => hu _ (by omega) (by omega) (by omega)) (i11 r hr).2.2.1
