/-! LOOKS: what is told, and the state behind it -/
theorem qa_sm {kp w : Nat → Nat} {a : Nat} (h : ∀ f, f < 5 → kp (a + f) = w f) : b_sm kp w a = 1 := by
  unfold b_sm
  rw [if_pos (congrArg nI (show kp a = w 0 from h 0 (by decide))), if_pos (congrArg nI (h 1 (by decide))), if_pos (congrArg nI (h 2 (by decide))), if_pos (congrArg nI (h 3 (by decide))), if_pos (congrArg nI (h 4 (by decide)))]
theorem qa_ls {kp w : Nat → Nat} {m : Nat} (h : ∀ f, f < 5 → kp (m % 16 * 5 + f) = w f) : b_ls kp w m 16 0 = m := b_ls_hit kp w m 0 (by decide) (Nat.zero_le _) (qa_sm h)
/-- what a look tells, and what it leaves as it was -/
def qa_T (v v' : Nat → Nat → Nat) (r t : Nat) : Prop :=
  (v' 0 0 = v 0 0 ∧ v' 1 = v 1) ∧ (t < 100 ∨ ((t = 100 ∨ t = 101) ∧ s_sum v' 6 + s_sum v' 7 = s_sum v 6 + s_sum v 7 + 1)) ∧ (t = 101 → ¬ v' (5 + 3 * r) 0 = 0 → c_rdr v' r 6 = v' 0 0 / 2 ∧ ∀ f, f < 5 → c_has v' r f = v' 1 f)
theorem qa_look {b r : Nat} {v : Nat → Nat → Nat} (h : qa_I b v) (hr : r < 4) (hm : ¬ v (5 + 3 * r) 1 = 0) : qa_I (b + 1) (s_gl v r) ∧ qa_T v (s_gl v r) r (s_glr v r) := by
  have hs := s_glance_I h.1 hr
  have hrow := (h.2.2.2.1 r hr).2
  obtain ⟨o1, o2⟩ := (h.2.2.2.1 r hr).1 hm
  have hhv := h.2.2.2.2
  have hIR := h.1.2 r hr
  unfold s_IR at hIR
  by_cases ht : v (5 + 3 * r) 4 < 5
  · have e : s_gl v r = s_tk v r := if_pos ht
    have et : s_glr v r = v 1 (v (5 + 3 * r) 4) := if_pos ht
    rw [e] at hs
    rw [e, et]
    have e0 : s_tk v r 0 = v 0 := by unfold s_tk; rw [n_up_ne2 (by omega), n_up_ne2 (by omega)]
    have e1 : s_tk v r 1 = v 1 := by unfold s_tk; rw [n_up_ne2 (by omega), n_up_ne2 (by omega)]
    have e3 : s_tk v r 3 = v 3 := by unfold s_tk; rw [n_up_ne2 (by omega), n_up_ne2 (by omega)]
    have e4 : s_tk v r 4 = v 4 := by unfold s_tk; rw [n_up_ne2 (by omega), n_up_ne2 (by omega)]
    have e5 : s_tk v r (5 + 3 * r) = va_up (v (5 + 3 * r)) 4 (v (5 + 3 * r) 4 + 1) := by unfold s_tk; rw [n_up_ne2 (by omega), n_up_at2]
    have e7 : s_tk v r (7 + 3 * r) = va_up (v (7 + 3 * r)) (v (5 + 3 * r) 4) (v 1 (v (5 + 3 * r) 4)) := n_up_at2
    have er : ∀ k, k < 4 → ¬ k = r → s_tk v r (5 + 3 * k) = v (5 + 3 * k) ∧ s_tk v r (7 + 3 * k) = v (7 + 3 * k) := fun k hk q => by
      unfold s_tk
      exact ⟨by rw [n_up_ne2 (by omega), n_up_ne2 (by omega)], by rw [n_up_ne2 (by omega), n_up_ne2 (by omega)]⟩
    have hq := qa_sum (k := 7) (v := v) (v' := s_tk v r) hr (fun j hj q => (er j hj q).1)
    have e57 : s_tk v r (5 + 3 * r) 7 = v (5 + 3 * r) 7 := by rw [e5]; rfl
    refine ⟨qa_rd (r := r) h hs (by rw [e0]) e1 e3 e4 er ?_ (by rw [e0]; omega), ⟨by rw [e0], e1⟩, Or.inl (h.2.2.1.1 _ ht), fun z => ?_⟩
    · unfold qa_R
      rw [e5, e7, e0, e1]
      refine ⟨fun _ => ⟨o1, fun y => ⟨(o2 y).1, fun w i hi => ?_⟩⟩, hrow⟩
      by_cases q : i = v (5 + 3 * r) 4
      · rw [q]
        exact n_up_at
      · rw [n_up_ne q]
        exact (o2 y).2 w i (by
          have hi : i < v (5 + 3 * r) 4 + 1 := hi
          omega)
    · have := h.2.2.1.1 _ ht
      omega
  · by_cases w : s_wf v r
    · have e : s_gl v r = s_fl v r := (if_neg ht).trans (if_pos w)
      have et : s_glr v r = 100 := (if_neg ht).trans (if_pos w)
      rw [e] at hs
      rw [e, et]
      have e0 : s_fl v r 0 = v 0 := n_up_ne2 (by omega)
      have e1 : s_fl v r 1 = v 1 := n_up_ne2 (by omega)
      have e5 : s_fl v r (5 + 3 * r) = va_up (va_up (va_up (v (5 + 3 * r)) 1 0) 5 (v (5 + 3 * r) 5 + 1)) 6 (v (5 + 3 * r) 6 + 1) := n_up_at2
      have er : ∀ k, k < 4 → ¬ k = r → s_fl v r (5 + 3 * k) = v (5 + 3 * k) ∧ s_fl v r (7 + 3 * k) = v (7 + 3 * k) := fun k hk q => ⟨n_up_ne2 (by omega), n_up_ne2 (by omega)⟩
      have hq := qa_sum (k := 7) (v := v) (v' := s_fl v r) hr (fun j hj q => (er j hj q).1)
      have hq6 := qa_sum (k := 6) (v := v) (v' := s_fl v r) hr (fun j hj q => (er j hj q).1)
      have e57 : s_fl v r (5 + 3 * r) 7 = v (5 + 3 * r) 7 := by rw [e5]; rfl
      have e56 : s_fl v r (5 + 3 * r) 6 = v (5 + 3 * r) 6 + 1 := by rw [e5]; rfl
      refine ⟨qa_rd (r := r) h hs (by rw [e0]) e1 (n_up_ne2 (by omega)) (n_up_ne2 (by omega)) er ?_ (by rw [e0]; omega), ⟨by rw [e0], e1⟩, Or.inr ⟨Or.inl rfl, by omega⟩, fun z => absurd z (by decide)⟩
      unfold qa_R
      rw [e5]
      exact ⟨fun z => (z rfl).elim, Nat.succ_le_succ hrow⟩
    · obtain ⟨u, hu, e⟩ : ∃ u, u ≤ v 0 1 + 1 ∧ s_gl v r = va_up (s_wl v r) 0 (va_up (v 0) 1 u) := ⟨_, by split <;> omega, (if_neg ht).trans (if_neg w)⟩
      have et : s_glr v r = 101 := (if_neg ht).trans (if_neg w)
      rw [e] at hs
      rw [e, et]
      have e0 : va_up (s_wl v r) 0 (va_up (v 0) 1 u) 0 0 = v 0 0 := rfl
      have e1 : va_up (s_wl v r) 0 (va_up (v 0) 1 u) 1 = v 1 := by
        unfold s_wl
        rw [n_up_ne2 (by omega), n_up_ne2 (by omega), n_up_ne2 (by omega)]
      have e3 : va_up (s_wl v r) 0 (va_up (v 0) 1 u) 3 = v 3 := by
        unfold s_wl
        rw [n_up_ne2 (by omega), n_up_ne2 (by omega), n_up_ne2 (by omega)]
      have e4 : va_up (s_wl v r) 0 (va_up (v 0) 1 u) 4 = v 4 := by
        unfold s_wl
        rw [n_up_ne2 (by omega), n_up_ne2 (by omega), n_up_ne2 (by omega)]
      have e5 : va_up (s_wl v r) 0 (va_up (v 0) 1 u) (5 + 3 * r) = va_up (va_up (va_up (va_up (v (5 + 3 * r)) 1 0) 2 1) 5 0) 7 (v (5 + 3 * r) 7 + 1) := by
        unfold s_wl
        rw [n_up_ne2 (by omega), n_up_ne2 (by omega), n_up_at2]
      have e6 : va_up (s_wl v r) 0 (va_up (v 0) 1 u) (6 + 3 * r) = v (7 + 3 * r) := by
        unfold s_wl
        rw [n_up_ne2 (by omega), n_up_at2]
      have er : ∀ k, k < 4 → ¬ k = r → va_up (s_wl v r) 0 (va_up (v 0) 1 u) (5 + 3 * k) = v (5 + 3 * k) ∧ va_up (s_wl v r) 0 (va_up (v 0) 1 u) (7 + 3 * k) = v (7 + 3 * k) := fun k hk q => by
        unfold s_wl
        exact ⟨by rw [n_up_ne2 (by omega), n_up_ne2 (by omega), n_up_ne2 (by omega)], by rw [n_up_ne2 (by omega), n_up_ne2 (by omega), n_up_ne2 (by omega)]⟩
      have e01 : va_up (s_wl v r) 0 (va_up (v 0) 1 u) 0 1 = u := rfl
      generalize va_up (s_wl v r) 0 (va_up (v 0) 1 u) = v' at hs e0 e1 e3 e4 e5 e6 er e01 ⊢
      have hq := qa_sum (k := 7) (v := v) (v' := v') hr (fun j hj q => (er j hj q).1)
      have hq6 := qa_sum (k := 6) (v := v) (v' := v') hr (fun j hj q => (er j hj q).1)
      have e57 : v' (5 + 3 * r) 7 = v (5 + 3 * r) 7 + 1 := by rw [e5]; rfl
      have e56 : v' (5 + 3 * r) 6 = v (5 + 3 * r) 6 := by rw [e5]; rfl
      have e52 : v' (5 + 3 * r) 2 = 1 := by rw [e5]; rfl
      have e50 : v' (5 + 3 * r) 0 = v (5 + 3 * r) 0 := by rw [e5]; rfl
      refine ⟨qa_rd (r := r) h hs e0 e1 e3 e4 er ?_ (by rw [e01]; omega), ⟨e0, e1⟩, Or.inr ⟨Or.inr rfl, by omega⟩, fun _ y => ?_⟩
      · unfold qa_R
        rw [e5]
        exact ⟨fun z => (z rfl).elim, Nat.zero_le _⟩
      · rw [e50] at y
        have hn : v (5 + 3 * r) 3 = v 0 0 := Classical.byContradiction fun q => w ⟨y, Or.inl ⟨hm, q⟩⟩
        obtain ⟨p1, p2⟩ := o2 y
        have hv : ∀ i, i < 5 → v (7 + 3 * r) i = v 1 i := fun i hi => p2 hn i (by omega)
        have hk := h.2.2.1.2.2 (by omega)
        refine ⟨?_, fun f hf => ?_⟩
        · show (if v' (5 + 3 * r) 2 = 0 then 4294967295 else b_ls (v' 4) (v' (6 + 3 * r)) (v' 0 0 / 2) 16 0) = _
          rw [e52, if_neg (by decide), e4, e6, e0]
          exact qa_ls fun f hf => (hk f hf).trans (hv f hf).symm
        · show (if v' (5 + 3 * r) 2 = 0 then 4294967295 else v' (6 + 3 * r) f) = _
          rw [e52, if_neg (by decide), e6, e1]
          exact hv f hf
/-! WHAT THE LAW'S CHECKS FIND -/
theorem qa_note {b f : Nat} {v : Nat → Nat → Nat} (h : qa_I b v) (hf : f < 5) : (v 0 0 % 2 = 0 → b_kv v (v 0 0 / 2) f = v 1 f) ∧ b_kv v (v 0 0 / 2 + 1) f = 4294967295 ∧ b_kv v (v 0 0 / 2) f < 100 ∧ (16 ≤ v 0 0 / 2 → b_kv v (v 0 0 / 2 - 16) f = 4294967295 ∧ b_kv v (v 0 0 / 2 - 15) f < 100) := by
  obtain ⟨h1, h2, ⟨f1, f2, f3⟩, h4, h5⟩ := h
  have e1 : b_kv v (v 0 0 / 2) f = v 4 (v 0 0 / 2 % 16 * 5 + f) := by
    unfold b_kv
    rw [if_neg (by omega), if_neg (by omega)]
  refine ⟨fun z => by rw [e1]; exact f3 z f hf, ?_, by rw [e1]; exact f2 _ (by omega), fun z => ⟨?_, ?_⟩⟩
  · unfold b_kv
    rw [if_neg (by omega), if_pos (by omega)]
  · unfold b_kv
    rw [if_pos (by omega)]
  · unfold b_kv
    rw [if_neg (by omega), if_neg (by omega)]
    exact f2 _ (by omega)
theorem qa_doing {n c : Nat} {pl : Nat → Nat} (h : qa_P n pl) (hc : c < 3) : (b_doing pl c = 1 ∧ b_who pl = c) ∨ ((b_doing pl c = 0 ∨ b_doing pl c = 2) ∧ ¬ b_who pl = c) := by
  unfold b_doing
  rcases qa_who h with ⟨_, h1, _, h2⟩ | ⟨_, h1, _, _, h2⟩
  · rw [if_pos (h2 c hc)]
    exact Or.inr ⟨Or.inl rfl, by omega⟩
  · have h3 := h2 c hc
    by_cases q : pl c = 0
    · rw [if_neg (by omega), if_pos q]
      exact Or.inl ⟨rfl, h3.mp q⟩
    · refine Or.inr ⟨?_, fun z => q (h3.mpr z)⟩
      rw [if_neg q]
      split
      · exact Or.inl rfl
      · exact Or.inr rfl
/-- sums over the readers so far -/
def qa_ps (v : Nat → Nat → Nat) (k : Nat) : Nat → Nat
  | 0 => 0
  | r + 1 => qa_ps v k r + v (5 + 3 * r) k
theorem qa_ps4 (v : Nat → Nat → Nat) (k : Nat) : qa_ps v k 4 = s_sum v k := by
  show 0 + v 5 k + v 8 k + v 11 k + v 14 k = v 5 k + v 8 k + v 11 k + v 14 k
  rw [Nat.zero_add]
theorem qa_ps_le {b k : Nat} {v : Nat → Nat → Nat} (h : ∀ r, r < 4 → v (5 + 3 * r) k ≤ b) : ∀ r, r ≤ 4 → qa_ps v k r ≤ r * b
  | 0, _ => Nat.zero_le _
  | r + 1, hr => by
    have h1 := qa_ps_le h r (by omega)
    have h2 := h r (by omega)
    rw [Nat.succ_mul]
    exact Nat.add_le_add h1 h2
theorem qa_half0 {b r : Nat} {v : Nat → Nat → Nat} (h : qa_I b v) (hb : b < 2 ^ 28) (hr : r < 4) (he : v 0 0 % 2 = 0) (hq : v (5 + 3 * r) 1 = 0 ∨ (¬ v (5 + 3 * r) 0 = 0 ∧ v (5 + 3 * r) 3 = v 0 0)) : c_half v r = 0 := by
  have hn := h.1.1.1
  have hw : ∀ f, f < 5 → r_would (fun j => v (j + (5 + 3 * r))) v f = v 1 f := fun f hf => by
    unfold r_would
    simp only [Nat.zero_add]
    split
    · rename_i z
      rcases hq with q | ⟨q1, q2⟩
      · exact absurd q z.1
      · have := ((h.2.2.2.1 r hr).1 z.1).2 q1
        rw [show 2 + (5 + 3 * r) = 7 + 3 * r by omega]
        exact this.2 q2 f z.2
    · rfl
  have hl : b_ls (v 4) (r_would (fun j => v (j + (5 + 3 * r))) v) (v 0 0 / 2) 16 0 = v 0 0 / 2 := qa_ls fun f hf => (h.2.2.1.2.2 he f hf).trans (hw f hf).symm
  unfold c_half
  rw [hl]
  split
  · rw [if_neg (by omega)]
  · rfl
/-- what the law's checks of a reader rest on, case by case -/
theorem qa_d1 {v : Nat → Nat → Nat} {r : Nat} (h : ¬ v (5 + 3 * r) 1 = 0) : c_rdr v r 0 = 1 ∧ c_rdr v r 1 = v (5 + 3 * r) 3 ∧ c_rdr v r 2 = v (5 + 3 * r) 4 := by
  refine ⟨?_, if_neg h, if_neg h⟩
  show r_doing (fun j => v (j + (5 + 3 * r))) (v 0 2) = 1
  unfold r_doing
  simp only [Nat.zero_add]
  rw [if_neg h]
theorem qa_d2 {v : Nat → Nat → Nat} {r : Nat} (h : v (5 + 3 * r) 1 = 0) (h1 : ¬ v (5 + 3 * r) 0 = 0) (h2 : v 0 2 ≤ v (5 + 3 * r) 5) : c_rdr v r 0 = 2 ∧ s_out v r = 4294967295 ∧ c_half v r = 0 := by
  have e : s_out v r = 4294967295 := if_pos ⟨h1, h, h2⟩
  refine ⟨?_, e, ?_⟩
  · show r_doing (fun j => v (j + (5 + 3 * r))) (v 0 2) = 2
    unfold r_doing
    simp only [Nat.zero_add]
    rw [if_pos h, if_pos ⟨h1, h, h2⟩]
  · unfold c_half
    rw [e, if_neg (by decide)]
theorem qa_d0 {v : Nat → Nat → Nat} {r : Nat} (h : v (5 + 3 * r) 1 = 0) (h2 : ¬ (¬ v (5 + 3 * r) 0 = 0 ∧ v 0 2 ≤ v (5 + 3 * r) 5)) : c_rdr v r 0 = 0 ∧ s_out v r = if ¬ v (5 + 3 * r) 0 = 0 ∧ v 0 0 % 2 = 1 then 0 else 1 := by
  constructor
  · show r_doing (fun j => v (j + (5 + 3 * r))) (v 0 2) = 0
    unfold r_doing
    simp only [Nat.zero_add]
    rw [if_pos h, if_neg fun z => h2 ⟨z.1, z.2.2⟩]
  · unfold s_out
    rw [if_neg fun z => h2 ⟨z.1, z.2.2⟩]
    by_cases q : ¬ v (5 + 3 * r) 0 = 0 ∧ v 0 0 % 2 = 1
    · rw [if_pos q, if_pos ⟨q.1, Or.inr ⟨h, q.2⟩⟩]
    · rw [if_neg q, if_neg fun z => q ⟨z.1, by omega⟩]
theorem qa_dN {v : Nat → Nat → Nat} {r : Nat} (h : v (5 + 3 * r) 1 = 0) : c_rdr v r 1 = 4294967295 ∧ c_rdr v r 2 = 4294967295 := ⟨if_pos h, if_pos h⟩
theorem qa_o1 {v : Nat → Nat → Nat} {r : Nat} (h : ¬ v (5 + 3 * r) 1 = 0) : s_out v r = if ¬ v (5 + 3 * r) 0 = 0 ∧ ¬ v (5 + 3 * r) 3 = v 0 0 then 0 else 1 := by
  unfold s_out
  rw [if_neg fun z => h z.2.1]
  by_cases q : ¬ v (5 + 3 * r) 0 = 0 ∧ ¬ v (5 + 3 * r) 3 = v 0 0
  · rw [if_pos q, if_pos ⟨q.1, Or.inl ⟨h, q.2⟩⟩]
  · rw [if_neg q, if_neg fun z => q ⟨z.1, by omega⟩]
theorem qa_half1 {v : Nat → Nat → Nat} {r : Nat} (h : ¬ s_out v r = 1) : c_half v r = 0 := if_neg h
theorem qa_half_le (v : Nat → Nat → Nat) (r : Nat) : c_half v r ≤ 1 := by
  unfold c_half
  (repeat' split) <;> omega
theorem qa_h7 (v : Nat → Nat → Nat) (r : Nat) : c_rdr v r 7 = if v (5 + 3 * r) 0 = 0 then 0 else 1 := rfl
/-! THE STATE WITH ITS SAVED STATES -/
def qa_G (b : Nat) (x v : Nat → Nat → Nat) (V : Nat → Nat → Nat → Nat) : Prop := x 0 3 < 6 ∧ x 0 4 ≤ 6 ∧ qa_I b v ∧ ∀ j, j < 6 → qa_I b (V j)
theorem qa_Gup {b b' : Nat} {x v : Nat → Nat → Nat} {V : Nat → Nat → Nat → Nat} (h : qa_G b x v V) (hb : b ≤ b') : qa_G b' x v V := ⟨h.1, h.2.1, qa_up h.2.2.1 hb, fun j hj => qa_up (h.2.2.2 j hj) hb⟩
theorem qa_Gsv {b : Nat} {x v v' : Nat → Nat → Nat} {V : Nat → Nat → Nat → Nat} (h : qa_G b x v V) (h' : qa_I (b + 1) v') : qa_G (b + 1) (va_up x 0 (c_sv (x 0))) v' (c_put V ((x 0 3 + x 0 4) % 6) v) := by
  obtain ⟨h1, h2, h3, h4⟩ := h
  refine ⟨?_, ?_, h', fun j hj => ?_⟩
  · show c_sv (x 0) 3 < 6
    unfold c_sv
    split
    · rw [n_up_ne (by omega)]; exact h1
    · rw [n_up_at]; omega
  · show c_sv (x 0) 4 ≤ 6
    unfold c_sv
    split
    · rw [n_up_at]; omega
    · rw [n_up_ne (by omega)]; omega
  · unfold c_put
    split
    · exact qa_up h3 (by omega)
    · exact qa_up (h4 j hj) (by omega)
/-- what a deed of the law does: what is told, the state behind it -/
def qa_A (b sort r t : Nat) (x v : Nat → Nat → Nat) (x' v' : Nat → Nat → Nat) (V' : Nat → Nat → Nat → Nat) : Prop :=
  qa_G (b + 1) x' v' V' ∧ ((t = 4294967293 ∧ x' 0 = x 0 ∧ v' = v) ∨ (t < 2 ^ 31 ∧ (sort = 17 ∨ v 0 0 ≤ v' 0 0) ∧ (18 ≤ sort → (t < 100 ∨ ((t = 100 ∨ t = 101) ∧ s_sum v' 6 + s_sum v' 7 = s_sum v 6 + s_sum v 7 + 1)) ∧ (t = 101 → ¬ v' (5 + 3 * r) 0 = 0 → c_rdr v' r 6 = v' 0 0 / 2 ∧ ∀ f, f < 5 → c_has v' r f = v' 1 f))))
theorem qa_A3 {b sort r : Nat} {x v : Nat → Nat → Nat} {V : Nat → Nat → Nat → Nat} (h : qa_G b x v V) : qa_A b sort r 4294967293 x v x v V := ⟨qa_Gup h (by omega), Or.inl ⟨rfl, rfl, rfl⟩⟩
/-- a deed but undo and look -/
theorem qa_A0 {b sort r t : Nat} {x v v' : Nat → Nat → Nat} {V : Nat → Nat → Nat → Nat} (h : qa_G b x v V) (h' : qa_I (b + 1) v') (hs : sort < 17) (ht : t < 2 ^ 31) (hn : v 0 0 ≤ v' 0 0) : qa_A b sort r t x v (va_up x 0 (c_sv (x 0))) v' (c_put V ((x 0 3 + x 0 4) % 6) v) := ⟨qa_Gsv h h', Or.inr ⟨ht, Or.inr hn, fun z => absurd z (by omega)⟩⟩
theorem qa_A9 {b sort r : Nat} {x v : Nat → Nat → Nat} {V : Nat → Nat → Nat → Nat} (h : qa_G b x v V) (hr : r < 4) (hm : ¬ v (5 + 3 * r) 1 = 0) : qa_A b sort r (s_glr v r) x v (va_up x 0 (c_sv (x 0))) (s_gl v r) (c_put V ((x 0 3 + x 0 4) % 6) v) := by
  obtain ⟨h1, ⟨h2, h3⟩, h4, h5⟩ := qa_look h.2.2.1 hr hm
  exact ⟨qa_Gsv h h1, Or.inr ⟨by omega, Or.inr (by omega), fun _ => ⟨h4, h5⟩⟩⟩
theorem qa_Au {b r : Nat} {x v : Nat → Nat → Nat} {V : Nat → Nat → Nat → Nat} (h : qa_G b x v V) : qa_A b 17 r (x 0 4 - 1) x v (va_up x 0 (va_up (x 0) 4 (x 0 4 - 1))) (V ((x 0 3 + (x 0 4 - 1)) % 6)) V := by
  obtain ⟨h1, h2, h3, h4⟩ := h
  refine ⟨⟨h1, ?_, qa_up (h4 _ (by omega)) (by omega), fun j hj => qa_up (h4 j hj) (by omega)⟩, Or.inr ⟨by omega, Or.inl rfl, fun z => absurd z (by decide)⟩⟩
  show x 0 4 - 1 ≤ 6
  omega
/-! the share against 0 and 1 -/
theorem qa_cl {n : Nat} (h : n ≤ 9218868437227405312) : ¬ Op.cmpValue (FP.dcmp (UInt64.ofNat n) FP.dconst0) .l < 0 := by
  have e : FP.dcmp (UInt64.ofNat n) FP.dconst0 = some (compare (n : Int) 0) := by
    refine (FP.Core.dcmp_key (f_ne h) (by decide +kernel)).trans ?_
    rw [f_key (by omega), f_key0]
  rw [e]
  rcases Int.lt_trichotomy (n : Int) 0 with q | q | q
  · omega
  · rw [(FP.Core.compare_eq_iff _ _).mpr q]
    decide
  · rw [(FP.Core.compare_gt_iff _ _).mpr q]
    decide
theorem qa_cg {n : Nat} (h : n ≤ 4607182418800017408) : ¬ 0 < Op.cmpValue (FP.dcmp (UInt64.ofNat n) FP.dconst1) .g := by
  rcases f_cmp (show n ≤ 9218868437227405312 by omega) (y := FP.dconst1) (by rw [f_one]; intro z; cases z) f_key1 with ⟨q, e⟩ | ⟨q, e⟩ | ⟨q, e⟩ <;> rw [e]
  · decide
  · decide
  · omega
theorem qa_s1 {b : Nat} {v : Nat → Nat → Nat} (h : s_I b v) : s_sum v 1 ≤ 4 := by
  obtain ⟨h0, h1, h2, h3⟩ := s_IRn h
  unfold s_IR at h0 h1 h2 h3
  simp only [Nat.reduceMul, Nat.reduceAdd] at h0 h1 h2 h3
  unfold s_sum
  omega
