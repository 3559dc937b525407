/-! WHAT HOLDS OF THE CLASS'S STATE IN EVERY RUN: clerks in their row, the board and its latest notice, readers -/
def qa_L (a b c : Nat) : Prop :=
  (a = 0 ∧ b = 4294967295 ∧ c = 4294967295) ∨ (a = 4294967295 ∧ b = 0 ∧ c = 4294967295) ∨ (a = 4294967295 ∧ b = 4294967295 ∧ c = 0) ∨
  (a = 0 ∧ b = 1 ∧ c = 4294967295) ∨ (a = 1 ∧ b = 0 ∧ c = 4294967295) ∨ (a = 0 ∧ b = 4294967295 ∧ c = 1) ∨ (a = 1 ∧ b = 4294967295 ∧ c = 0) ∨ (a = 4294967295 ∧ b = 0 ∧ c = 1) ∨ (a = 4294967295 ∧ b = 1 ∧ c = 0) ∨
  (a = 0 ∧ b = 1 ∧ c = 2) ∨ (a = 0 ∧ b = 2 ∧ c = 1) ∨ (a = 1 ∧ b = 0 ∧ c = 2) ∨ (a = 1 ∧ b = 2 ∧ c = 0) ∨ (a = 2 ∧ b = 0 ∧ c = 1) ∨ (a = 2 ∧ b = 1 ∧ c = 0)
def qa_P (n : Nat) (pl : Nat → Nat) : Prop := (n % 2 = 0 ∧ pl 0 = 4294967295 ∧ pl 1 = 4294967295 ∧ pl 2 = 4294967295) ∨ (n % 2 = 1 ∧ qa_L (pl 0) (pl 1) (pl 2))
theorem qa_who {n : Nat} {pl : Nat → Nat} (h : qa_P n pl) : (n % 2 = 0 ∧ b_who pl = 4294967295 ∧ b_inl pl = 0 ∧ ∀ c, c < 3 → pl c = 4294967295) ∨ (n % 2 = 1 ∧ b_who pl < 3 ∧ 1 ≤ b_inl pl ∧ b_inl pl ≤ 3 ∧ ∀ c, c < 3 → (pl c = 0 ↔ b_who pl = c)) := by
  unfold qa_P qa_L at h
  rcases h with ⟨hn, h0, h1, h2⟩ | ⟨hn, ⟨h0, h1, h2⟩ | ⟨h0, h1, h2⟩ | ⟨h0, h1, h2⟩ | ⟨h0, h1, h2⟩ | ⟨h0, h1, h2⟩ | ⟨h0, h1, h2⟩ | ⟨h0, h1, h2⟩ | ⟨h0, h1, h2⟩ | ⟨h0, h1, h2⟩ | ⟨h0, h1, h2⟩ | ⟨h0, h1, h2⟩ | ⟨h0, h1, h2⟩ | ⟨h0, h1, h2⟩ | ⟨h0, h1, h2⟩ | ⟨h0, h1, h2⟩⟩
  · refine Or.inl ⟨hn, ?_, ?_, fun c hc => ?_⟩
    · unfold b_who; rw [h0, h1, h2] <;> decide
    · unfold b_inl; rw [h0, h1, h2] <;> decide
    · rcases o_lt3 hc with rfl | rfl | rfl
      · exact h0
      · exact h1
      · exact h2
  all_goals
    refine Or.inr ⟨hn, ?_, ?_, b_inl_le pl, fun c hc => ?_⟩
    · unfold b_who; rw [h0, h1, h2] <;> decide
    · unfold b_inl; rw [h0, h1, h2] <;> decide
    · rcases o_lt3 hc with rfl | rfl | rfl
      · unfold b_who; rw [h0, h1, h2] <;> decide
      · unfold b_who; rw [h0, h1, h2] <;> decide
      · unfold b_who; rw [h0, h1, h2] <;> decide
theorem qa_enter {n c : Nat} {pl : Nat → Nat} (h : qa_P n pl) (hc : c < 3) (hp : pl c = 4294967295) : qa_P (if b_inl pl = 0 then n + 1 else n) (va_up pl c (b_inl pl)) := by
  unfold qa_P qa_L at h
  rcases h with ⟨hn, h0, h1, h2⟩ | ⟨hn, ⟨h0, h1, h2⟩ | ⟨h0, h1, h2⟩ | ⟨h0, h1, h2⟩ | ⟨h0, h1, h2⟩ | ⟨h0, h1, h2⟩ | ⟨h0, h1, h2⟩ | ⟨h0, h1, h2⟩ | ⟨h0, h1, h2⟩ | ⟨h0, h1, h2⟩ | ⟨h0, h1, h2⟩ | ⟨h0, h1, h2⟩ | ⟨h0, h1, h2⟩ | ⟨h0, h1, h2⟩ | ⟨h0, h1, h2⟩ | ⟨h0, h1, h2⟩⟩ <;> rcases o_lt3 hc with rfl | rfl | rfl <;>
    first
      | (exfalso; omega)
      | (unfold qa_P qa_L; simp [va_up, b_inl, h0, h1, h2]; omega)
theorem qa_leave {n c : Nat} {pl : Nat → Nat} (h : qa_P n pl) (hc : c < 3) (hp : pl c = 0) : qa_P (if 0 < b_inl (b_stpf pl) then n + 2 else n + 1) (b_stpf pl) := by
  unfold qa_P qa_L at h
  rcases h with ⟨hn, h0, h1, h2⟩ | ⟨hn, ⟨h0, h1, h2⟩ | ⟨h0, h1, h2⟩ | ⟨h0, h1, h2⟩ | ⟨h0, h1, h2⟩ | ⟨h0, h1, h2⟩ | ⟨h0, h1, h2⟩ | ⟨h0, h1, h2⟩ | ⟨h0, h1, h2⟩ | ⟨h0, h1, h2⟩ | ⟨h0, h1, h2⟩ | ⟨h0, h1, h2⟩ | ⟨h0, h1, h2⟩ | ⟨h0, h1, h2⟩ | ⟨h0, h1, h2⟩ | ⟨h0, h1, h2⟩⟩
  · exfalso
    rcases o_lt3 hc with rfl | rfl | rfl <;> omega
  all_goals (unfold qa_P qa_L; simp [b_stpf, b_stp, va_up, b_inl, h0, h1, h2]; omega)
/-- the board: values, kept notices, and with an even number the latest one is the board -/
def qa_B (v : Nat → Nat → Nat) : Prop := (∀ f, f < 5 → v 1 f < 100) ∧ (∀ k, k < 80 → v 4 k < 100) ∧ (v 0 0 % 2 = 0 → ∀ f, f < 5 → v 4 (v 0 0 / 2 % 16 * 5 + f) = v 1 f)
/-- a reader: who reads noted no number to come; who heeds noted an even one, and if it is the board's still, what is taken is the board's -/
def qa_R (v : Nat → Nat → Nat) (r : Nat) : Prop := (¬ v (5 + 3 * r) 1 = 0 → v (5 + 3 * r) 3 ≤ v 0 0 ∧ (¬ v (5 + 3 * r) 0 = 0 → v (5 + 3 * r) 3 % 2 = 0 ∧ (v (5 + 3 * r) 3 = v 0 0 → ∀ i, i < v (5 + 3 * r) 4 → v (7 + 3 * r) i = v 1 i))) ∧ v (5 + 3 * r) 5 ≤ v (5 + 3 * r) 6
def qa_I (b : Nat) (v : Nat → Nat → Nat) : Prop := s_I b v ∧ qa_P (v 0 0) (v 3) ∧ qa_B v ∧ (∀ r, r < 4 → qa_R v r) ∧ v 0 1 ≤ s_sum v 7
theorem qa_up {b b' : Nat} {v : Nat → Nat → Nat} (h : qa_I b v) (hb : b ≤ b') : qa_I b' v := ⟨s_I_up h.1 hb, h.2⟩
theorem qa_RK {v v' : Nat → Nat → Nat} {r : Nat} (h : qa_R v r) (e5 : v' (5 + 3 * r) = v (5 + 3 * r)) (e7 : v' (7 + 3 * r) = v (7 + 3 * r)) (hn : v 0 0 ≤ v' 0 0) (hq : v' 0 0 % 2 = 1 ∨ v 0 0 < v' 0 0 ∨ v' 1 = v 1) : qa_R v' r := by
  obtain ⟨h1, h2⟩ := h
  unfold qa_R
  rw [e5, e7]
  refine ⟨fun z => ?_, h2⟩
  obtain ⟨a1, a2⟩ := h1 z
  refine ⟨by omega, fun y => ?_⟩
  obtain ⟨b1, b2⟩ := a2 y
  refine ⟨b1, fun w i hi => ?_⟩
  rcases hq with q | q | q
  · omega
  · omega
  · rw [q]
    exact b2 (by omega) i hi
theorem qa_sum {v v' : Nat → Nat → Nat} {r k : Nat} (hr : r < 4) (e : ∀ j, j < 4 → ¬ j = r → v' (5 + 3 * j) = v (5 + 3 * j)) : s_sum v' k + v (5 + 3 * r) k = s_sum v k + v' (5 + 3 * r) k := by
  unfold s_sum
  rcases o_lt4 hr with rfl | rfl | rfl | rfl
  · have e1 : v' 8 k = v 8 k := congrFun (e 1 (by omega) (by omega)) k
    have e2 : v' 11 k = v 11 k := congrFun (e 2 (by omega) (by omega)) k
    have e3 : v' 14 k = v 14 k := congrFun (e 3 (by omega) (by omega)) k
    show v' 5 k + v' 8 k + v' 11 k + v' 14 k + v 5 k = v 5 k + v 8 k + v 11 k + v 14 k + v' 5 k
    omega
  · have e1 : v' 5 k = v 5 k := congrFun (e 0 (by omega) (by omega)) k
    have e2 : v' 11 k = v 11 k := congrFun (e 2 (by omega) (by omega)) k
    have e3 : v' 14 k = v 14 k := congrFun (e 3 (by omega) (by omega)) k
    show v' 5 k + v' 8 k + v' 11 k + v' 14 k + v 8 k = v 5 k + v 8 k + v 11 k + v 14 k + v' 8 k
    omega
  · have e1 : v' 5 k = v 5 k := congrFun (e 0 (by omega) (by omega)) k
    have e2 : v' 8 k = v 8 k := congrFun (e 1 (by omega) (by omega)) k
    have e3 : v' 14 k = v 14 k := congrFun (e 3 (by omega) (by omega)) k
    show v' 5 k + v' 8 k + v' 11 k + v' 14 k + v 11 k = v 5 k + v 8 k + v 11 k + v 14 k + v' 11 k
    omega
  · have e1 : v' 5 k = v 5 k := congrFun (e 0 (by omega) (by omega)) k
    have e2 : v' 8 k = v 8 k := congrFun (e 1 (by omega) (by omega)) k
    have e3 : v' 11 k = v 11 k := congrFun (e 2 (by omega) (by omega)) k
    show v' 5 k + v' 8 k + v' 11 k + v' 14 k + v 14 k = v 5 k + v 8 k + v 11 k + v 14 k + v' 14 k
    omega
theorem qa_rd {b r : Nat} {v v' : Nat → Nat → Nat} (h : qa_I b v) (hs : s_I (b + 1) v') (e0 : v' 0 0 = v 0 0) (e1 : v' 1 = v 1) (e3 : v' 3 = v 3) (e4 : v' 4 = v 4)
    (er : ∀ k, k < 4 → ¬ k = r → v' (5 + 3 * k) = v (5 + 3 * k) ∧ v' (7 + 3 * k) = v (7 + 3 * k)) (hR : qa_R v' r) (hh : v' 0 1 ≤ s_sum v' 7) : qa_I (b + 1) v' := by
  obtain ⟨h1, h2, ⟨f1, f2, f3⟩, h4, h5⟩ := h
  refine ⟨hs, by rw [e0, e3]; exact h2, ⟨by rw [e1]; exact f1, by rw [e4]; exact f2, by rw [e0, e1, e4]; exact f3⟩, fun k hk => ?_, hh⟩
  by_cases q : k = r
  · rw [q]
    exact hR
  · exact qa_RK (h4 k hk) (er k hk q).1 (er k hk q).2 (by omega) (Or.inr (Or.inr e1))
theorem qa_come {b c : Nat} {v : Nat → Nat → Nat} (h : qa_I b v) (hc : c < 3) (hp : v 3 c = 4294967295) : qa_I (b + 1) (b_enter v c) := by
  obtain ⟨h1, h2, ⟨f1, f2, f3⟩, h4, h5⟩ := h
  have hw := qa_who h2
  have hP := qa_enter h2 hc hp
  have en : b_enter v c 0 0 = if b_inl (v 3) = 0 then v 0 0 + 1 else v 0 0 := rfl
  have e3 : b_enter v c 3 = va_up (v 3) c (b_inl (v 3)) := rfl
  have hodd : b_enter v c 0 0 % 2 = 1 := by
    rw [en]
    rcases hw with ⟨a, _, a2, _⟩ | ⟨a, _, a2, _⟩
    · rw [if_pos a2]; omega
    · rw [if_neg (by omega)]; exact a
  have hle : v 0 0 ≤ b_enter v c 0 0 := by
    rw [en]
    split <;> omega
  have efr : ∀ k, 5 ≤ k → b_enter v c k = v k := fun k hk => by
    unfold b_enter
    rw [n_up_ne2 (by omega), n_up_ne2 (by omega)]
  exact ⟨s_enter_I h1, by rw [en, e3]; exact hP, ⟨f1, f2, fun z => absurd z (by omega)⟩, fun r hr => qa_RK (h4 r hr) (efr _ (by omega)) (efr _ (by omega)) hle (Or.inl hodd), h5⟩
theorem qa_chalk {b f y : Nat} {v : Nat → Nat → Nat} (h : qa_I b v) (hy : y < 100) (ho : v 0 0 % 2 = 1) : qa_I (b + 1) (b_write v f y) := by
  obtain ⟨h1, h2, ⟨f1, f2, f3⟩, h4, h5⟩ := h
  have e0 : b_write v f y 0 0 = v 0 0 := rfl
  refine ⟨s_write_I h1, h2, ⟨fun k hk => ?_, f2, fun z => absurd z (by rw [e0]; omega)⟩, fun r hr => qa_RK (h4 r hr) (n_up_ne2 (by omega)) (n_up_ne2 (by omega)) (by omega) (Or.inl ho), h5⟩
  show va_up (v 1) f y k < 100
  unfold va_up
  split
  · exact hy
  · exact f1 k hk
theorem qa_done {b c : Nat} {v : Nat → Nat → Nat} (h : qa_I b v) (hc : c < 3) (hp : v 3 c = 0) : qa_I (b + 1) (b_leave v c) := by
  obtain ⟨h1, h2, ⟨f1, f2, f3⟩, h4, h5⟩ := h
  have hw := qa_who h2
  have hP := qa_leave h2 hc hp
  have en : b_leave v c 0 0 = if 0 < b_inl (b_stpf (v 3)) then v 0 0 + 2 else v 0 0 + 1 := rfl
  have e3 : b_leave v c 3 = b_stpf (v 3) := rfl
  have e4 : b_leave v c 4 = va_cpy (v 1) (v 4) 0 ((v 0 0 + 1) / 2 % 16 * 5) 5 := rfl
  have hodd : v 0 0 % 2 = 1 := by
    rcases hw with ⟨a, _, _, a2⟩ | ⟨a, _⟩
    · have := a2 c hc
      omega
    · exact a
  have hlt : v 0 0 < b_leave v c 0 0 := by
    rw [en]
    split <;> omega
  have efr : ∀ k, 5 ≤ k → b_leave v c k = v k := fun k hk => by
    unfold b_leave
    rw [n_up_ne2 (by omega), n_up_ne2 (by omega), n_up_ne2 (by omega), n_up_ne2 (by omega)]
  refine ⟨s_leave_I h1, by rw [en, e3]; exact hP, ⟨f1, fun k hk => ?_, fun z f hf => ?_⟩, fun r hr => qa_RK (h4 r hr) (efr _ (by omega)) (efr _ (by omega)) (by omega) (Or.inr (Or.inl hlt)), h5⟩
  · rw [e4]
    unfold va_cpy
    split
    · exact f1 _ (by omega)
    · exact f2 k hk
  · rw [en] at z
    by_cases q : 0 < b_inl (b_stpf (v 3))
    · rw [if_pos q] at z
      omega
    · rw [e4, en, if_neg q]
      unfold va_cpy
      rw [if_pos ⟨by omega, by omega⟩]
      show _ = v 1 f
      congr 1
      omega
theorem qa_reader {b r y : Nat} {v : Nat → Nat → Nat} (h : qa_I b v) (hr : r < 4) (hy : y ≤ 1) : qa_I (b + 1) (va_up v (5 + 3 * r) (r_anew (fun j => v (j + (5 + 3 * r))) y 0)) := by
  have hq := qa_sum (k := 7) (v := v) (v' := va_up v (5 + 3 * r) (r_anew (fun j => v (j + (5 + 3 * r))) y 0)) hr (fun j hj q => n_up_ne2 (by omega))
  have e7 : va_up v (5 + 3 * r) (r_anew (fun j => v (j + (5 + 3 * r))) y 0) (5 + 3 * r) 7 = v (5 + 3 * r) 7 := by
    rw [n_up_at2]
    unfold r_anew
    rw [n_up_at2]
    simp only [va_up, Nat.zero_add, Nat.reduceEqDiff, if_false]
  refine qa_rd (r := r) h (s_anew_I h.1 hr hy) (by rw [n_up_ne2 (by omega)]) (n_up_ne2 (by omega)) (n_up_ne2 (by omega)) (n_up_ne2 (by omega)) (fun k hk q => ⟨n_up_ne2 (by omega), n_up_ne2 (by omega)⟩) ?_ ?_
  · unfold qa_R
    rw [n_up_at2]
    exact ⟨fun z => (z rfl).elim, Nat.zero_le _⟩
  · rw [n_up_ne2 (by omega)]
    have := h.2.2.2.2
    omega
theorem qa_set {b y : Nat} {v : Nat → Nat → Nat} (h : qa_I b v) (hy : y ≤ 20) : qa_I (b + 1) (va_up v 0 (va_up (v 0) 2 y)) := by
  obtain ⟨h1, h2, h3, h4, h5⟩ := h
  exact ⟨s_set_I h1 hy, h2, h3, fun r hr => qa_RK (h4 r hr) (n_up_ne2 (by omega)) (n_up_ne2 (by omega)) (Nat.le_refl _) (Or.inr (Or.inr rfl)), h5⟩
theorem qa_begin {b r : Nat} {v : Nat → Nat → Nat} (h : qa_I b v) (hr : r < 4) (hm : s_mb v r) : qa_I (b + 1) (s_opn v r) := by
  have hq := qa_sum (k := 7) (v := v) (v' := s_opn v r) hr (fun j hj q => n_up_ne2 (by omega))
  have hrow := (h.2.2.2.1 r hr).2
  have e0 : s_opn v r 0 = v 0 := n_up_ne2 (by omega)
  have e1 : s_opn v r 1 = v 1 := n_up_ne2 (by omega)
  have e7 : s_opn v r (7 + 3 * r) = v (7 + 3 * r) := n_up_ne2 (by omega)
  by_cases w : s_wf v r
  · have w2 : r_wf (fun j => v (j + (5 + 3 * r))) v := by
      simp only [r_wf, Nat.zero_add]
      exact w
    have e5 : s_opn v r (5 + 3 * r) = va_up (va_up (va_up (v (5 + 3 * r)) 1 0) 5 (v (5 + 3 * r) 5 + 1)) 6 (v (5 + 3 * r) 6 + 1) := by
      unfold s_opn
      rw [n_up_at2]
      unfold r_open
      rw [n_up_at2, if_pos w2]
      simp only [Nat.zero_add]
    have e57 : s_opn v r (5 + 3 * r) 7 = v (5 + 3 * r) 7 := by rw [e5]; rfl
    refine qa_rd (r := r) h (s_open_I h.1 hr) (by rw [e0]) e1 (n_up_ne2 (by omega)) (n_up_ne2 (by omega)) (fun k hk q => ⟨n_up_ne2 (by omega), n_up_ne2 (by omega)⟩) ?_ ?_
    · unfold qa_R
      rw [e5]
      exact ⟨fun z => (z rfl).elim, Nat.succ_le_succ hrow⟩
    · rw [e0]
      have := h.2.2.2.2
      omega
  · have w2 : ¬ r_wf (fun j => v (j + (5 + 3 * r))) v := fun z => w (by
      simp only [r_wf, Nat.zero_add] at z
      exact z)
    have e5 : s_opn v r (5 + 3 * r) = va_up (va_up (va_up (v (5 + 3 * r)) 1 1) 3 (v 0 0)) 4 0 := by
      unfold s_opn
      rw [n_up_at2]
      unfold r_open
      rw [n_up_at2, if_neg w2]
      simp only [Nat.zero_add]
    have e57 : s_opn v r (5 + 3 * r) 7 = v (5 + 3 * r) 7 := by rw [e5]; rfl
    refine qa_rd (r := r) h (s_open_I h.1 hr) (by rw [e0]) e1 (n_up_ne2 (by omega)) (n_up_ne2 (by omega)) (fun k hk q => ⟨n_up_ne2 (by omega), n_up_ne2 (by omega)⟩) ?_ ?_
    · unfold qa_R
      rw [e5, e0]
      refine ⟨fun _ => ⟨Nat.le_refl _, fun y => ⟨?_, fun _ i hi => (Nat.not_lt_zero i hi).elim⟩⟩, hrow⟩
      show v 0 0 % 2 = 0
      exact Classical.byContradiction fun q => w ⟨y, Or.inr ⟨hm.1, by omega⟩⟩
    · rw [e0]
      have := h.2.2.2.2
      omega
