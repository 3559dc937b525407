/-! one deed of a text, and all of them -/
def s_opn (v : Nat → Nat → Nat) (r : Nat) : Nat → Nat → Nat := va_up v (5 + 3 * r) (r_open (fun j => v (j + (5 + 3 * r))) v 0)
/-! the state's bounds, over every deed -/
theorem s_IR_up {b b' : Nat} {v : Nat → Nat → Nat} {r : Nat} (h : s_IR b v r) (hb : b ≤ b') : s_IR b' v r := by
  unfold s_IR at h ⊢
  omega
theorem s_IR_eq {b : Nat} {v v' : Nat → Nat → Nat} {r : Nat} (h : s_IR b v r) (e : v' (5 + 3 * r) = v (5 + 3 * r)) : s_IR b v' r := by
  unfold s_IR at h ⊢
  rw [e]
  exact h
theorem s_I_up {b b' : Nat} {v : Nat → Nat → Nat} (h : s_I b v) (hb : b ≤ b') : s_I b' v := by
  obtain ⟨⟨h1, h2, h3, h4⟩, h5⟩ := h
  exact ⟨⟨by omega, by omega, h3, h4⟩, fun r hr => s_IR_up (h5 r hr) hb⟩
theorem n_up_at2 {f : Nat → Nat → Nat} {i : Nat} {x : Nat → Nat} : va_up f i x i = x := if_pos rfl
theorem n_up_ne2 {f : Nat → Nat → Nat} {i k : Nat} {x : Nat → Nat} (h : ¬ k = i) : va_up f i x k = f k := if_neg h
theorem s_enter_I {b c : Nat} {v : Nat → Nat → Nat} (h : s_I b v) : s_I (b + 1) (b_enter v c) := by
  obtain ⟨⟨h1, h2, h3, h4⟩, h5⟩ := h
  have hl := b_inl_le (v 3)
  unfold b_enter
  refine ⟨⟨?_, ?_, ?_, fun c' hc' => ?_⟩, fun r hr => s_IR_eq (s_IR_up (h5 r hr) (by omega)) ?_⟩
  · rw [n_up_ne2 (by omega), n_up_at2, n_up_at]; split <;> omega
  · rw [n_up_ne2 (by omega), n_up_at2, n_up_ne (by omega)]; omega
  · rw [n_up_ne2 (by omega), n_up_at2, n_up_ne (by omega)]; omega
  · rw [n_up_at2]
    have := h4 c' hc'
    unfold va_up
    split <;> omega
  · rw [n_up_ne2 (by omega), n_up_ne2 (by omega)]
theorem b_stp_3 {x : Nat} (h : x = 4294967295 ∨ x ≤ 3) : b_stp x = 4294967295 ∨ b_stp x ≤ 3 := by
  unfold b_stp
  split <;> omega
theorem b_stpf_3 {pl : Nat → Nat} (hp : ∀ c, c < 3 → pl c = 4294967295 ∨ pl c ≤ 3) : ∀ c, c < 3 → b_stpf pl c = 4294967295 ∨ b_stpf pl c ≤ 3 := by
  intro c hc
  have h0 := b_stp_3 (hp 0 (by omega))
  have h1 := b_stp_3 (hp 1 (by omega))
  have h2 := b_stp_3 (hp 2 (by omega))
  unfold b_stpf va_up
  rcases o_lt3 hc with rfl | rfl | rfl
  · exact h0
  · exact h1
  · exact h2
theorem s_leave_I {b c : Nat} {v : Nat → Nat → Nat} (h : s_I b v) : s_I (b + 1) (b_leave v c) := by
  obtain ⟨⟨h1, h2, h3, h4⟩, h5⟩ := h
  unfold b_leave
  refine ⟨⟨?_, ?_, ?_, fun c' hc' => ?_⟩, fun r hr => s_IR_eq (s_IR_up (h5 r hr) (by omega)) ?_⟩
  · rw [n_up_ne2 (by omega), n_up_ne2 (by omega), n_up_ne2 (by omega), n_up_at2, n_up_at]; split <;> omega
  · rw [n_up_ne2 (by omega), n_up_ne2 (by omega), n_up_ne2 (by omega), n_up_at2, n_up_ne (by omega)]; omega
  · rw [n_up_ne2 (by omega), n_up_ne2 (by omega), n_up_ne2 (by omega), n_up_at2, n_up_ne (by omega)]; omega
  · rw [n_up_ne2 (by omega), n_up_at2]
    exact b_stpf_3 h4 c' hc'
  · rw [n_up_ne2 (by omega), n_up_ne2 (by omega), n_up_ne2 (by omega), n_up_ne2 (by omega)]
theorem s_write_I {b f y : Nat} {v : Nat → Nat → Nat} (h : s_I b v) : s_I (b + 1) (b_write v f y) := by
  obtain ⟨⟨h1, h2, h3, h4⟩, h5⟩ := h
  unfold b_write
  refine ⟨⟨?_, ?_, ?_, fun c' hc' => ?_⟩, fun r hr => s_IR_eq (s_IR_up (h5 r hr) (by omega)) ?_⟩
  · rw [n_up_ne2 (by omega)]; omega
  · rw [n_up_ne2 (by omega)]; omega
  · rw [n_up_ne2 (by omega)]; omega
  · rw [n_up_ne2 (by omega)]; exact h4 c' hc'
  · rw [n_up_ne2 (by omega)]
/-- one reader's part another, perhaps the halves too -/
theorem s_I_rd {b r : Nat} {v v' : Nat → Nat → Nat} (h : s_I b v) (hr : r < 4) (e3 : v' 3 = v 3) (e0 : v' 0 0 = v 0 0) (e1 : v' 0 1 ≤ b + 1) (e2 : v' 0 2 = v 0 2) (er : ∀ k, k < 4 → ¬ k = r → v' (5 + 3 * k) = v (5 + 3 * k)) (hR : s_IR (b + 1) v' r) : s_I (b + 1) v' := by
  obtain ⟨⟨h1, h2, h3, h4⟩, h5⟩ := h
  refine ⟨⟨by omega, e1, by omega, fun c hc => by rw [e3]; exact h4 c hc⟩, fun k hk => ?_⟩
  by_cases q : k = r
  · rw [q]
    exact hR
  · exact s_IR_eq (s_IR_up (h5 k hk) (by omega)) (er k hk q)
theorem s_open_I {b r : Nat} {v : Nat → Nat → Nat} (h : s_I b v) (hr : r < 4) : s_I (b + 1) (s_opn v r) := by
  have h0 := h
  obtain ⟨⟨h1, h2, h3, h4⟩, h5⟩ := h
  have hq := h5 r hr
  unfold s_IR at hq
  unfold s_opn
  refine s_I_rd h0 hr (n_up_ne2 (by omega)) (by rw [n_up_ne2 (by omega)]) (by rw [n_up_ne2 (by omega)]; omega) (by rw [n_up_ne2 (by omega)]) (fun k hk q => n_up_ne2 (by omega)) ?_
  unfold s_IR
  rw [n_up_at2]
  unfold r_open
  rw [n_up_at2]
  split
  · simp only [va_up, Nat.zero_add, Nat.reduceEqDiff, if_true, if_false]
    omega
  · simp only [va_up, Nat.zero_add, Nat.reduceEqDiff, if_true, if_false]
    omega
theorem s_glance_I {b r : Nat} {v : Nat → Nat → Nat} (h : s_I b v) (hr : r < 4) : s_I (b + 1) (s_gl v r) := by
  have h0 := h
  obtain ⟨⟨h1, h2, h3, h4⟩, h5⟩ := h
  have hq := h5 r hr
  unfold s_IR at hq
  unfold s_gl
  split
  · unfold s_tk
    refine s_I_rd h0 hr ?_ ?_ ?_ ?_ (fun k hk q => ?_) ?_
    · rw [n_up_ne2 (by omega), n_up_ne2 (by omega)]
    · rw [n_up_ne2 (by omega), n_up_ne2 (by omega)]
    · rw [n_up_ne2 (by omega), n_up_ne2 (by omega)]; omega
    · rw [n_up_ne2 (by omega), n_up_ne2 (by omega)]
    · rw [n_up_ne2 (by omega), n_up_ne2 (by omega)]
    · unfold s_IR
      rw [n_up_ne2 (by omega), n_up_at2]
      simp only [va_up, Nat.reduceEqDiff, if_true, if_false]
      omega
  · split
    · unfold s_fl
      refine s_I_rd h0 hr (n_up_ne2 (by omega)) (by rw [n_up_ne2 (by omega)]) (by rw [n_up_ne2 (by omega)]; omega) (by rw [n_up_ne2 (by omega)]) (fun k hk q => n_up_ne2 (by omega)) ?_
      unfold s_IR
      rw [n_up_at2]
      simp only [va_up, Nat.reduceEqDiff, if_true, if_false]
      omega
    · unfold s_wl
      refine s_I_rd h0 hr ?_ ?_ ?_ ?_ (fun k hk q => ?_) ?_
      · rw [n_up_ne2 (by omega), n_up_ne2 (by omega), n_up_ne2 (by omega)]
      · rw [n_up_at2, n_up_ne (by omega)]
      · rw [n_up_at2, n_up_at]; split <;> omega
      · rw [n_up_at2, n_up_ne (by omega)]
      · rw [n_up_ne2 (by omega), n_up_ne2 (by omega), n_up_ne2 (by omega)]
      · unfold s_IR
        rw [n_up_ne2 (by omega), n_up_ne2 (by omega), n_up_at2]
        simp only [va_up, Nat.reduceEqDiff, if_true, if_false]
        omega
theorem o_put_mid : ∀ (new mid pre post : va_W), new.length = mid.length → o_put (pre ++ (mid ++ post)) (List.range' pre.length new.length) new = pre ++ (new ++ post)
  | [], [], pre, post, _ => rfl
  | y :: ys, z :: zs, pre, post, h => by
    have h1 := o_put_mid ys zs (pre ++ [y]) post (by simpa using h)
    rw [List.length_append, List.length_singleton] at h1
    rw [List.length_cons, List.range'_succ]
    show o_put ((pre ++ (z :: zs ++ post)).set pre.length y) (List.range' (pre.length + 1) ys.length) ys = _
    rw [List.set_append_right _ _ (Nat.le_refl _), Nat.sub_self]
    show o_put (pre ++ (y :: (zs ++ post))) (List.range' (pre.length + 1) ys.length) ys = _
    rw [show pre ++ (y :: (zs ++ post)) = pre ++ [y] ++ (zs ++ post) by simp, h1]
    simp
  | [], _ :: _, _, _, h => by simp at h
  | _ :: _, [], _, _, h => by simp at h
theorem o_putS (o : Nat → Nat) (cI cR cS : ClassId) (x v v' : Nat → Nat → Nat) (tl : va_W) : o_put (wO o cI cR cS x v tl) [5, 6, 7, 8, 9, 10, 11, 12, 13, 14, 15, 16, 17, 18, 19, 20, 21, 22, 23] (wS (fun k => o (k + 5)) cI cR v') = wO o cI cR cS x v' tl := o_put_mid (wS (fun k => o (k + 5)) cI cR v') (wS (fun k => o (k + 5)) cI cR v) (wX o cI cS x) tl rfl
