/-! THE CLASS AND THE REFERENCE, AFTER ANY CALLS: b a bound on what is counted -/
def p_G (b : Nat) (x v : Nat → Nat → Nat) (V : Nat → Nat → Nat → Nat) (mv : Nat → Nat → Nat) : Prop := p_R v (mv 1) ∧ s_I b v ∧ m_I b (mv 1) ∧ p_T x (mv 3) (mv 0 1) ∧ p_S b x V (mv 0 0) (mv 2)
theorem g_same {b b' : Nat} {x x' v : Nat → Nat → Nat} {V : Nat → Nat → Nat → Nat} {mv mv' : Nat → Nat → Nat} (G : p_G b x v V mv) (hb : b ≤ b') (e0 : x' 0 = x 0) (e1 : x' 1 = x 1) (m0 : mv' 0 0 = mv 0 0) (m1 : mv' 0 1 = mv 0 1) (m2 : mv' 1 = mv 1) (m3 : mv' 2 = mv 2) (m4 : mv' 3 = mv 3) : p_G b' x' v V mv' := by
  obtain ⟨h1, h2, h3, h4, h5⟩ := G
  unfold p_G
  rw [m0, m1, m2, m3, m4]
  exact ⟨h1, s_I_up h2 hb, m_I_up h3 hb, p_T_of h4 (fun k _ => by rw [e0]) e1, p_S_up h5 hb (by rw [e0]) (by rw [e0])⟩
theorem g_up {b b' : Nat} {x v : Nat → Nat → Nat} {V : Nat → Nat → Nat → Nat} {mv : Nat → Nat → Nat} (G : p_G b x v V mv) (hb : b ≤ b') : p_G b' x v V mv := g_same G hb rfl rfl rfl rfl rfl rfl rfl
/-- a call that changes nothing but what is thrown -/
theorem g_thr {b b' : Nat} {x v : Nat → Nat → Nat} {V : Nat → Nat → Nat → Nat} {mv : Nat → Nat → Nat} (G : p_G b x v V mv) (hb : b ≤ b') (k : Nat) : p_G b' x v V (va_up mv 0 (va_up (mv 0) 2 k)) := g_same G hb rfl rfl rfl rfl rfl rfl rfl
theorem g_thr2 {b b' : Nat} {x v : Nat → Nat → Nat} {V : Nat → Nat → Nat → Nat} {mv : Nat → Nat → Nat} (G : p_G b x v V mv) (hb : b ≤ b') (k : Nat) (f : Nat → Nat) : p_G b' (va_up x 2 f) v V (va_up mv 0 (va_up (mv 0) 2 k)) := g_same G hb rfl rfl rfl rfl rfl rfl rfl
theorem g_act {b : Nat} {x v v' : Nat → Nat → Nat} {V : Nat → Nat → Nat → Nat} {mv : Nat → Nat → Nat} {w' : Nat → Nat} (G : p_G b x v V mv) (hR : p_R v' w') (hS : s_I (b + 1) v') (hI : m_I (b + 1) w') : p_G (b + 1) (va_up x 0 (c_sv (x 0))) v' (c_put V ((x 0 3 + x 0 4) % 6) v) (m_act mv 0 w') := by
  obtain ⟨h1, h2, h3, h4, h5⟩ := G
  have hs := p_S_up (x' := va_up x 0 (c_sv (x 0))) (p_S_save h5 h1 h3 h2) (Nat.le_succ b) rfl rfl
  have ht : p_T (va_up x 0 (c_sv (x 0))) (mv 3) (mv 0 1) := p_T_of h4 (fun k hk => c_sv_lo hk) rfl
  exact ⟨hR, hS, hI, ht, hs⟩
theorem g_actf {b b' k : Nat} {x v : Nat → Nat → Nat} {V : Nat → Nat → Nat → Nat} {mv : Nat → Nat → Nat} {w' : Nat → Nat} (G : p_G b x v V mv) (hb : b ≤ b') (hk : ¬ k = 0) : p_G b' x v V (m_act mv k w') := by
  rw [m_act_f hk]
  exact g_thr G hb k
theorem g_come {b c : Nat} {x v : Nat → Nat → Nat} {V : Nat → Nat → Nat → Nat} {mv : Nat → Nat → Nat} (G : p_G b x v V mv) (hb : b < 2 ^ 28) (hc : c < 3) (hm : m_mode (mv 1) c = 0) : v 3 c = 4294967295 ∧ b_inl (v 3) = m_comesr (mv 1) ∧ p_G (b + 1) (va_up x 0 (c_sv (x 0))) (b_enter v c) (c_put V ((x 0 3 + x 0 4) % 6) v) (m_act mv 0 (m_comes (mv 1) c)) := by
  refine ⟨(p_mode G.1 G.2.2.1 hc).1.mpr hm, ?_, g_act G (p_come G.1 G.2.2.1 hc hm) (s_enter_I G.2.1) (m_comes_I G.2.2.1 hb hc hm)⟩
  rw [p_inl G.1 G.2.2.1]
  unfold m_comesr
  (repeat' split) <;> omega
theorem g_chalk {b f y : Nat} {x v : Nat → Nat → Nat} {V : Nat → Nat → Nat → Nat} {mv : Nat → Nat → Nat} (G : p_G b x v V mv) (hf : f < 5) (hy : y < 100) (hm : ¬ mv 1 3 = 4294967295) : v 0 0 % 2 = 1 ∧ v 1 f = mv 1 (7 + f) ∧ p_G (b + 1) (va_up x 0 (c_sv (x 0))) (b_write v f y) (c_put V ((x 0 3 + x 0 4) % 6) v) (m_act mv 0 (va_up (mv 1) (7 + f) y)) :=
  ⟨(p_odd G.1 G.2.2.1).mpr hm, G.1.2.1 f hf, g_act G (p_chalk G.1 G.2.2.1 hf) (s_write_I G.2.1) (m_chalk_I G.2.2.1 hf (by omega))⟩
theorem g_done {b c : Nat} {x v : Nat → Nat → Nat} {V : Nat → Nat → Nat → Nat} {mv : Nat → Nat → Nat} (G : p_G b x v V mv) (hb : b < 2 ^ 28) (hc : c < 3) (hm : m_mode (mv 1) c = 1) : v 3 c = 0 ∧ (v 0 0 + 1) / 2 = (mv 1 0 + 1) / 2 ∧ p_G (b + 1) (va_up x 0 (c_sv (x 0))) (b_leave v c) (c_put V ((x 0 3 + x 0 4) % 6) v) (m_act mv 0 (m_ends (mv 1) c)) :=
  ⟨(p_mode G.1 G.2.2.1 hc).2.1.mpr hm, by rw [G.1.1.1], g_act G (p_done G.1 G.2.2.1 hc hm) (s_leave_I G.2.1) (m_ends_I G.2.2.1 hb hc hm)⟩
theorem s_anew_I {b r h : Nat} {v : Nat → Nat → Nat} (hI : s_I b v) (hr : r < 4) (hh : h ≤ 1) : s_I (b + 1) (va_up v (5 + 3 * r) (r_anew (fun j => v (j + (5 + 3 * r))) h 0)) := by
  have h0 := hI
  obtain ⟨⟨h1, h2, h3, h4⟩, h5⟩ := hI
  have hq := h5 r hr
  unfold s_IR at hq
  refine s_I_rd h0 hr (n_up_ne2 (by omega)) (by rw [n_up_ne2 (by omega)]) (by rw [n_up_ne2 (by omega)]; omega) (by rw [n_up_ne2 (by omega)]) (fun k hk q => n_up_ne2 (by omega)) ?_
  unfold s_IR
  rw [n_up_at2]
  unfold r_anew
  rw [n_up_at2]
  simp only [va_up, Nat.zero_add, Nat.reduceEqDiff, if_true, if_false]
  omega
theorem s_set_I {b y : Nat} {v : Nat → Nat → Nat} (hI : s_I b v) (hy : y ≤ 20) : s_I (b + 1) (va_up v 0 (va_up (v 0) 2 y)) := by
  obtain ⟨⟨h1, h2, h3, h4⟩, h5⟩ := hI
  refine ⟨⟨?_, ?_, ?_, fun c hc => ?_⟩, fun r hr => s_IR_eq (s_IR_up (h5 r hr) (by omega)) (n_up_ne2 (by omega))⟩
  · rw [n_up_at2, n_up_ne (by omega)]; omega
  · rw [n_up_at2, n_up_ne (by omega)]; omega
  · rw [n_up_at2, n_up_at]; exact hy
  · rw [n_up_ne2 (by omega)]; exact h4 c hc
theorem g_reader {b r h : Nat} {x v : Nat → Nat → Nat} {V : Nat → Nat → Nat → Nat} {mv : Nat → Nat → Nat} (G : p_G b x v V mv) (hr : r < 4) (hh : h ≤ 1) : v (5 + 3 * r) 0 = mv 1 (15 + 17 * r) ∧ p_G (b + 1) (va_up x 0 (c_sv (x 0))) (va_up v (5 + 3 * r) (r_anew (fun j => v (j + (5 + 3 * r))) h 0)) (c_put V ((x 0 3 + x 0 4) % 6) v) (m_act mv 0 (m_anew (mv 1) r h)) :=
  ⟨(p_rd G.1 G.2.2.1 hr).1.1, g_act G (p_reader G.1 G.2.2.1 hr) (s_anew_I G.2.1 hr hh) (m_anew_I G.2.2.1 hr hh)⟩
theorem g_begin {b r : Nat} {x v : Nat → Nat → Nat} {V : Nat → Nat → Nat → Nat} {mv : Nat → Nat → Nat} (G : p_G b x v V mv) (hb : b < 2 ^ 28) (hr : r < 4) (hm : m_ofr (mv 1) r = 0) : s_mb v r ∧ (if s_wf v r then 0 else 1) = m_beginsr (mv 1) r ∧ p_G (b + 1) (va_up x 0 (c_sv (x 0))) (s_opn v r) (c_put V ((x 0 3 + x 0 4) % 6) v) (m_act mv 0 (m_begins (mv 1) r)) :=
  ⟨(p_mb G.1 G.2.2.1 hr).1.mpr hm, (p_begin G.1 G.2.2.1 hb hr hm).2, g_act G (p_begin G.1 G.2.2.1 hb hr hm).1 (s_open_I G.2.1 hr) (m_begins_I G.2.2.1 hb hr)⟩
theorem g_look {b r : Nat} {x v : Nat → Nat → Nat} {V : Nat → Nat → Nat → Nat} {mv : Nat → Nat → Nat} (G : p_G b x v V mv) (hb : b < 2 ^ 28) (hr : r < 4) (hm : m_ofr (mv 1) r = 1) : ¬ v (5 + 3 * r) 1 = 0 ∧ s_glr v r = m_looksr (mv 1) r ∧ p_G (b + 1) (va_up x 0 (c_sv (x 0))) (s_gl v r) (c_put V ((x 0 3 + x 0 4) % 6) v) (m_act mv 0 (m_looks (mv 1) r)) :=
  ⟨(p_mb G.1 G.2.2.1 hr).2.mpr hm, (p_look G.1 G.2.2.1 hr hm).2, g_act G (p_look G.1 G.2.2.1 hr hm).1 (s_glance_I G.2.1 hr) (m_looks_I G.2.2.1 hb hr)⟩
theorem g_set {b y : Nat} {x v : Nat → Nat → Nat} {V : Nat → Nat → Nat → Nat} {mv : Nat → Nat → Nat} (G : p_G b x v V mv) (h1 : 1 ≤ y) (h2 : y ≤ 20) : v 0 2 = mv 1 1 ∧ p_G (b + 1) (va_up x 0 (c_sv (x 0))) (va_up v 0 (va_up (v 0) 2 y)) (c_put V ((x 0 3 + x 0 4) % 6) v) (m_act mv 0 (va_up (mv 1) 1 y)) :=
  ⟨G.1.1.2.2, g_act G (p_set G.1 G.2.2.1) (s_set_I G.2.1 h2) (m_set_I G.2.2.1 h1 h2)⟩
theorem t_st_le (tx : Nat → Nat) (n : Nat) : (t_st tx n).2 ≤ 6 := by
  cases n with
  | zero => exact Nat.zero_le _
  | succ n => exact t_beh_le _ _
/-- what holds of the class's numbers at any time -/
theorem g_x {b : Nat} {x v : Nat → Nat → Nat} {V : Nat → Nat → Nat → Nat} {mv : Nat → Nat → Nat} (G : p_G b x v V mv) : (x 0 0 = mv 0 1 ∧ x 0 0 ≤ 60 ∧ x 0 2 ≤ 6) ∧ (x 0 3 < 6 ∧ x 0 4 ≤ 6 ∧ x 0 4 = mv 0 0) ∧ (∀ k, x 1 k < 2 ^ 31) ∧ (∀ k, mv 3 k < 2 ^ 31) ∧ (∀ j, j < 6 → s_I b (V j)) := by
  obtain ⟨h1, h2, h3, ⟨⟨h4, h5, h6, h7⟩, h8, h9, h10⟩, ⟨h11, h12, h13⟩, h14, h15, h16⟩ := G
  have := t_st_le (mv 3) (mv 0 1)
  exact ⟨⟨h4, by omega, by omega⟩, ⟨h11, by omega, h12⟩, h9, h10, h15⟩
theorem g_app {b b' c : Nat} {x v : Nat → Nat → Nat} {V : Nat → Nat → Nat → Nat} {mv : Nat → Nat → Nat} (G : p_G b x v V mv) (hb : b ≤ b') (h1 : 33 ≤ c ∧ c ≤ 126) (h2 : ¬ mv 0 1 = 60) : p_G b' (t_add x c) v V (m_app mv c) := by
  have hx := g_x G
  have hc : mc_app (mv 0 1) c = 0 := by
    unfold mc_app
    rw [if_pos h1, if_neg h2]
  have e : m_app mv c = va_up (va_up mv 0 (va_up (va_up (mv 0) 1 (mv 0 1 + 1)) 2 0)) 3 (va_up (mv 3) (mv 0 1) c) := by
    unfold m_app
    rw [if_pos hc]
  rw [e]
  obtain ⟨g1, g2, g3, g4, g5⟩ := G
  exact ⟨g1, s_I_up g2 hb, m_I_up g3 hb, p_T_add g4 (by omega) (by omega), p_S_up g5 hb rfl rfl⟩
theorem g_appf {b b' c : Nat} {x v : Nat → Nat → Nat} {V : Nat → Nat → Nat → Nat} {mv : Nat → Nat → Nat} (G : p_G b x v V mv) (hb : b ≤ b') (h : ¬ mc_app (mv 0 1) c = 0) : p_G b' x v V (m_app mv c) := by
  unfold m_app
  rw [if_neg h]
  exact g_thr G hb _
theorem g_clear {b b' : Nat} {x v : Nat → Nat → Nat} {V : Nat → Nat → Nat → Nat} {mv : Nat → Nat → Nat} (G : p_G b x v V mv) (hb : b ≤ b') : p_G b' (t_empty x) v V (va_up mv 0 (va_up (va_up (mv 0) 1 0) 2 0)) := by
  obtain ⟨g1, g2, g3, g4, g5⟩ := G
  exact ⟨g1, s_I_up g2 hb, m_I_up g3 hb, p_T_empty g4, p_S_up g5 hb rfl rfl⟩
theorem g_err {b b' : Nat} {x v : Nat → Nat → Nat} {V : Nat → Nat → Nat → Nat} {mv : Nat → Nat → Nat} {TX : Nat × Nat × Nat × (Nat → Nat) × Nat} (G : p_G b x v V mv) (hb : b ≤ b') (h : m_tx (mv 3) (mv 0 1) 61 0 0 (mv 4) = TX) : x 0 1 = (if TX.2.2.2.2 = 0 ∧ TX.2.1 = 1 then TX.1 else mv 0 1) ∧ p_G b' x v V (va_up (va_up mv 0 (va_up (va_up (va_up (va_up (mv 0) 2 0) 3 TX.1) 4 TX.2.1) 5 TX.2.2.1)) 4 TX.2.2.2.1) := by
  have ht := G.2.2.2.1
  refine ⟨?_, g_same G hb rfl rfl rfl rfl rfl rfl rfl⟩
  rw [(t_fin ht.2.2.2 ht.1.2.1 h).2]
  exact ht.1.2.2.1
theorem g_playf {b b' : Nat} {x v : Nat → Nat → Nat} {V : Nat → Nat → Nat → Nat} {mv : Nat → Nat → Nat} {TX : Nat × Nat × Nat × (Nat → Nat) × Nat} (G : p_G b x v V mv) (hb : b ≤ b') (h : ¬ TX.2.2.2.2 = 1) : p_G b' x v V (m_played mv TX) := by
  unfold m_played
  rw [if_neg h]
  exact g_same G hb rfl rfl rfl rfl rfl rfl rfl
theorem g_playc {b : Nat} {x v : Nat → Nat → Nat} {V : Nat → Nat → Nat → Nat} {mv : Nat → Nat → Nat} {TX : Nat × Nat × Nat × (Nat → Nat) × Nat} (G : p_G b x v V mv) (h : m_tx (mv 3) (mv 0 1) 61 0 0 (mv 4) = TX) : (TX.2.2.2.2 = 1 ↔ 0 < x 0 0 ∧ x 0 2 = 0) ∧ TX.2.2.2.2 ≤ 1 := by
  obtain ⟨⟨h1, h2, h3, h4⟩, h5, h6, h7⟩ := G.2.2.2.1
  have hf := (t_fin h7 h2 h).1
  rw [h1, h4]
  exact hf
theorem g_play {b : Nat} {x v : Nat → Nat → Nat} {V : Nat → Nat → Nat → Nat} {mv : Nat → Nat → Nat} {TX : Nat × Nat × Nat × (Nat → Nat) × Nat} (G : p_G b x v V mv) (hb : b < 2 ^ 27) (h : m_tx (mv 3) (mv 0 1) 61 0 0 (mv 4) = TX) (hc : TX.2.2.2.2 = 1) : (∀ i, i < (c_sv (x 0)) 0 → 97 ≤ t_code (va_up x 0 (c_sv (x 0))) i → c_sh (t_code (va_up x 0 (c_sv (x 0))) i) (t_dig (va_up x 0 (c_sv (x 0))) (i + 1))) ∧ (c_runs (va_up x 0 (c_sv (x 0))) v).2 = (m_run TX.2.2.2.1 TX.2.2.1 31 0 (mv 1)).2 ∧ p_G (b + 60) (t_empty (va_up x 0 (c_sv (x 0)))) (c_runs (va_up x 0 (c_sv (x 0))) v).1 (c_put V ((x 0 3 + x 0 4) % 6) v) (m_played mv TX) := by
  have hpc := (g_playc G h).1.mp hc
  have hI0 := G.2.2.1
  obtain ⟨g1, g2, g3, g4, g5⟩ := G
  have hT : p_T (va_up x 0 (c_sv (x 0))) (mv 3) (mv 0 1) := p_T_of g4 (fun k hk => c_sv_lo hk) rfl
  obtain ⟨⟨h1, h2, h3, h4⟩, h5, h6, h7⟩ := id hT
  have hx0 : x 0 0 = mv 0 1 := g4.1.1
  have hst : (t_st (mv 3) (mv 0 1)).2 = 0 := by rw [← g4.1.2.2.2]; exact hpc.2
  have hgd := t_gd h7 hst
  have hcode := p_T_code hT
  rw [h1] at hcode
  have hcd : ∀ i, i < mv 0 1 → t_code (va_up x 0 (c_sv (x 0))) i = mv 3 i := fun i hi => hcode i (by omega)
  refine ⟨fun i hi hc9 => ?_, ?_⟩
  · have hi : i < mv 0 1 := by
      have e : (c_sv (x 0)) 0 = x 0 0 := c_sv_lo (by omega)
      omega
    rw [hcd i hi] at hc9 ⊢
    obtain ⟨q1, q2, q3, q4⟩ := hgd i hi hc9
    have e : t_dig (va_up x 0 (c_sv (x 0))) (i + 1) = mv 3 (i + 1) - 48 := by
      have := m_ng_or (mv 3 (i + 1)) 48
      unfold t_dig
      rw [hcd (i + 1) q1, if_pos (by omega)]
      omega
    rw [e]
    exact q4
  · have hgood := m_tx_good (tx := mv 3) (len := mv 0 1) 61 0 0 (mv 4) (by omega) (by omega) (fun k hk => absurd hk (Nat.not_lt_zero k)) (by rw [h]; exact hc)
    have hD := t_Dof (tx := mv 3) (len := mv 0 1) 61 0 0 (mv 4) (Nat.zero_le _) (by rw [h]; exact hc)
    rw [h] at hgood hD
    obtain ⟨v', w', n', e1, e2, e3, e4, e5⟩ := p_run (x := va_up x 0 (c_sv (x 0))) h1 h5 hgood.2 61 0 0 v (mv 1) b 61 31 hD g1 g3 g2 (by omega) (by omega) (by omega)
    have e1 : c_runs (va_up x 0 (c_sv (x 0))) v = (v', n') := e1
    rw [e1, e2]
    refine ⟨rfl, ?_⟩
    have hp : m_played mv TX = va_up (va_up (va_up (va_up mv 0 (va_up (va_up (va_up (va_up (va_up (va_up (mv 0) 0 (m_svs (mv 0 0))) 1 0) 2 0) 3 TX.1) 4 TX.2.1) 5 TX.2.2.1)) 1 w') 2 (m_svp (mv 0 0) (mv 1) (mv 2))) 4 TX.2.2.2.1 := by
      unfold m_played
      rw [if_pos hc, e2]
    rw [hp]
    have hs := p_S_up (b' := b + 60) (x' := t_empty (va_up x 0 (c_sv (x 0)))) (p_S_save g5 g1 g3 g2) (by omega) rfl rfl
    exact ⟨e3, s_I_up e5 (by omega), m_I_up e4 (by omega), p_T_empty hT, hs⟩
theorem g_undo {b b' : Nat} {x v : Nat → Nat → Nat} {V : Nat → Nat → Nat → Nat} {mv : Nat → Nat → Nat} (G : p_G b x v V mv) (hb : b ≤ b') (h0 : ¬ mv 0 0 = 0) : p_G b' (va_up x 0 (va_up (x 0) 4 (x 0 4 - 1))) (V ((x 0 3 + (x 0 4 - 1)) % 6)) V (m_undo mv) := by
  obtain ⟨g1, g2, g3, g4, ⟨s1, s2, s3⟩, s4, s5, s6⟩ := G
  have e : m_undo mv = va_up (va_up mv 0 (va_up (va_up (mv 0) 0 (mv 0 0 - 1)) 2 0)) 1 (m_get (mv 1) (mv 2) (mv 0 0 - 1) 163) := by
    unfold m_undo
    rw [if_neg h0]
  rw [e]
  have hq := s6 (mv 0 0 - 1) (by omega)
  rw [← s2] at hq
  have ew : ∀ k, k < 163 → m_get (mv 1) (mv 2) (mv 0 0 - 1) 163 k = (fun k => mv 2 (163 * (x 0 4 - 1) + k)) k := fun k hk => by
    unfold m_get
    rw [if_pos hk, s2]
  have hlt : ∀ k, m_get (mv 1) (mv 2) (mv 0 0 - 1) 163 k < 2 ^ 32 := fun k => by
    unfold m_get
    split
    · exact s4 _
    · exact g3.1.2.1 _
  refine ⟨p_R_ext hq.1 (m_I_2 hq.2) ew, s_I_up (s5 _ (Nat.mod_lt _ (by omega))) hb, m_I_up (p_I_ext hq.2 ew hlt) hb, p_T_of g4 (fun k hk => n_up_ne (by omega)) rfl, ?_⟩
  refine ⟨⟨?_, ?_, ?_⟩, s4, fun j hj => s_I_up (s5 j hj) hb, fun j hj => ?_⟩
  · show x 0 3 < 6
    exact s1
  · show x 0 4 - 1 = mv 0 0 - 1
    omega
  · show mv 0 0 - 1 ≤ 6
    omega
  · have hj : j < mv 0 0 - 1 := hj
    have := s6 j (by omega)
    exact ⟨this.1, m_I_up this.2 hb⟩
theorem g_undof {b b' : Nat} {x v : Nat → Nat → Nat} {V : Nat → Nat → Nat → Nat} {mv : Nat → Nat → Nat} (G : p_G b x v V mv) (hb : b ≤ b') (h0 : mv 0 0 = 0) : p_G b' x v V (m_undo mv) := by
  unfold m_undo
  rw [if_pos h0]
  exact g_thr G hb 1
