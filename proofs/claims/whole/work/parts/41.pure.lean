/-! WHAT IS TOLD, the same on both sides -/
theorem p_clk {b c k : Nat} {v : Nat → Nat → Nat} {w : Nat → Nat} (hR : p_R v w) (hI : m_I b w) (hc : c < 3) (hk : k < 3) : c_clk v c k = m_ofc w c k := by
  have hm := p_mode hR hI hc
  have hl := m_mode_le w c
  rcases o_lt3 hk with rfl | rfl | rfl
  · show b_doing (v 3) c = m_mode w c
    unfold b_doing
    (repeat' split) <;> omega
  · show b_ahead (v 3) c = if m_mode w c = 2 then (if w 5 = c then 0 else 1) else 4294967295
    unfold b_ahead
    (repeat' split) <;> omega
  · exact hR.2.2.1 c hc
theorem p_rd1 {b r : Nat} {v : Nat → Nat → Nat} {w : Nat → Nat} (hR : p_R v w) (hI : m_I b w) (hr : r < 4) : v (5 + 3 * r) 1 = m_rd1 w r := by
  have hd := p_rd hR hI hr
  have ho := p_ofr (w := w) (r := r)
  unfold m_rd1
  split <;> omega
theorem p_all {b : Nat} {v : Nat → Nat → Nat} {w : Nat → Nat} (hR : p_R v w) (hI : m_I b w) : s_sum v 1 = m_all w 0 ∧ s_sum v 6 = m_all w 4 ∧ s_sum v 7 = m_all w 5 := by
  have d0 := p_rd hR hI (r := 0) (by omega)
  have d1 := p_rd hR hI (r := 1) (by omega)
  have d2 := p_rd hR hI (r := 2) (by omega)
  have d3 := p_rd hR hI (r := 3) (by omega)
  simp only [Nat.reduceMul, Nat.reduceAdd] at d0 d1 d2 d3
  have e0 : v 5 1 = m_rd1 w 0 := p_rd1 hR hI (r := 0) (by omega)
  have e1 : v 8 1 = m_rd1 w 1 := p_rd1 hR hI (r := 1) (by omega)
  have e2 : v 11 1 = m_rd1 w 2 := p_rd1 hR hI (r := 2) (by omega)
  have e3 : v 14 1 = m_rd1 w 3 := p_rd1 hR hI (r := 3) (by omega)
  refine ⟨?_, ?_, ?_⟩
  · show v 5 1 + v 8 1 + v 11 1 + v 14 1 = m_rd1 w 0 + m_rd1 w 1 + m_rd1 w 2 + m_rd1 w 3
    rw [e0, e1, e2, e3]
  · show v 5 6 + v 8 6 + v 11 6 + v 14 6 = w 19 + w 36 + w 53 + w 70
    omega
  · show v 5 7 + v 8 7 + v 11 7 + v 14 7 = w 20 + w 37 + w 54 + w 71
    omega
theorem p_cnt {b sc k : Nat} {v : Nat → Nat → Nat} {w : Nat → Nat} (hR : p_R v w) (hI : m_I b w) (hk : k < 9) : c_cnt v sc k = m_cnt w sc k := by
  have ha := p_all hR hI
  have hi := p_inl hR hI
  have hw := p_who hR hI
  obtain ⟨⟨a0, a1, a2⟩, _⟩ := hR
  obtain ⟨_, ⟨i6, i7, _⟩, _⟩ := hI
  rcases (show k = 0 ∨ k = 1 ∨ k = 2 ∨ k = 3 ∨ k = 4 ∨ k = 5 ∨ k = 6 ∨ k = 7 ∨ k = 8 by omega) with rfl | rfl | rfl | rfl | rfl | rfl | rfl | rfl | rfl
  · exact a0
  · exact hw
  · show b_inl (v 3) - 1 = w 4
    rw [hi]
    split <;> omega
  · exact ha.1
  · exact ha.2.1
  · exact ha.2.2
  · exact a1
  · exact a2
  · rfl
theorem p_doing {b r : Nat} {v : Nat → Nat → Nat} {w : Nat → Nat} (hR : p_R v w) (hI : m_I b w) (hr : r < 4) : r_doing (fun j => v (j + (5 + 3 * r))) (v 0 2) = m_ofr w r := by
  have hd := p_rd hR hI hr
  have ho := p_ofr (w := w) (r := r)
  unfold r_doing
  simp only [Nat.zero_add]
  (repeat' split) <;> omega
theorem p_rdr {b r k : Nat} {v : Nat → Nat → Nat} {w : Nat → Nat} (hR : p_R v w) (hI : m_I b w) (hr : r < 4) (hk : k < 8) : c_rdr v r k = m_ofrd w r k := by
  have hd := p_rd hR hI hr
  have hg := p_doing hR hI hr
  obtain ⟨⟨a0, a1, a2⟩, a3, a4, a5, a6, a7⟩ := hR
  obtain ⟨⟨i1, i2, i3, i4, i5⟩, _, i11⟩ := hI
  rcases (show k = 0 ∨ k = 1 ∨ k = 2 ∨ k = 3 ∨ k = 4 ∨ k = 5 ∨ k = 6 ∨ k = 7 by omega) with rfl | rfl | rfl | rfl | rfl | rfl | rfl | rfl
  · exact hg
  · show (if v (5 + 3 * r) 1 = 0 then 4294967295 else v (5 + 3 * r) 3) = w (15 + 17 * r + 1)
    split <;> omega
  · show (if v (5 + 3 * r) 1 = 0 then 4294967295 else v (5 + 3 * r) 4) = if w (15 + 17 * r + 1) = 4294967295 then 4294967295 else w (15 + 17 * r + 2)
    (repeat' split) <;> omega
  · show v (5 + 3 * r) 5 = w (15 + 17 * r + 3)
    omega
  · show v (5 + 3 * r) 6 = w (15 + 17 * r + 4)
    omega
  · show v (5 + 3 * r) 7 = w (15 + 17 * r + 5)
    omega
  · show (if v (5 + 3 * r) 2 = 0 then 4294967295 else b_ls (v 4) (v (6 + 3 * r)) (v 0 0 / 2) 16 0) = if w (15 + 17 * r + 6) = 1 then m_fd w (15 + 17 * r + 12) (w 0 / 2) 16 else 4294967295
    by_cases q : w (15 + 17 * r + 6) = 1
    · rw [if_neg (by omega), if_pos q, a0]
      exact p_ls (kp := v 4) (u := v (6 + 3 * r)) (fr := 15 + 17 * r + 12) (m := w 0 / 2) a6 (fun f hf => (a7 r hr).2.2 q f hf) (fun k _ => i2 k) 16 (by omega)
    · rw [if_pos (by omega), if_neg q]
  · show (if v (5 + 3 * r) 0 = 0 then 0 else 1) = w (15 + 17 * r)
    split <;> omega
theorem p_has {b r f : Nat} {v : Nat → Nat → Nat} {w : Nat → Nat} (hR : p_R v w) (hI : m_I b w) (hr : r < 4) (hf : f < 5) : c_has v r f = m_had w r f := by
  have hd := p_rd hR hI hr
  unfold c_has m_had
  by_cases q : w (15 + 17 * r + 6) = 1
  · rw [if_neg (by omega), if_pos q]
    exact (hR.2.2.2.2.2 r hr).2.2 q f hf
  · rw [if_pos (by omega), if_neg q]
theorem p_out {b r : Nat} {v : Nat → Nat → Nat} {w : Nat → Nat} (hR : p_R v w) (hI : m_I b w) (hr : r < 4) : s_out v r = m_tries w r := by
  have hd := p_rd hR hI hr
  have ho := p_ofr (w := w) (r := r)
  unfold s_out m_tries
  (repeat' split) <;> omega
theorem p_kv {b n f : Nat} {v : Nat → Nat → Nat} {w : Nat → Nat} (hR : p_R v w) (_ : m_I b w) (hf : f < 5) : b_kv v n f = if n ≤ w 0 / 2 ∧ w 0 / 2 - n < 16 then w (83 + 5 * (n % 16) + f) else 4294967295 := by
  obtain ⟨⟨a0, a1, a2⟩, a3, a4, a5, a6, a7⟩ := hR
  unfold b_kv
  rw [a0]
  by_cases q : n ≤ w 0 / 2 ∧ w 0 / 2 - n < 16
  · rw [if_neg (by omega), if_neg (by omega), if_pos q, a6 _ (by omega)]
    congr 1
    omega
  · rw [if_neg q]
    (repeat' split) <;> omega
theorem p_half {b r : Nat} {v : Nat → Nat → Nat} {w : Nat → Nat} (hR : p_R v w) (hI : m_I b w) (hb : b < 2 ^ 28) (hr : r < 4) : c_half v r = m_half w r := by
  have hd := p_rd hR hI hr
  have ho := p_ofr (w := w) (r := r)
  have hout := p_out hR hI hr
  obtain ⟨⟨a0, a1, a2⟩, a3, a4, a5, a6, a7⟩ := id hR
  obtain ⟨⟨i1, i2, i3, i4, i5⟩, _, i11⟩ := id hI
  have hy : ∀ f, f < 5 → r_would (fun j => v (j + (5 + 3 * r))) v f = m_its w r (m_tk w r) f := by
    intro f hf
    unfold r_would m_its m_tk
    simp only [Nat.zero_add]
    rw [show 2 + (5 + 3 * r) = 7 + 3 * r by omega]
    by_cases q : w (15 + 17 * r + 1) = 4294967295
    · rw [if_neg (by omega), if_neg (show ¬ m_ofr w r = 1 by omega), if_neg (Nat.not_lt_zero _)]
      exact a3 f hf
    · rw [if_pos (show m_ofr w r = 1 by omega)]
      by_cases q2 : f < w (15 + 17 * r + 2)
      · rw [if_pos (by omega), if_pos q2, ((a7 r hr).2.1 q).2.2 f q2]
        congr 1
        omega
      · rw [if_neg (by omega), if_neg q2]
        exact a3 f hf
  have hsm : ∀ n, b_sm (v 4) (r_would (fun j => v (j + (5 + 3 * r))) v) (n % 16 * 5) = m_hs w r (m_tk w r) n := by
    intro n
    have e := p_e (n := n) a6 hy (fun k _ => i2 k) (fun f _ => m_its_lt i2 r (m_tk w r) f)
    unfold b_sm m_hs
    exact o_ite (e 0 (by omega)) (o_ite (e 1 (by omega)) (o_ite (e 2 (by omega)) (o_ite (e 3 (by omega)) (o_ite (e 4 (by omega)) rfl rfl) rfl) rfl) rfl) rfl
  have hm31 : w 0 / 2 < 2 ^ 31 := by omega
  have h1 := b_ls_none (kp := v 4) (u := r_would (fun j => v (j + (5 + 3 * r))) v) hm31 16 0
  have h2 := m_wh_one (w := w) (r := r) (tk := m_tk w r) hm31 16 (by omega)
  unfold c_half m_half
  rw [hout, a0]
  by_cases q : m_tries w r = 1
  · rw [if_pos q, if_pos q]
    by_cases q2 : m_wh w r (m_tk w r) (w 0 / 2) 16 = 1
    · rw [if_pos q2, if_neg]
      intro z
      obtain ⟨j, j1, j2, j3⟩ := h2.mp q2
      exact h1.mp z j (by omega) (by omega) j2 ((hsm _).trans j3)
    · rw [if_neg q2, if_pos]
      refine h1.mpr fun j j1 j2 j3 j4 => q2 (h2.mpr ⟨j, by omega, j3, (hsm _).symm.trans j4⟩)
  · rw [if_neg q, if_neg q]
theorem p_share {b : Nat} {v : Nat → Nat → Nat} {w : Nat → Nat} (hR : p_R v w) (hI : m_I b w) : c_share v = m_share w := by
  have ha := p_all hR hI
  unfold c_share m_share
  rw [ha.2.1, ha.2.2]
/-! the digest -/
theorem o_fold_congr {g g' : Nat → Nat} {h : Int64} : ∀ {n : Nat}, (∀ k, k < n → g k = g' k) → o_fold g h n = o_fold g' h n
  | 0, _ => rfl
  | n + 1, e => by
    rw [o_fold, o_fold, o_fold_congr (fun k hk => e k (by omega)), e n (by omega)]
theorem o_folh_congr {g g' : Nat → Int64 → Int64} {h : Int64} : ∀ {n : Nat}, (∀ k, k < n → ∀ h, g k h = g' k h) → o_folh g h n = o_folh g' h n
  | 0, _ => rfl
  | n + 1, e => by
    rw [o_folh, o_folh, o_folh_congr (fun k hk => e k (by omega)), e n (by omega)]
theorem p_h2 {b : Nat} {v : Nat → Nat → Nat} {w : Nat → Nat} (hR : p_R v w) (hI : m_I b w) (h : Int64) : c_h2 v h = o_fold (m_g3 w) h 9 := by
  have e : ∀ c, c < 3 → ∀ h, o_fold (c_clk v c) h 3 = o_fold (fun k => m_ofc w c k) h 3 := fun c hc h => o_fold_congr (fun k hk => p_clk hR hI hc hk)
  show o_fold (c_clk v 2) (o_fold (c_clk v 1) (o_fold (c_clk v 0) h 3) 3) 3 = _
  rw [e 2 (by omega), e 1 (by omega), e 0 (by omega)]
  rfl
theorem p_h3 {b r : Nat} {v : Nat → Nat → Nat} {w : Nat → Nat} (hR : p_R v w) (hI : m_I b w) (hb : b < 2 ^ 28) (hr : r < 4) (h : Int64) : c_h3 v r h = m_hr w r h := by
  unfold c_h3 m_hr
  rw [p_out hR hI hr, p_half hR hI hb hr, o_fold_congr (g := c_has v r) (g' := m_g5 w r) (fun k hk => p_has hR hI hr hk), o_fold_congr (g := c_rdr v r) (g' := m_g4 w r) (fun k hk => p_rdr hR hI hr hk)]
theorem p_h4 {b : Nat} {v : Nat → Nat → Nat} {w : Nat → Nat} (hR : p_R v w) (hI : m_I b w) (hb : b < 2 ^ 28) (h : Int64) : c_h4 v h = o_folh (m_hk w) h 16 := by
  have a0 := hR.1.1
  have i1 := hI.1.1
  have h0 : ∀ j, j ≤ 15 - w 0 / 2 → o_folh (m_hk w) h j = h := by
    intro j
    induction j with
    | zero => intro _; rfl
    | succ j ih =>
      intro hj
      have hdn := m_dn_or j
      have hng := m_ng_or (w 0 / 2) (m_dn j)
      rw [o_folh, ih (by omega)]
      unfold m_hk
      rw [if_neg (by omega)]
  have h1 : ∀ i, i ≤ 16 - (15 - w 0 / 2) → o_folh (m_hk w) h (15 - w 0 / 2 + i) = o_folh (fun i h => o_fold (b_kv v (w 0 / 2 - 15 + i)) h 5) h i := by
    intro i
    induction i with
    | zero => intro _; exact h0 _ (by omega)
    | succ i ih =>
      intro hi
      have hdn := m_dn_or (15 - w 0 / 2 + i)
      have hng := m_ng_or (w 0 / 2) (m_dn (15 - w 0 / 2 + i))
      have e : m_ng (w 0 / 2) (m_dn (15 - w 0 / 2 + i)) = w 0 / 2 - 15 + i := by omega
      rw [← Nat.add_assoc, o_folh, o_folh, ih (by omega)]
      unfold m_hk
      rw [e, if_pos (by omega)]
      exact o_fold_congr fun f hf => by rw [p_kv hR hI hf, if_pos (by omega)]
  unfold c_h4
  rw [a0, show w 0 / 2 + 1 - (w 0 / 2 - 15) = 16 - (15 - w 0 / 2) by omega, ← h1 _ (Nat.le_refl _)]
  congr 1
  omega
noncomputable def c_dig (x v : Nat → Nat → Nat) : Int64 := c_h5 x (31 * (31 * c_h4 v (o_folh (c_h3 v) (c_h2 v (c_h1 v (x 0 4) 3359)) 4) + (nI (b_inl (v 3))).toInt64) + (c_share v).toInt64)
theorem p_dig {b : Nat} {x v mv : Nat → Nat → Nat} (hR : p_R v (mv 1)) (hI : m_I b (mv 1)) (hb : b < 2 ^ 28) (h4 : x 0 4 = mv 0 0) (h0 : x 0 0 = mv 0 1) (ht : ∀ k, k < x 0 0 → t_code x k = mv 3 k) : c_dig x v = m_dig mv := by
  unfold c_dig m_dig c_h5
  rw [p_h4 hR hI hb, p_share hR hI, p_inl hR hI, o_folh_congr (g := c_h3 v) (g' := m_hr (mv 1)) (fun r hr h => p_h3 hR hI hb hr h), p_h2 hR hI]
  unfold c_h1
  rw [o_fold_congr (g := v 1) (g' := m_g2 (mv 1)) (fun k hk => hR.2.1 k hk), o_fold_congr (g := c_cnt v (x 0 4)) (g' := m_g1 (mv 1) (mv 0 0)) (fun k hk => by rw [h4]; exact p_cnt hR hI hk), o_fold_congr (g := t_code x) (g' := mv 3) ht, h0]
