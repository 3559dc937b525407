/-! DEEDS OF A TEXT on both sides -/
theorem p_mb {b r : Nat} {v : Nat → Nat → Nat} {w : Nat → Nat} (hR : p_R v w) (hI : m_I b w) (hr : r < 4) : (s_mb v r ↔ m_ofr w r = 0) ∧ (¬ v (5 + 3 * r) 1 = 0 ↔ m_ofr w r = 1) := by
  have hd := p_rd hR hI hr
  have ho := p_ofr (w := w) (r := r)
  unfold s_mb s_gu
  omega
theorem p_odd {b : Nat} {v : Nat → Nat → Nat} {w : Nat → Nat} (hR : p_R v w) (hI : m_I b w) : v 0 0 % 2 = 1 ↔ ¬ w 3 = 4294967295 := by
  have a0 := hR.1.1
  obtain ⟨_, ⟨i6, i7, _⟩, _⟩ := hI
  omega
theorem p_ok {b so a : Nat} {v : Nat → Nat → Nat} {w : Nat → Nat} (hR : p_R v w) (hI : m_I b w) (hs : c_sh so a) : s_ok v so a ↔ m_may w so a := by
  have ho := p_odd hR hI
  unfold c_sh at hs
  unfold s_ok m_may
  rcases hs with ⟨q, q2⟩ | ⟨q, q2⟩ | ⟨q, q2⟩ | ⟨q, q2⟩ | ⟨q, q2⟩
  · have h := p_mode hR hI q2
    omega
  · have h := p_mode hR hI q2
    omega
  · omega
  · have h := (p_mb hR hI (r := a) (by omega)).1
    subst q
    simp only [Nat.reduceEqDiff, false_and, true_and, false_or, or_false]
    exact h
  · have h := (p_mb hR hI (r := a) (by omega)).2
    omega
theorem p_do {b so a y z : Nat} {v : Nat → Nat → Nat} {w : Nat → Nat} (hR : p_R v w) (hI : m_I b w) (hb : b < 2 ^ 28) (hs : c_sh so a) (hm : m_may w so a) (hy : so = 119 → y = z) : p_R (c_do v so a y) (m_does w so a z) := by
  unfold c_sh at hs
  unfold m_may at hm
  unfold c_do m_does
  by_cases q1 : so = 99
  · rw [if_pos q1, if_pos q1]
    exact p_come hR hI (by omega) (by omega)
  · rw [if_neg q1, if_neg q1]
    by_cases q2 : so = 100
    · rw [if_pos q2, if_pos q2]
      exact p_done hR hI (by omega) (by omega)
    · rw [if_neg q2, if_neg q2]
      by_cases q3 : so = 119
      · rw [if_pos q3, if_pos q3, hy q3]
        exact p_chalk hR hI (by omega)
      · rw [if_neg q3, if_neg q3]
        by_cases q4 : so = 98
        · rw [if_pos q4, if_pos q4]
          exact (p_begin hR hI hb (by omega) (by omega)).1
        · rw [if_neg q4, if_neg q4]
          exact (p_look hR hI (by omega) (by omega)).1
theorem p_sh {so a td0 td1 td2 : Nat} (h : ((td0 = 99 ∨ td0 = 100) ∧ td1 < 3) ∨ (td0 = 119 ∧ td1 < 5 ∧ td2 < 100) ∨ ((td0 = 98 ∨ td0 = 108) ∧ td1 < 4)) (h0 : td0 = so) (h1 : td1 = a) : c_sh so a := by
  subst h0
  subst h1
  unfold c_sh
  omega
theorem p_run {tx td : Nat → Nat} {x : Nat → Nat → Nat} {len N : Nat} (hx0 : x 0 0 = len) (hc : ∀ k, k < len → x 1 k = tx k) (hg : ∀ k, k < N → m_good td k) :
    ∀ (f ix n : Nat) (v : Nat → Nat → Nat) (w : Nat → Nat) (b F G : Nat), t_D tx td len N f ix n → p_R v w → m_I b w → s_I b v → b + (N - n) < 2 ^ 28 → len < ix + F → N < n + G →
    ∃ (v' : Nat → Nat → Nat) (w' : Nat → Nat) (n' : Nat), c_run x F ix n v = (v', n') ∧ m_run td N G n w = (w', n') ∧ p_R v' w' ∧ m_I (b + (N - n)) w' ∧ s_I (b + (N - n)) v'
  | 0, _, _, _, _, _, _, _, h, _, _, _, _, _, _ => h.elim
  | f + 1, ix, n, v, w, b, F, G, h, hR, hI, hS, hb, hF, hG => by
    obtain ⟨G, rfl⟩ : ∃ g, G = g + 1 := by
      rw [t_D] at h
      exact ⟨G - 1, by omega⟩
    obtain ⟨F, rfl⟩ : ∃ g, F = g + 1 := by
      rw [t_D] at h
      exact ⟨F - 1, by omega⟩
    rw [t_D] at h
    rcases h with ⟨h1, h2⟩ | ⟨⟨h1, h2, h3, h4, h5, h6, h7⟩, h8⟩
    · exact ⟨v, w, n, c_run_end (by omega), m_run_no (by omega), hR, m_I_up hI (by omega), s_I_up hS (by omega)⟩
    · have hlt : ix + 1 < len := by omega
      have hcode : t_code x ix = tx ix := by
        unfold t_code
        rw [if_pos (by omega), hc _ h2]
      have hdig : ∀ k, k < len → 48 ≤ tx k → tx k ≤ 57 → t_dig x k = tx k - 48 ∧ ¬ 97 ≤ t_code x k := by
        intro k k1 k2 k3
        have e : t_code x k = tx k := by
          unfold t_code
          rw [if_pos (by omega), hc _ k1]
        have := m_ng_or (tx k) 48
        unfold t_dig
        rw [e]
        refine ⟨?_, by omega⟩
        rw [if_pos (by omega)]
        omega
      have hd1 := hdig (ix + 1) hlt h4 h5
      have hgd := hg n h1
      unfold m_good at hgd
      have hsh : c_sh (tx ix) (t_dig x (ix + 1)) := p_sh hgd h6 (by rw [hd1.1]; exact h7)
      have hok := p_ok hR hI hsh
      by_cases q : s_ok v (tx ix) (t_dig x (ix + 1))
      · have hm := hok.mp q
        have hm2 : m_may w (td (3 * n)) (td (3 * n + 1)) := by
          rw [h6, h7, ← hd1.1]
          exact hm
        rw [c_run_yes (by omega) (by rw [hcode]; exact h3) (by rw [hcode]; exact q), m_run_yes h1 hm2, hcode]
        have hI' := m_does_I hI (by omega) (hg n h1) hm2
        have hS' : ∀ y, s_I (b + 1) (c_do v (tx ix) (t_dig x (ix + 1)) y) := fun y => s_do_I hS hsh
        rcases h8 with ⟨a1, a2, a3⟩ | ⟨a1, a2, a3, a4, a5⟩
        · have hR' : ∀ y, p_R (c_do v (tx ix) (t_dig x (ix + 1)) y) (m_does w (td (3 * n)) (td (3 * n + 1)) (td (3 * n + 2))) := fun y => by
            rw [h6, h7, ← hd1.1]
            exact p_do hR hI (by omega) hsh hm (fun z => absurd z a1)
          obtain ⟨F, rfl⟩ : ∃ g, F = g + 1 := ⟨F - 1, by omega⟩
          rw [c_run_on (by omega) hd1.2]
          obtain ⟨v', w', n', e1, e2, e3, e4, e5⟩ := p_run hx0 hc hg f (ix + 2) (n + 1) _ _ (b + 1) F G a3 (hR' _) hI' (hS' _) (by omega) (by omega) (by omega)
          exact ⟨v', w', n', e1, e2, e3, m_I_up e4 (by omega), s_I_up e5 (by omega)⟩
        · have hd2 := hdig (ix + 2) (by omega) a3.1 a3.2.1
          have hd3 := hdig (ix + 3) (by omega) a3.2.2.1 a3.2.2.2
          have hR' : p_R (c_do v (tx ix) (t_dig x (ix + 1)) (10 * t_dig x (ix + 1 + 1) + t_dig x (ix + 1 + 1 + 1))) (m_does w (td (3 * n)) (td (3 * n + 1)) (td (3 * n + 2))) := by
            rw [h6, h7, ← hd1.1]
            refine p_do hR hI (by omega) hsh hm (fun _ => ?_)
            rw [a4, show ix + 1 + 1 = ix + 2 from rfl, show ix + 2 + 1 = ix + 3 from rfl, hd2.1, hd3.1]
            omega
          obtain ⟨F, rfl⟩ : ∃ g, F = g + 3 := ⟨F - 3, by omega⟩
          rw [c_run_on (by omega) hd1.2, c_run_on (by omega) hd2.2, c_run_on (by omega) hd3.2]
          obtain ⟨v', w', n', e1, e2, e3, e4, e5⟩ := p_run hx0 hc hg f (ix + 4) (n + 1) _ _ (b + 1) F G a5 hR' hI' (hS' _) (by omega) (by omega) (by omega)
          exact ⟨v', w', n', e1, e2, e3, m_I_up e4 (by omega), s_I_up e5 (by omega)⟩
      · rw [c_run_no (by omega) (by rw [hcode]; exact h3) (by rw [hcode]; exact q), m_run_no (fun z => q (hok.mpr (by have := z.2; rw [h6, h7, ← hd1.1] at this; exact this)))]
        exact ⟨v, w, n, rfl, rfl, hR, m_I_up hI (by omega), s_I_up hS (by omega)⟩
/-! the text as it is kept on both sides -/
def p_T (x : Nat → Nat → Nat) (tx : Nat → Nat) (len : Nat) : Prop := (x 0 0 = len ∧ len ≤ 60 ∧ x 0 1 = (t_st tx len).1 ∧ x 0 2 = (t_st tx len).2) ∧ (∀ k, k < len → x 1 k = tx k) ∧ (∀ k, x 1 k < 2 ^ 31) ∧ (∀ k, tx k < 2 ^ 31)
theorem p_T_of {x x' : Nat → Nat → Nat} {tx : Nat → Nat} {len : Nat} (h : p_T x tx len) (e0 : ∀ k, k < 3 → x' 0 k = x 0 k) (e1 : x' 1 = x 1) : p_T x' tx len := by
  obtain ⟨⟨h1, h2, h3, h4⟩, h5, h6, h7⟩ := h
  exact ⟨⟨by rw [e0 0 (by omega)]; exact h1, h2, by rw [e0 1 (by omega)]; exact h3, by rw [e0 2 (by omega)]; exact h4⟩, by rw [e1]; exact h5, by rw [e1]; exact h6, h7⟩
theorem t_add_at {x : Nat → Nat → Nat} {c : Nat} : t_add x c 0 0 = x 0 0 + 1 ∧ t_add x c 0 1 = (if t_beh (x 0 2) c = 6 then x 0 1 else x 0 1 + 1) ∧ t_add x c 0 2 = t_beh (x 0 2) c ∧ t_add x c 1 = va_up (x 1) (x 0 0) c ∧ t_add x c 0 3 = x 0 3 ∧ t_add x c 0 4 = x 0 4 := ⟨rfl, rfl, rfl, rfl, rfl, rfl⟩
theorem t_empty_at {x : Nat → Nat → Nat} : t_empty x 0 0 = 0 ∧ t_empty x 0 1 = 0 ∧ t_empty x 0 2 = 0 ∧ t_empty x 1 = x 1 ∧ t_empty x 0 3 = x 0 3 ∧ t_empty x 0 4 = x 0 4 := ⟨rfl, rfl, rfl, rfl, rfl, rfl⟩
theorem p_T_add {x : Nat → Nat → Nat} {tx : Nat → Nat} {len c : Nat} (h : p_T x tx len) (hl : len < 60) (hc : c < 2 ^ 31) : p_T (t_add x c) (va_up tx len c) (len + 1) := by
  obtain ⟨⟨h1, h2, h3, h4⟩, h5, h6, h7⟩ := h
  obtain ⟨a0, a1, a2, a3, _, _⟩ := t_add_at (x := x) (c := c)
  have e : t_st (va_up tx len c) len = t_st tx len := t_st_ext len (fun k hk => n_up_ne (by omega))
  have s : t_st (va_up tx len c) (len + 1) = (if t_beh (t_st tx len).2 c = 6 then (t_st tx len).1 else (t_st tx len).1 + 1, t_beh (t_st tx len).2 c) := by
    rw [t_st, e, n_up_at]
  refine ⟨⟨by rw [a0, h1], by omega, ?_, ?_⟩, fun k hk => ?_, ?_, ?_⟩
  · rw [a1, s, h3, h4]
  · rw [a2, s, h4]
  · rw [a3, h1]
    by_cases q : k = len
    · subst q
      rw [n_up_at, n_up_at]
    · rw [n_up_ne q, n_up_ne q]
      exact h5 k (by omega)
  · rw [a3]
    exact n_up_lt h6 hc
  · exact n_up_lt h7 hc
theorem p_T_empty {x : Nat → Nat → Nat} {tx : Nat → Nat} {len : Nat} (h : p_T x tx len) : p_T (t_empty x) tx 0 := by
  obtain ⟨_, h5, h6, h7⟩ := h
  obtain ⟨a0, a1, a2, a3, _, _⟩ := t_empty_at (x := x)
  exact ⟨⟨a0, by omega, a1, a2⟩, fun k hk => absurd hk (Nat.not_lt_zero k), by rw [a3]; exact h6, h7⟩
theorem p_T_code {x : Nat → Nat → Nat} {tx : Nat → Nat} {len : Nat} (h : p_T x tx len) : ∀ k, k < x 0 0 → t_code x k = tx k := by
  intro k hk
  unfold t_code
  rw [if_pos hk]
  exact h.2.1 k (by have := h.1.1; omega)
/-! the saved states -/
def p_S (b : Nat) (x : Nat → Nat → Nat) (V : Nat → Nat → Nat → Nat) (st : Nat) (pa : Nat → Nat) : Prop := (x 0 3 < 6 ∧ x 0 4 = st ∧ st ≤ 6) ∧ (∀ k, pa k < 2 ^ 32) ∧ (∀ j, j < 6 → s_I b (V j)) ∧ ∀ j, j < st → p_R (V ((x 0 3 + j) % 6)) (fun k => pa (163 * j + k)) ∧ m_I b (fun k => pa (163 * j + k))
theorem p_S_up {b b' st : Nat} {x x' : Nat → Nat → Nat} {V : Nat → Nat → Nat → Nat} {pa : Nat → Nat} (h : p_S b x V st pa) (hb : b ≤ b') (e3 : x' 0 3 = x 0 3) (e4 : x' 0 4 = x 0 4) : p_S b' x' V st pa := by
  obtain ⟨⟨h1, h2, h3⟩, h4, h5, h6⟩ := h
  refine ⟨⟨by omega, by omega, h3⟩, h4, fun j hj => s_I_up (h5 j hj) hb, fun j hj => ?_⟩
  rw [e3]
  exact ⟨(h6 j hj).1, m_I_up (h6 j hj).2 hb⟩
theorem m_I_2 {b : Nat} {w : Nat → Nat} (h : m_I b w) : ∀ r, r < 4 → w (15 + 17 * r + 2) ≤ 5 := fun r hr => (h.2.2 r hr).2.2.1
theorem c_sv_lo {x : Nat → Nat} {k : Nat} (hk : k < 3) : c_sv x k = x k := by
  unfold c_sv
  split
  · exact n_up_ne (by omega)
  · exact n_up_ne (by omega)
theorem p_S_save {b st : Nat} {x v : Nat → Nat → Nat} {V : Nat → Nat → Nat → Nat} {w pa : Nat → Nat} (h : p_S b x V st pa) (hR : p_R v w) (hI : m_I b w) (hS : s_I b v) : p_S b (va_up x 0 (c_sv (x 0))) (c_put V ((x 0 3 + x 0 4) % 6) v) (m_svs st) (m_svp st w pa) := by
  obtain ⟨⟨h1, h2, h3⟩, h4, h5, h6⟩ := h
  have hw := hI.1.2.1
  have hVI : ∀ j, j < 6 → s_I b (c_put V ((x 0 3 + x 0 4) % 6) v j) := by
    intro j hj
    unfold c_put
    split
    · exact hS
    · exact h5 j hj
  have e : va_up x 0 (c_sv (x 0)) 0 = c_sv (x 0) := n_up_at2
  by_cases q : st = 6
  · have x3 : c_sv (x 0) 3 = (x 0 3 + 1) % 6 := by
      unfold c_sv
      rw [if_neg (by omega), n_up_at]
    have x4 : c_sv (x 0) 4 = x 0 4 := by
      unfold c_sv
      rw [if_neg (by omega), n_up_ne (by omega)]
    have hs : m_svs st = 6 := by
      unfold m_svs
      rw [if_pos q]
      omega
    have hp : m_svp st w pa = m_put w (m_shift pa 815) 5 163 := by
      unfold m_svp
      rw [if_pos q, q]
    have hlt : ∀ k, m_put w (m_shift pa 815) 5 163 k < 2 ^ 32 := by
      intro k
      unfold m_put m_shift
      (repeat' split) <;> first | exact hw _ | exact h4 _
    rw [hs, hp]
    refine ⟨⟨by rw [e, x3]; omega, by rw [e, x4]; omega, by omega⟩, hlt, hVI, fun j hj => ?_⟩
    rw [e, x3]
    by_cases q2 : j = 5
    · subst q2
      have ev : c_put V ((x 0 3 + x 0 4) % 6) v (((x 0 3 + 1) % 6 + 5) % 6) = v := if_pos (by omega)
      have ew : ∀ k, k < 163 → (fun k => m_put w (m_shift pa 815) 5 163 (163 * 5 + k)) k = w k := fun k hk => by
        show m_put w (m_shift pa 815) 5 163 (163 * 5 + k) = _
        unfold m_put
        rw [if_pos (by omega)]
        exact congrArg w (by omega)
      rw [ev]
      exact ⟨p_R_ext hR (m_I_2 hI) ew, p_I_ext hI ew (fun k => hlt _)⟩
    · have hj5 : j + 1 < st := by omega
      have ev : c_put V ((x 0 3 + x 0 4) % 6) v (((x 0 3 + 1) % 6 + j) % 6) = V ((x 0 3 + (j + 1)) % 6) := by
        unfold c_put
        rw [if_neg (by omega)]
        congr 1
        omega
      have ew : ∀ k, k < 163 → (fun k => m_put w (m_shift pa 815) 5 163 (163 * j + k)) k = (fun k => pa (163 * (j + 1) + k)) k := fun k hk => by
        show m_put w (m_shift pa 815) 5 163 (163 * j + k) = pa (163 * (j + 1) + k)
        unfold m_put m_shift
        rw [if_neg (by omega), if_pos (by omega)]
        exact congrArg pa (by omega)
      rw [ev]
      exact ⟨p_R_ext (h6 (j + 1) hj5).1 (m_I_2 (h6 (j + 1) hj5).2) ew, p_I_ext (h6 (j + 1) hj5).2 ew (fun k => hlt _)⟩
  · have x3 : c_sv (x 0) 3 = x 0 3 := by
      unfold c_sv
      rw [if_pos (by omega), n_up_ne (by omega)]
    have x4 : c_sv (x 0) 4 = x 0 4 + 1 := by
      unfold c_sv
      rw [if_pos (by omega), n_up_at]
    have hs : m_svs st = st + 1 := by
      unfold m_svs
      rw [if_neg q]
    have hp : m_svp st w pa = m_put w pa st 163 := by
      unfold m_svp
      rw [if_neg q]
    have hlt : ∀ k, m_put w pa st 163 k < 2 ^ 32 := by
      intro k
      unfold m_put
      (repeat' split) <;> first | exact hw _ | exact h4 _
    rw [hs, hp]
    refine ⟨⟨by rw [e, x3]; omega, by rw [e, x4]; omega, by omega⟩, hlt, hVI, fun j hj => ?_⟩
    rw [e, x3]
    by_cases q2 : j = st
    · subst q2
      have ev : c_put V ((x 0 3 + x 0 4) % 6) v ((x 0 3 + j) % 6) = v := if_pos (by omega)
      have ew : ∀ k, k < 163 → (fun k => m_put w pa j 163 (163 * j + k)) k = w k := fun k hk => by
        show m_put w pa j 163 (163 * j + k) = _
        unfold m_put
        rw [if_pos (by omega)]
        exact congrArg w (by omega)
      rw [ev]
      exact ⟨p_R_ext hR (m_I_2 hI) ew, p_I_ext hI ew (fun k => hlt _)⟩
    · have hj5 : j < st := by omega
      have ev : c_put V ((x 0 3 + x 0 4) % 6) v ((x 0 3 + j) % 6) = V ((x 0 3 + j) % 6) := by
        unfold c_put
        rw [if_neg (by omega)]
      have ew : ∀ k, k < 163 → (fun k => m_put w pa st 163 (163 * j + k)) k = (fun k => pa (163 * j + k)) k := fun k hk => by
        show m_put w pa st 163 (163 * j + k) = pa (163 * j + k)
        unfold m_put
        rw [if_neg (by omega)]
      rw [ev]
      exact ⟨p_R_ext (h6 j hj5).1 (m_I_2 (h6 j hj5).2) ew, p_I_ext (h6 j hj5).2 ew (fun k => hlt _)⟩
