/-! what the reference's methods answer and do. w: the row 'now'; v: comp 0 states, typed, thrown, at, isFault, tolds; 1 now, 2 past, 3 text, 4 told -/
def m_mode (w : Nat → Nat) (c : Nat) : Nat := if w 3 = c then 1 else if (0 < w 4 ∧ w 5 = c) ∨ (1 < w 4 ∧ w 6 = c) then 2 else 0
def m_comes (w : Nat → Nat) (c : Nat) : Nat → Nat := if w 0 % 2 = 1 then va_up (va_up w (5 + w 4) c) 4 (w 4 + 1) else va_up (va_up w 3 c) 0 (w 0 + 1)
def m_comesr (w : Nat → Nat) : Nat := if w 0 % 2 = 1 then w 4 + 1 else 0
def m_keep5 (w : Nat → Nat) (a : Nat) : Nat → Nat := va_up (va_up (va_up (va_up (va_up w a (w 7)) (a + 1) (w 8)) (a + 2) (w 9)) (a + 3) (w 10)) (a + 4) (w 11)
def m_ends0 (w : Nat → Nat) (c : Nat) : Nat → Nat := va_up (va_up (m_keep5 (va_up w 0 (w 0 + 1)) (83 + 5 * ((w 0 + 1) / 2 % 16))) (12 + c) (w (12 + c) + 1)) 3 4294967295
def m_ends (w : Nat → Nat) (c : Nat) : Nat → Nat := if 0 < w 4 then va_up (va_up (va_up (va_up (m_ends0 w c) 3 (w 5)) 5 (w 6)) 4 (w 4 - 1)) 0 (w 0 + 1 + 1) else m_ends0 w c
/-- 0 away, 1 reads, 2 has given up -/
def m_ofr (w : Nat → Nat) (r : Nat) : Nat := if w (15 + 17 * r + 1) = 4294967295 then (if w (15 + 17 * r) = 1 ∧ w 1 ≤ w (15 + 17 * r + 3) then 2 else 0) else 1
def m_fail (w : Nat → Nat) (r : Nat) : Nat → Nat := va_up (va_up (va_up w (15 + 17 * r + 1) 4294967295) (15 + 17 * r + 3) (w (15 + 17 * r + 3) + 1)) (15 + 17 * r + 4) (w (15 + 17 * r + 4) + 1)
def m_begins (w : Nat → Nat) (r : Nat) : Nat → Nat := if w (15 + 17 * r) = 1 ∧ w 0 % 2 = 1 then m_fail w r else va_up (va_up w (15 + 17 * r + 1) (w 0)) (15 + 17 * r + 2) 0
def m_beginsr (w : Nat → Nat) (r : Nat) : Nat := if w (15 + 17 * r) = 1 ∧ w 0 % 2 = 1 then 0 else 1
def m_anew (w : Nat → Nat) (r h : Nat) : Nat → Nat := va_up (va_up (va_up (va_up (va_up w (15 + 17 * r) h) (15 + 17 * r + 1) 4294967295) (15 + 17 * r + 2) 0) (15 + 17 * r + 3) 0) (15 + 17 * r + 6) 0
/-- five values from 'fr' on are those of the notice n: 1, otherwise 0 -/
noncomputable def m_sm (w : Nat → Nat) (fr n : Nat) : Nat := if w fr = w (83 + 5 * (n % 16)) then if w (fr + 1) = w (83 + 5 * (n % 16) + 1) then if w (fr + 2) = w (83 + 5 * (n % 16) + 2) then if w (fr + 3) = w (83 + 5 * (n % 16) + 3) then if w (fr + 4) = w (83 + 5 * (n % 16) + 4) then 1 else 0 else 0 else 0 else 0 else 0
/-- the number at the place j as it is held: below 0 it goes round -/
def m_nt (m j : Nat) : Nat := if m + j < 15 then m + 4294967281 + j else m + j - 15
theorem m_nt_or (m j : Nat) : (m + j < 15 ∧ m_nt m j = m + 4294967281 + j) ∨ (15 ≤ m + j ∧ m_nt m j = m + j - 15) := by
  unfold m_nt
  split <;> omega
theorem o_wrap {a b : Nat} (h : a = b + 4294967296) : nI a = nI b := by
  subst h
  rw [← nI_add, show nI 4294967296 = 0 from rfl, Int32.add_zero]
theorem m_nt_s (m j : Nat) : nI (m_nt m j + 1) = nI (m_nt m (j + 1)) := by
  rcases m_nt_or m j with ⟨h1, h2⟩ | ⟨h1, h2⟩ <;> rcases m_nt_or m (j + 1) with ⟨h3, h4⟩ | ⟨h3, h4⟩ <;> rw [h2, h4]
  · congr 1
  · exact o_wrap (by omega)
  · omega
  · congr 1
    omega
theorem m_nt_0 {m : Nat} : nI m - nI 16 + nI 1 = nI (m_nt m 0) := by
  rw [Int32.sub_eq_add_neg, show -nI 16 = nI 4294967280 from rfl, nI_add, nI_add]
  rcases m_nt_or m 0 with ⟨h1, h2⟩ | ⟨h1, h2⟩
  · rw [h2]
  · rw [h2]
    exact o_wrap (by omega)
/-- the last one found among the first j of the sixteen places up to the latest -/
noncomputable def m_fd (w : Nat → Nat) (fr m : Nat) : Nat → Nat
  | 0 => 4294967295
  | j + 1 => if 15 ≤ m + j ∧ m_sm w fr (m_nt m j) = 1 then m_nt m j else m_fd w fr m j
/-- k below m, going round below 0 -/
def m_ng (m k : Nat) : Nat := if k ≤ m then m - k else m + 4294967296 - k
theorem m_ng_or (m k : Nat) : (k ≤ m ∧ m_ng m k = m - k) ∨ (m < k ∧ m_ng m k = m + 4294967296 - k) := by
  unfold m_ng
  split <;> omega
theorem m_ng_eq {m k : Nat} (hm : m < 2 ^ 31) (hk : k < 2 ^ 31) : nI m - nI k = nI (m_ng m k) := by
  rcases m_ng_or m k with ⟨h1, h2⟩ | ⟨h1, h2⟩ <;> rw [h2]
  · exact pk_sub h1
  · have e : nI m = nI (m + 4294967296 - k) + nI k := by
      rw [nI_add, show m + 4294967296 - k + k = m + 4294967296 by omega]
      exact (o_wrap rfl).symm
    rw [e, Int32.add_sub_cancel]
def m_shift (pa : Nat → Nat) (i : Nat) : Nat → Nat := fun k => if k < i then pa (k + 163) else pa k
def m_put (w pa : Nat → Nat) (st i : Nat) : Nat → Nat := fun k => if 163 * st ≤ k ∧ k < 163 * st + i then w (k - 163 * st) else pa k
def m_svs (n : Nat) : Nat := if n = 6 then n - 1 + 1 else n + 1
def m_svp (n : Nat) (w pa : Nat → Nat) : Nat → Nat := if n = 6 then m_put w (m_shift pa 815) (n - 1) 163 else m_put w pa n 163
def m_get (w pa : Nat → Nat) (st i : Nat) : Nat → Nat := fun k => if k < i then pa (163 * st + k) else w k
theorem m_shift_0 (pa : Nat → Nat) : m_shift pa 0 = pa := by
  funext k
  simp [m_shift]
theorem m_shift_s (pa : Nat → Nat) (i : Nat) : va_up (m_shift pa i) i (m_shift pa i (i + 163)) = m_shift pa (i + 1) := by
  funext k
  unfold va_up m_shift
  by_cases q : k = i
  · subst q
    rw [if_pos rfl, if_neg (by omega), if_pos (by omega)]
  · rw [if_neg q]
    by_cases q2 : k < i
    · rw [if_pos q2, if_pos (by omega)]
    · rw [if_neg q2, if_neg (by omega)]
theorem m_put_0 (w pa : Nat → Nat) (st : Nat) : m_put w pa st 0 = pa := by
  funext k
  unfold m_put
  rw [if_neg (by omega)]
theorem m_put_s (w pa : Nat → Nat) (st i : Nat) : va_up (m_put w pa st i) (163 * st + i) (w i) = m_put w pa st (i + 1) := by
  funext k
  unfold va_up m_put
  by_cases q : k = 163 * st + i
  · subst q
    rw [if_pos rfl, if_pos (by omega)]
    congr 1
    omega
  · rw [if_neg q]
    by_cases q2 : 163 * st ≤ k ∧ k < 163 * st + i
    · rw [if_pos q2, if_pos (by omega)]
    · rw [if_neg q2, if_neg (by omega)]
theorem m_get_0 (w pa : Nat → Nat) (st : Nat) : m_get w pa st 0 = w := by
  funext k
  simp [m_get]
theorem m_get_s (w pa : Nat → Nat) (st i : Nat) : va_up (m_get w pa st i) i (pa (163 * st + i)) = m_get w pa st (i + 1) := by
  funext k
  unfold va_up m_get
  by_cases q : k = i
  · subst q
    rw [if_pos rfl, if_pos (by omega)]
  · rw [if_neg q]
    by_cases q2 : k < i
    · rw [if_pos q2, if_pos (by omega)]
    · rw [if_neg q2, if_neg (by omega)]
theorem m_sm_le (w : Nat → Nat) (fr n : Nat) : m_sm w fr n ≤ 1 := by
  unfold m_sm
  (repeat' split) <;> omega
def m_take (w : Nat → Nat) (r : Nat) : Nat → Nat := va_up (va_up w (15 + 17 * r + 7 + w (15 + 17 * r + 2)) (w (7 + w (15 + 17 * r + 2)))) (15 + 17 * r + 2) (w (15 + 17 * r + 2) + 1)
def m_own5 (w : Nat → Nat) (a : Nat) : Nat → Nat := va_up (va_up (va_up (va_up (va_up w (a + 12) (w (a + 7))) (a + 13) (w (a + 8))) (a + 14) (w (a + 9))) (a + 15) (w (a + 10))) (a + 16) (w (a + 11))
def m_well (w : Nat → Nat) (r : Nat) : Nat → Nat := va_up (va_up (va_up (va_up (m_own5 w (15 + 17 * r)) (15 + 17 * r + 6) 1) (15 + 17 * r + 1) 4294967295) (15 + 17 * r + 3) 0) (15 + 17 * r + 5) (w (15 + 17 * r + 5) + 1)
noncomputable def m_looks (w : Nat → Nat) (r : Nat) : Nat → Nat := if w (15 + 17 * r + 2) < 5 then m_take w r else if w (15 + 17 * r) = 1 ∧ ¬ w (15 + 17 * r + 1) = w 0 then m_fail w r else va_up (m_well w r) 2 (w 2 + (if m_fd (m_well w r) (15 + 17 * r + 12) (w 0 / 2) 16 = 4294967295 then 1 else 0))
def m_looksr (w : Nat → Nat) (r : Nat) : Nat := if w (15 + 17 * r + 2) < 5 then w (7 + w (15 + 17 * r + 2)) else if w (15 + 17 * r) = 1 ∧ ¬ w (15 + 17 * r + 1) = w 0 then 100 else 101
noncomputable def m_does (w : Nat → Nat) (so a x : Nat) : Nat → Nat := if so = 99 then m_comes w a else if so = 100 then m_ends w a else if so = 119 then va_up w (7 + a) x else if so = 98 then m_begins w a else m_looks w a
/-- whether a deed is possible -/
abbrev m_may (w : Nat → Nat) (so a : Nat) : Prop := (so = 99 ∧ m_mode w a = 0) ∨ (so = 100 ∧ m_mode w a = 1) ∨ (so = 119 ∧ ¬ w 3 = 4294967295) ∨ (so = 98 ∧ m_ofr w a = 0) ∨ (so = 108 ∧ m_ofr w a = 1)
def m_hi (so : Nat) : Nat := if so = 119 then 52 else if so = 99 ∨ so = 100 then 50 else 51
/-- one part of a text: where it stops, the fault, what is told, whether it is a part -/
def m_pt (tx : Nat → Nat) (len n ix fl : Nat) (td : Nat → Nat) : Nat × Nat × (Nat → Nat) × Nat :=
  if tx ix = 99 ∨ tx ix = 100 ∨ tx ix = 119 ∨ tx ix = 98 ∨ tx ix = 108 then
    if ix + 1 < len ∧ 48 ≤ tx (ix + 1) ∧ tx (ix + 1) ≤ m_hi (tx ix) then
      if tx ix = 119 then
        if ix + 2 < len ∧ 48 ≤ tx (ix + 2) ∧ tx (ix + 2) ≤ 57 then
          if ix + 3 < len ∧ 48 ≤ tx (ix + 3) ∧ tx (ix + 3) ≤ 57 then (ix + 4, fl, va_up (va_up (va_up td (3 * n) (tx ix)) (3 * n + 1) (tx (ix + 1) - 48)) (3 * n + 2) (10 * (tx (ix + 2) - 48) + tx (ix + 3) - 48), 1)
          else (ix + 3, bn (ix + 3 < len), va_up (va_up td (3 * n) (tx ix)) (3 * n + 1) (tx (ix + 1) - 48), 0)
        else (ix + 2, bn (ix + 2 < len), va_up (va_up td (3 * n) (tx ix)) (3 * n + 1) (tx (ix + 1) - 48), 0)
      else (ix + 2, fl, va_up (va_up td (3 * n) (tx ix)) (3 * n + 1) (tx (ix + 1) - 48), 1)
    else (ix + 1, bn (ix + 1 < len), td, 0)
  else (ix, bn (ix < len), td, 0)
/-- a text: where it stops, the fault, how many parts, what is told, whether it is complete -/
def m_tx (tx : Nat → Nat) (len : Nat) : Nat → Nat → Nat → (Nat → Nat) → Nat × Nat × Nat × (Nat → Nat) × Nat
  | 0, ix, n, td => (ix, 0, n, td, 0)
  | f + 1, ix, n, td => if ix < len then (if (m_pt tx len n ix 0 td).2.2.2 = 1 then m_tx tx len f (m_pt tx len n ix 0 td).1 (n + 1) (m_pt tx len n ix 0 td).2.2.1 else ((m_pt tx len n ix 0 td).1, (m_pt tx len n ix 0 td).2.1, n, (m_pt tx len n ix 0 td).2.2.1, 0)) else (ix, 0, n, td, bn (0 < n))
/-- the deeds told, one after the other, up to the first that is not possible -/
noncomputable def m_run (td : Nat → Nat) (N : Nat) : Nat → Nat → (Nat → Nat) → (Nat → Nat) × Nat
  | 0, n, w => (w, n)
  | f + 1, n, w => if n < N ∧ m_may w (td (3 * n)) (td (3 * n + 1)) then m_run td N f (n + 1) (m_does w (td (3 * n)) (td (3 * n + 1)) (td (3 * n + 2))) else (w, n)
/-- what is told of a clerk, of a reader, and the counts -/
def m_ofc (w : Nat → Nat) (c k : Nat) : Nat := if k = 0 then m_mode w c else if k = 1 then (if m_mode w c = 2 then (if w 5 = c then 0 else 1) else 4294967295) else w (12 + c)
noncomputable def m_ofrd (w : Nat → Nat) (r k : Nat) : Nat := if k = 0 then m_ofr w r else if k = 1 then w (15 + 17 * r + 1) else if k = 2 then (if w (15 + 17 * r + 1) = 4294967295 then 4294967295 else w (15 + 17 * r + 2)) else if k = 3 then w (15 + 17 * r + 3) else if k = 4 then w (15 + 17 * r + 4) else if k = 5 then w (15 + 17 * r + 5) else if k = 6 then (if w (15 + 17 * r + 6) = 1 then m_fd w (15 + 17 * r + 12) (w 0 / 2) 16 else 4294967295) else w (15 + 17 * r)
def m_had (w : Nat → Nat) (r f : Nat) : Nat := if w (15 + 17 * r + 6) = 1 then w (15 + 17 * r + 12 + f) else 4294967295
def m_rd1 (w : Nat → Nat) (r : Nat) : Nat := if m_ofr w r = 1 then 1 else 0
def m_all (w : Nat → Nat) (k : Nat) : Nat := if k = 0 then m_rd1 w 0 + m_rd1 w 1 + m_rd1 w 2 + m_rd1 w 3 else w (15 + k) + w (32 + k) + w (49 + k) + w (66 + k)
def m_cnt (w : Nat → Nat) (st k : Nat) : Nat := if k = 0 then w 0 else if k = 1 then w 3 else if k = 2 then w 4 else if k = 3 then m_all w 0 else if k = 4 then m_all w 4 else if k = 5 then m_all w 5 else if k = 6 then w 2 else if k = 7 then w 1 else st
def m_tries (w : Nat → Nat) (r : Nat) : Nat := if m_ofr w r = 2 then 4294967295 else if w (15 + 17 * r) = 1 ∧ (m_ofr w r = 1 ∧ ¬ w (15 + 17 * r + 1) = w 0 ∨ ¬ m_ofr w r = 1 ∧ w 0 % 2 = 1) then 0 else 1
/-- what would be taken at a place -/
def m_its (w : Nat → Nat) (r tk f : Nat) : Nat := if f < tk then w (15 + 17 * r + (7 + f)) else w (7 + f)
def m_tk (w : Nat → Nat) (r : Nat) : Nat := if m_ofr w r = 1 then w (15 + 17 * r + 2) else 0
noncomputable def m_hs (w : Nat → Nat) (r tk n : Nat) : Nat := if m_its w r tk 0 = w (83 + 5 * (n % 16)) then if m_its w r tk 1 = w (83 + 5 * (n % 16) + 1) then if m_its w r tk 2 = w (83 + 5 * (n % 16) + 2) then if m_its w r tk 3 = w (83 + 5 * (n % 16) + 3) then if m_its w r tk 4 = w (83 + 5 * (n % 16) + 4) then 1 else 0 else 0 else 0 else 0 else 0
/-- whether one of the latest j kept notices is what would be taken -/
noncomputable def m_hw (w : Nat → Nat) (r tk m : Nat) : Nat → Nat
  | 0 => 0
  | j + 1 => if m_hw w r tk m j = 1 ∨ (j ≤ m ∧ m_hs w r tk (m - j) = 1) then 1 else 0
noncomputable def m_halves (w : Nat → Nat) (r : Nat) : Nat := if m_tries w r = 1 then (if m_hw w r (m_tk w r) (w 0 / 2) 16 = 1 then 0 else 1) else 0
theorem m_hw_le (w : Nat → Nat) (r tk m j : Nat) : m_hw w r tk m j ≤ 1 := by
  cases j with
  | zero => exact Nat.zero_le _
  | succ j => rw [m_hw]; split <;> omega
theorem m_well_0 {w : Nat → Nat} {r : Nat} (_ : r < 4) : m_well w r 0 = w 0 := by
  simp only [m_well, m_own5, va_up]
  (repeat' split) <;> omega
theorem m_well_2 {w : Nat → Nat} {r : Nat} (_ : r < 4) : m_well w r 2 = w 2 := by
  simp only [m_well, m_own5, va_up]
  (repeat' split) <;> omega
theorem m_well_lt {w : Nat → Nat} {r : Nat} (hw : ∀ k, w k < 2 ^ 32) (h5 : w (15 + 17 * r + 5) < 2 ^ 31) : ∀ k, m_well w r k < 2 ^ 32 := by
  intro k
  simp only [m_well, m_own5, va_up]
  (repeat' split) <;> first | exact hw _ | omega
theorem m_fd_lt {w : Nat → Nat} {fr m : Nat} : ∀ (j : Nat), m < 2 ^ 30 → j ≤ 16 → m_fd w fr m j < 2 ^ 32
  | 0, _, _ => by rw [m_fd]; omega
  | j + 1, hm, hj => by
    have h1 := m_fd_lt (w := w) (fr := fr) j hm (by omega)
    have h2 := m_nt_or m j
    rw [m_fd]
    split <;> omega
