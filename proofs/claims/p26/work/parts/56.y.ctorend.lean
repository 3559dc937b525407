/-! the class's cells in one row: the object, the row, the text, the row of what would be taken, the state now, the saved states -/
def o_J6 (h q4 q8 : Nat) (ut u2 ua ub uc ud ue uf : Nat → Nat) : Nat → Nat := fun k => if k = 0 then h else if k = 1 then q4 else if k < 4 then ut (k - 2) else if k = 4 then q8 else if k < 24 then u2 (k - 5) else if k < 43 then ua (k - 24) else if k < 62 then ub (k - 43) else if k < 81 then uc (k - 62) else if k < 100 then ud (k - 81) else if k < 119 then ue (k - 100) else uf (k - 119)
theorem o_J6_u2 {h q4 q8 : Nat} {ut u2 ua ub uc ud ue uf : Nat → Nat} (k : Nat) (hk : k < 19) : (fun k => (o_J6 h q4 q8 ut u2 ua ub uc ud ue uf) (k + 5)) k = u2 k := by
  show (o_J6 h q4 q8 ut u2 ua ub uc ud ue uf) (k + 5) = u2 k
  unfold o_J6
  rw [if_neg (by omega), if_neg (by omega), if_neg (by omega), if_neg (by omega), if_pos (by omega), Nat.add_sub_cancel]
theorem o_J6_ua {h q4 q8 : Nat} {ut u2 ua ub uc ud ue uf : Nat → Nat} (k : Nat) (hk : k < 19) : (fun k => (o_J6 h q4 q8 ut u2 ua ub uc ud ue uf) (k + 24)) k = ua k := by
  show (o_J6 h q4 q8 ut u2 ua ub uc ud ue uf) (k + 24) = ua k
  unfold o_J6
  rw [if_neg (by omega), if_neg (by omega), if_neg (by omega), if_neg (by omega), if_neg (by omega), if_pos (by omega), Nat.add_sub_cancel]
theorem o_J6_ub {h q4 q8 : Nat} {ut u2 ua ub uc ud ue uf : Nat → Nat} (k : Nat) (hk : k < 19) : (fun k => (o_J6 h q4 q8 ut u2 ua ub uc ud ue uf) (k + 43)) k = ub k := by
  show (o_J6 h q4 q8 ut u2 ua ub uc ud ue uf) (k + 43) = ub k
  unfold o_J6
  rw [if_neg (by omega), if_neg (by omega), if_neg (by omega), if_neg (by omega), if_neg (by omega), if_neg (by omega), if_pos (by omega), Nat.add_sub_cancel]
theorem o_J6_uc {h q4 q8 : Nat} {ut u2 ua ub uc ud ue uf : Nat → Nat} (k : Nat) (hk : k < 19) : (fun k => (o_J6 h q4 q8 ut u2 ua ub uc ud ue uf) (k + 62)) k = uc k := by
  show (o_J6 h q4 q8 ut u2 ua ub uc ud ue uf) (k + 62) = uc k
  unfold o_J6
  rw [if_neg (by omega), if_neg (by omega), if_neg (by omega), if_neg (by omega), if_neg (by omega), if_neg (by omega), if_neg (by omega), if_pos (by omega), Nat.add_sub_cancel]
theorem o_J6_ud {h q4 q8 : Nat} {ut u2 ua ub uc ud ue uf : Nat → Nat} (k : Nat) (hk : k < 19) : (fun k => (o_J6 h q4 q8 ut u2 ua ub uc ud ue uf) (k + 81)) k = ud k := by
  show (o_J6 h q4 q8 ut u2 ua ub uc ud ue uf) (k + 81) = ud k
  unfold o_J6
  rw [if_neg (by omega), if_neg (by omega), if_neg (by omega), if_neg (by omega), if_neg (by omega), if_neg (by omega), if_neg (by omega), if_neg (by omega), if_pos (by omega), Nat.add_sub_cancel]
theorem o_J6_ue {h q4 q8 : Nat} {ut u2 ua ub uc ud ue uf : Nat → Nat} (k : Nat) (hk : k < 19) : (fun k => (o_J6 h q4 q8 ut u2 ua ub uc ud ue uf) (k + 100)) k = ue k := by
  show (o_J6 h q4 q8 ut u2 ua ub uc ud ue uf) (k + 100) = ue k
  unfold o_J6
  rw [if_neg (by omega), if_neg (by omega), if_neg (by omega), if_neg (by omega), if_neg (by omega), if_neg (by omega), if_neg (by omega), if_neg (by omega), if_neg (by omega), if_pos (by omega), Nat.add_sub_cancel]
theorem o_J6_uf {h q4 q8 : Nat} {ut u2 ua ub uc ud ue uf : Nat → Nat} (k : Nat) (hk : k < 19) : (fun k => (o_J6 h q4 q8 ut u2 ua ub uc ud ue uf) (k + 119)) k = uf k := by
  show (o_J6 h q4 q8 ut u2 ua ub uc ud ue uf) (k + 119) = uf k
  unfold o_J6
  rw [if_neg (by omega), if_neg (by omega), if_neg (by omega), if_neg (by omega), if_neg (by omega), if_neg (by omega), if_neg (by omega), if_neg (by omega), if_neg (by omega), if_neg (by omega), Nat.add_sub_cancel]
theorem o_wS_fst {cI cR : ClassId} {v : Nat → Nat → Nat} {u u' : Nat → Nat} (e : ∀ k, k < 19 → u' k = u k) : (wS u' cI cR v).map Prod.fst = (wS u cI cR v).map Prod.fst := by
  show [u' 0, u' 6, u' 1, u' 2, u' 3, u' 4, u' 5, u' 7, u' 8, u' 9, u' 10, u' 11, u' 12, u' 13, u' 14, u' 15, u' 16, u' 17, u' 18] = [u 0, u 6, u 1, u 2, u 3, u 4, u 5, u 7, u 8, u 9, u 10, u 11, u 12, u 13, u 14, u 15, u 16, u 17, u 18]
  rw [e 0 (by decide), e 6 (by decide), e 1 (by decide), e 2 (by decide), e 3 (by decide), e 4 (by decide), e 5 (by decide), e 7 (by decide), e 8 (by decide), e 9 (by decide), e 10 (by decide), e 11 (by decide), e 12 (by decide), e 13 (by decide), e 14 (by decide), e 15 (by decide), e 16 (by decide), e 17 (by decide), e 18 (by decide)]
theorem o_map2 {a a' b b' : va_W} (h1 : a.map Prod.fst = a'.map Prod.fst) (h2 : b.map Prod.fst = b'.map Prod.fst) : (a ++ b).map Prod.fst = (a' ++ b').map Prod.fst := by rw [List.map_append, List.map_append, h1, h2]
theorem o_PL {D : va_G} {cl : List vw_C} {pre ws : va_W} {H : Heap} (h : va_P D cl (pre ++ ws) H) : va_P D cl pre H := fun k q hk => h k q (by rw [List.getElem?_append_left (List.getElem?_eq_some_iff.mp hk).1]; exact hk)
theorem o_swap1 {X Y Z R : va_W} {k : Nat} {q : Nat × va_E} (hk : (X ++ (Z ++ (Y ++ R)))[k]? = some q) : (X ++ (Y ++ (Z ++ R)))[if k < X.length then k else if k < X.length + Z.length then k + Y.length else if k < X.length + Z.length + Y.length then k - Z.length else k]? = some q := by
  by_cases h0 : k < X.length
  · rw [List.getElem?_append_left h0] at hk
    rw [if_pos h0, List.getElem?_append_left h0]
    exact hk
  · rw [List.getElem?_append_right (by omega)] at hk
    rw [if_neg h0]
    by_cases h1 : k < X.length + Z.length
    · rw [List.getElem?_append_left (by omega)] at hk
      rw [if_pos h1, List.getElem?_append_right (by omega), List.getElem?_append_right (by omega), List.getElem?_append_left (by omega), show k + Y.length - X.length - Y.length = k - X.length by omega]
      exact hk
    · rw [List.getElem?_append_right (by omega)] at hk
      rw [if_neg h1]
      by_cases h2 : k < X.length + Z.length + Y.length
      · rw [List.getElem?_append_left (by omega)] at hk
        rw [if_pos h2, List.getElem?_append_right (by omega), List.getElem?_append_left (by omega), show k - Z.length - X.length = k - X.length - Z.length by omega]
        exact hk
      · rw [List.getElem?_append_right (by omega)] at hk
        rw [if_neg h2, List.getElem?_append_right (by omega), List.getElem?_append_right (by omega), List.getElem?_append_right (by omega), show k - X.length - Y.length - Z.length = k - X.length - Z.length - Y.length by omega]
        exact hk
theorem o_swapD {A : Nat → Prop} {X Y Z R : va_W} (h : va_D A (X ++ (Y ++ (Z ++ R)))) : va_D A (X ++ (Z ++ (Y ++ R))) := by
  refine ⟨fun i j p q hi hj e => ?_, fun k q hk => h.2 _ q (o_swap1 hk)⟩
  have e1 := h.1 _ _ p q (o_swap1 hi) (o_swap1 hj) e
  have li := (List.getElem?_eq_some_iff.mp hi).1
  have lj := (List.getElem?_eq_some_iff.mp hj).1
  rw [List.length_append, List.length_append, List.length_append] at li lj
  (repeat' split at e1) <;> omega
set_option maxRecDepth 100000 in
theorem o_X4_end {D : va_G} {H : Heap} {A : Nat → Prop} {cI cR cS : ClassId} {h q4 q8 : Nat} {ut u2 ua ub uc ud ue uf : Nat → Nat} (hP : va_P D vwCl ([(h, .inr (4, [.ref (u2 0), .ref q4, .int (nI 0), .int (nI 0), .ref (ut 0), .ref q8]))] ++ (wS u2 cI cR s_0 ++ ([(q4, .inl (cS, 6, .inr (.inr (.inr (.inr (va_up (va_up (va_up (va_up (va_up (va_up (fun _ => none) 0 (some (ua 0))) 1 (some (ub 0))) 2 (some (uc 0))) 3 (some (ud 0))) 4 (some (ue 0))) 5 (some (uf 0))))))))] ++ (wT ut cI x_0 ++ ([oa cI q8 5 (o_zf)] ++ (wS ua cI cR s_0 ++ (wS ub cI cR s_0 ++ (wS uc cI cR s_0 ++ (wS ud cI cR s_0 ++ (wS ue cI cR s_0 ++ wS uf cI cR s_0)))))))))) H) (hD : va_D A ([(h, .inr (4, [.ref (u2 0), .ref q4, .int (nI 0), .int (nI 0), .ref (ut 0), .ref q8]))] ++ (wS u2 cI cR s_0 ++ ([(q4, .inl (cS, 6, .inr (.inr (.inr (.inr (va_up (va_up (va_up (va_up (va_up (va_up (fun _ => none) 0 (some (ua 0))) 1 (some (ub 0))) 2 (some (uc 0))) 3 (some (ud 0))) 4 (some (ue 0))) 5 (some (uf 0))))))))] ++ (wT ut cI x_0 ++ ([oa cI q8 5 (o_zf)] ++ (wS ua cI cR s_0 ++ (wS ub cI cR s_0 ++ (wS uc cI cR s_0 ++ (wS ud cI cR s_0 ++ (wS ue cI cR s_0 ++ wS uf cI cR s_0))))))))))) : va_P D vwCl (wO (o_J6 h q4 q8 ut u2 ua ub uc ud ue uf) cI cR cS x_0 s_0 (wV (o_J6 h q4 q8 ut u2 ua ub uc ud ue uf) cI cR (fun _ => s_0))) H ∧ va_D A (wO (o_J6 h q4 q8 ut u2 ua ub uc ud ue uf) cI cR cS x_0 s_0 (wV (o_J6 h q4 q8 ut u2 ua ub uc ud ue uf) cI cR (fun _ => s_0))) := by
  have p1 := o_PL hP
  have hP := o_PT hP
  have h_u2 := o_PL hP
  have hP := o_PT hP
  have p2 := o_PL hP
  have hP := o_PT hP
  have p3 := o_PL hP
  have hP := o_PT hP
  have p4 := o_PL hP
  have hP := o_PT hP
  have h_ua := o_PL hP
  have hP := o_PT hP
  have h_ub := o_PL hP
  have hP := o_PT hP
  have h_uc := o_PL hP
  have hP := o_PT hP
  have h_ud := o_PL hP
  have hP := o_PT hP
  have h_ue := o_PL hP
  have h_uf := o_PT hP
  have hX : va_P D vwCl ([(h, .inr (4, [.ref (u2 0), .ref q4, .int (nI 0), .int (nI 0), .ref (ut 0), .ref q8]))] ++ ([(q4, .inl (cS, 6, .inr (.inr (.inr (.inr (va_up (va_up (va_up (va_up (va_up (va_up (fun _ => none) 0 (some (ua 0))) 1 (some (ub 0))) 2 (some (uc 0))) 3 (some (ud 0))) 4 (some (ue 0))) 5 (some (uf 0))))))))] ++ (wT ut cI x_0 ++ [oa cI q8 5 (o_zf)]))) H := p1.app (p2.app (p3.app p4))
  have hPX : va_P D vwCl (wX (o_J6 h q4 q8 ut u2 ua ub uc ud ue uf) cI cS x_0) H := o_Pq_eq (g := fun j => (o_J6 h q4 q8 ut u2 ua ub uc ud ue uf) (24 + 19 * j)) hX 1 rfl (fun j hj => by rcases (show j = 0 ∨ j = 1 ∨ j = 2 ∨ j = 3 ∨ j = 4 ∨ j = 5 by omega) with rfl | rfl | rfl | rfl | rfl | rfl <;> rfl)
  have d0 : va_D A ([(h, .inr (4, [.ref (u2 0), .ref q4, .int (nI 0), .int (nI 0), .ref (ut 0), .ref q8]))] ++ (wS u2 cI cR s_0 ++ (([(q4, .inl (cS, 6, .inr (.inr (.inr (.inr (va_up (va_up (va_up (va_up (va_up (va_up (fun _ => none) 0 (some (ua 0))) 1 (some (ub 0))) 2 (some (uc 0))) 3 (some (ud 0))) 4 (some (ue 0))) 5 (some (uf 0))))))))] ++ (wT ut cI x_0 ++ [oa cI q8 5 (o_zf)])) ++ (wS ua cI cR s_0 ++ (wS ub cI cR s_0 ++ (wS uc cI cR s_0 ++ (wS ud cI cR s_0 ++ (wS ue cI cR s_0 ++ wS uf cI cR s_0)))))))) := by
    simp only [List.append_assoc]
    exact hD
  have d1 := o_swapD d0
  have d2 : va_D A (([(h, .inr (4, [.ref (u2 0), .ref q4, .int (nI 0), .int (nI 0), .ref (ut 0), .ref q8]))] ++ ([(q4, .inl (cS, 6, .inr (.inr (.inr (.inr (va_up (va_up (va_up (va_up (va_up (va_up (fun _ => none) 0 (some (ua 0))) 1 (some (ub 0))) 2 (some (uc 0))) 3 (some (ud 0))) 4 (some (ue 0))) 5 (some (uf 0))))))))] ++ (wT ut cI x_0 ++ [oa cI q8 5 (o_zf)]))) ++ (wS u2 cI cR s_0 ++ (wS ua cI cR s_0 ++ (wS ub cI cR s_0 ++ (wS uc cI cR s_0 ++ (wS ud cI cR s_0 ++ (wS ue cI cR s_0 ++ wS uf cI cR s_0))))))) := by
    rw [List.append_assoc]
    exact d1
  refine ⟨hPX.app ((o_wS_eq (u' := fun k => (o_J6 h q4 q8 ut u2 ua ub uc ud ue uf) (k + 5)) h_u2 o_J6_u2).app ((o_wS_eq (u' := fun k => (o_J6 h q4 q8 ut u2 ua ub uc ud ue uf) (k + 24)) h_ua o_J6_ua).app ((o_wS_eq (u' := fun k => (o_J6 h q4 q8 ut u2 ua ub uc ud ue uf) (k + 43)) h_ub o_J6_ub).app ((o_wS_eq (u' := fun k => (o_J6 h q4 q8 ut u2 ua ub uc ud ue uf) (k + 62)) h_uc o_J6_uc).app ((o_wS_eq (u' := fun k => (o_J6 h q4 q8 ut u2 ua ub uc ud ue uf) (k + 81)) h_ud o_J6_ud).app ((o_wS_eq (u' := fun k => (o_J6 h q4 q8 ut u2 ua ub uc ud ue uf) (k + 100)) h_ue o_J6_ue).app (o_wS_eq (u' := fun k => (o_J6 h q4 q8 ut u2 ua ub uc ud ue uf) (k + 119)) h_uf o_J6_uf))))))), o_D_fst ?_ d2⟩
  have hx : (wX (o_J6 h q4 q8 ut u2 ua ub uc ud ue uf) cI cS x_0).map Prod.fst = (([(h, .inr (4, [.ref (u2 0), .ref q4, .int (nI 0), .int (nI 0), .ref (ut 0), .ref q8]))] ++ ([(q4, .inl (cS, 6, .inr (.inr (.inr (.inr (va_up (va_up (va_up (va_up (va_up (va_up (fun _ => none) 0 (some (ua 0))) 1 (some (ub 0))) 2 (some (uc 0))) 3 (some (ud 0))) 4 (some (ue 0))) 5 (some (uf 0))))))))] ++ (wT ut cI x_0 ++ [oa cI q8 5 (o_zf)])) : va_W)).map Prod.fst := rfl
  show (wX (o_J6 h q4 q8 ut u2 ua ub uc ud ue uf) cI cS x_0 ++ (wS (fun k => (o_J6 h q4 q8 ut u2 ua ub uc ud ue uf) (k + 5)) cI cR s_0 ++ (wS (fun k => (o_J6 h q4 q8 ut u2 ua ub uc ud ue uf) (k + 24)) cI cR s_0 ++ (wS (fun k => (o_J6 h q4 q8 ut u2 ua ub uc ud ue uf) (k + 43)) cI cR s_0 ++ (wS (fun k => (o_J6 h q4 q8 ut u2 ua ub uc ud ue uf) (k + 62)) cI cR s_0 ++ (wS (fun k => (o_J6 h q4 q8 ut u2 ua ub uc ud ue uf) (k + 81)) cI cR s_0 ++ (wS (fun k => (o_J6 h q4 q8 ut u2 ua ub uc ud ue uf) (k + 100)) cI cR s_0 ++ wS (fun k => (o_J6 h q4 q8 ut u2 ua ub uc ud ue uf) (k + 119)) cI cR s_0))))))).map Prod.fst = _
  exact o_map2 hx (o_map2 (o_wS_fst (u' := fun k => (o_J6 h q4 q8 ut u2 ua ub uc ud ue uf) (k + 5)) o_J6_u2) (o_map2 (o_wS_fst (u' := fun k => (o_J6 h q4 q8 ut u2 ua ub uc ud ue uf) (k + 24)) o_J6_ua) (o_map2 (o_wS_fst (u' := fun k => (o_J6 h q4 q8 ut u2 ua ub uc ud ue uf) (k + 43)) o_J6_ub) (o_map2 (o_wS_fst (u' := fun k => (o_J6 h q4 q8 ut u2 ua ub uc ud ue uf) (k + 62)) o_J6_uc) (o_map2 (o_wS_fst (u' := fun k => (o_J6 h q4 q8 ut u2 ua ub uc ud ue uf) (k + 81)) o_J6_ud) (o_map2 (o_wS_fst (u' := fun k => (o_J6 h q4 q8 ut u2 ua ub uc ud ue uf) (k + 100)) o_J6_ue) (o_wS_fst (u' := fun k => (o_J6 h q4 q8 ut u2 ua ub uc ud ue uf) (k + 119)) o_J6_uf)))))))
