/-! two blocks of a world: a saved state and the state now -/
theorem o_get_mid : ∀ (mid pre post : va_W), (List.range' pre.length mid.length).map (fun i => (pre ++ (mid ++ post))[i]?) = mid.map some
  | [], pre, post => rfl
  | z :: zs, pre, post => by
    have h1 := o_get_mid zs (pre ++ [z]) post
    rw [List.length_append, List.length_singleton, show pre ++ [z] ++ (zs ++ post) = pre ++ (z :: zs ++ post) by simp] at h1
    rw [List.length_cons, List.range'_succ, List.map_cons, List.map_cons, h1]
    congr 1
    rw [List.getElem?_append_right (Nat.le_refl _), Nat.sub_self]
    rfl
theorem o_put_app : ∀ (is1 : List Nat) (xs1 : va_W) (is2 : List Nat) (xs2 ws : va_W), is1.length = xs1.length → o_put ws (is1 ++ is2) (xs1 ++ xs2) = o_put (o_put ws is1 xs1) is2 xs2
  | [], [], _, _, _, _ => rfl
  | i :: is, x :: xs, is2, xs2, ws, h => o_put_app is xs is2 xs2 (ws.set i x) (by simpa using h)
  | [], _ :: _, _, _, _, h => by simp at h
  | _ :: _, [], _, _, _, h => by simp at h
def o_two (A N B S : va_W) : List Nat := List.range' (A.length + N.length + B.length) S.length ++ List.range' A.length N.length
theorem o_two_get (A N B S C : va_W) : (o_two A N B S).map (fun i => (A ++ (N ++ (B ++ (S ++ C))))[i]?) = (S ++ N).map some := by
  unfold o_two
  rw [List.map_append, List.map_append, o_get_mid N A (B ++ (S ++ C))]
  congr 1
  have h := o_get_mid S (A ++ (N ++ B)) C
  rw [show (A ++ (N ++ B)).length = A.length + N.length + B.length by simp [Nat.add_assoc], show A ++ (N ++ B) ++ (S ++ C) = A ++ (N ++ (B ++ (S ++ C))) by simp] at h
  exact h
theorem o_two_put (A N B S C N' S' : va_W) (hN : N'.length = N.length) (hS : S'.length = S.length) : o_put (A ++ (N ++ (B ++ (S ++ C)))) (o_two A N B S) (S' ++ N') = A ++ (N' ++ (B ++ (S' ++ C))) := by
  unfold o_two
  rw [o_put_app _ _ _ _ _ (by rw [List.length_range', hS])]
  have h := o_put_mid S' S (A ++ (N ++ B)) C hS
  rw [show (A ++ (N ++ B)).length = A.length + N.length + B.length by simp [Nat.add_assoc], show A ++ (N ++ B) ++ (S ++ C) = A ++ (N ++ (B ++ (S ++ C))) by simp, hS, show A ++ (N ++ B) ++ (S' ++ C) = A ++ (N ++ (B ++ (S' ++ C))) by simp] at h
  rw [h]
  have h2 := o_put_mid N' N A (B ++ (S' ++ C)) hN
  rw [hN] at h2
  exact h2
def c_put (V : Nat → Nat → Nat → Nat) (j : Nat) (v : Nat → Nat → Nat) : Nat → Nat → Nat → Nat := fun i => if i = j then v else V i
abbrev w_s (o : Nat → Nat) (cI cR : ClassId) (V : Nat → Nat → Nat → Nat) (j : Nat) : va_W := wS (fun k => o (k + (24 + 19 * j))) cI cR (V j)
theorem w_V (o : Nat → Nat) (cI cR : ClassId) (V : Nat → Nat → Nat → Nat) : wV o cI cR V = w_s o cI cR V 0 ++ (w_s o cI cR V 1 ++ (w_s o cI cR V 2 ++ (w_s o cI cR V 3 ++ (w_s o cI cR V 4 ++ w_s o cI cR V 5)))) := rfl
def w_B (o : Nat → Nat) (cI cR : ClassId) (V : Nat → Nat → Nat → Nat) : Nat → va_W
  | 0 => []
  | j + 1 => w_B o cI cR V j ++ w_s o cI cR V j
def w_C (o : Nat → Nat) (cI cR : ClassId) (V : Nat → Nat → Nat → Nat) : Nat → va_W
  | 0 => w_s o cI cR V 1 ++ (w_s o cI cR V 2 ++ (w_s o cI cR V 3 ++ (w_s o cI cR V 4 ++ w_s o cI cR V 5)))
  | 1 => w_s o cI cR V 2 ++ (w_s o cI cR V 3 ++ (w_s o cI cR V 4 ++ w_s o cI cR V 5))
  | 2 => w_s o cI cR V 3 ++ (w_s o cI cR V 4 ++ w_s o cI cR V 5)
  | 3 => w_s o cI cR V 4 ++ w_s o cI cR V 5
  | 4 => w_s o cI cR V 5
  | _ => []
theorem w_Vj (o : Nat → Nat) (cI cR : ClassId) (V : Nat → Nat → Nat → Nat) {j : Nat} (hj : j < 6) : wV o cI cR V = w_B o cI cR V j ++ (w_s o cI cR V j ++ w_C o cI cR V j) := by
  rw [w_V]
  rcases o_lt6 hj with rfl | rfl | rfl | rfl | rfl | rfl
  · rfl
  · rw [w_B, w_B, w_C, List.nil_append]
  · rw [w_B, w_B, w_B, w_C, List.nil_append, List.append_assoc]
  · rw [w_B, w_B, w_B, w_B, w_C, List.nil_append, List.append_assoc, List.append_assoc]
  · rw [w_B, w_B, w_B, w_B, w_B, w_C, List.nil_append, List.append_assoc, List.append_assoc, List.append_assoc]
  · rw [w_B, w_B, w_B, w_B, w_B, w_B, show w_C o cI cR V 5 = [] from rfl, List.nil_append, List.append_assoc, List.append_assoc, List.append_assoc, List.append_assoc, List.append_nil]
theorem w_B_put (o : Nat → Nat) (cI cR : ClassId) (V : Nat → Nat → Nat → Nat) (v : Nat → Nat → Nat) {j : Nat} : ∀ k, k ≤ j → w_B o cI cR (c_put V j v) k = w_B o cI cR V k
  | 0, _ => rfl
  | k + 1, h => by
    rw [w_B, w_B, w_B_put o cI cR V v k (by omega)]
    rw [show w_s o cI cR (c_put V j v) k = w_s o cI cR V k from by show wS _ cI cR (c_put V j v k) = _; rw [show c_put V j v k = V k from if_neg (by omega)]]
theorem w_C_put (o : Nat → Nat) (cI cR : ClassId) (V : Nat → Nat → Nat → Nat) (v : Nat → Nat → Nat) {j : Nat} (hj : j < 6) : w_C o cI cR (c_put V j v) j = w_C o cI cR V j := by
  rcases o_lt6 hj with rfl | rfl | rfl | rfl | rfl | rfl <;> rfl
theorem w_s_put (o : Nat → Nat) (cI cR : ClassId) (V : Nat → Nat → Nat → Nat) (v : Nat → Nat → Nat) {j : Nat} : w_s o cI cR (c_put V j v) j = wS (fun k => o (k + (24 + 19 * j))) cI cR v := by
  show wS _ cI cR (c_put V j v j) = _
  rw [show c_put V j v j = v from if_pos rfl]
/-- the places of a saved state and of the state now -/
abbrev w_pl (o : Nat → Nat) (cI cR cS : ClassId) (x v : Nat → Nat → Nat) (V : Nat → Nat → Nat → Nat) (j : Nat) : List Nat := o_two (wX o cI cS x) (wS (fun k => o (k + 5)) cI cR v) (w_B o cI cR V j) (w_s o cI cR V j)
theorem w_get (o : Nat → Nat) (cI cR cS : ClassId) (x v : Nat → Nat → Nat) (V : Nat → Nat → Nat → Nat) {j : Nat} (hj : j < 6) : (w_pl o cI cR cS x v V j).map (fun i => (wO o cI cR cS x v (wV o cI cR V))[i]?) = (w_s o cI cR V j ++ wS (fun k => o (k + 5)) cI cR v).map some := by
  have h := o_two_get (wX o cI cS x) (wS (fun k => o (k + 5)) cI cR v) (w_B o cI cR V j) (w_s o cI cR V j) (w_C o cI cR V j)
  rw [← w_Vj o cI cR V hj] at h
  exact h
theorem w_put (o : Nat → Nat) (cI cR cS : ClassId) (x v v' u : Nat → Nat → Nat) (V : Nat → Nat → Nat → Nat) {j : Nat} (hj : j < 6) : o_put (wO o cI cR cS x v (wV o cI cR V)) (w_pl o cI cR cS x v V j) (wS (fun k => o (k + (24 + 19 * j))) cI cR u ++ wS (fun k => o (k + 5)) cI cR v') = wO o cI cR cS x v' (wV o cI cR (c_put V j u)) := by
  have h := o_two_put (wX o cI cS x) (wS (fun k => o (k + 5)) cI cR v) (w_B o cI cR V j) (w_s o cI cR V j) (w_C o cI cR V j) (wS (fun k => o (k + 5)) cI cR v') (wS (fun k => o (k + (24 + 19 * j))) cI cR u) rfl rfl
  rw [← w_Vj o cI cR V hj] at h
  rw [w_Vj o cI cR (c_put V j u) hj, w_B_put o cI cR V u j (Nat.le_refl _), w_C_put o cI cR V u hj, w_s_put]
  exact h
theorem w_Bl (o : Nat → Nat) (cI cR : ClassId) (V : Nat → Nat → Nat → Nat) : ∀ j, (w_B o cI cR V j).length = 19 * j
  | 0 => rfl
  | j + 1 => by
    rw [w_B, List.length_append, w_Bl o cI cR V j, show (w_s o cI cR V j).length = 19 from rfl]
    omega
theorem w_nd (o : Nat → Nat) (cI cR cS : ClassId) (x v : Nat → Nat → Nat) (V : Nat → Nat → Nat → Nat) {j : Nat} (hj : j < 6) : va_nd (w_pl o cI cR cS x v V j) = true := by
  unfold w_pl o_two
  rw [w_Bl, show (wX o cI cS x).length = 5 from rfl, show (wS (fun k => o (k + 5)) cI cR v).length = 19 from rfl, show (w_s o cI cR V j).length = 19 from rfl]
  rcases o_lt6 hj with rfl | rfl | rfl | rfl | rfl | rfl <;> decide
/-! the same two, the state now first -/
def o_two2 (A N B S : va_W) : List Nat := List.range' A.length N.length ++ List.range' (A.length + N.length + B.length) S.length
theorem o_two2_get (A N B S C : va_W) : (o_two2 A N B S).map (fun i => (A ++ (N ++ (B ++ (S ++ C))))[i]?) = (N ++ S).map some := by
  have h := o_two_get A N B S C
  unfold o_two at h
  unfold o_two2
  rw [List.map_append, List.map_append] at h ⊢
  have h1 := o_get_mid N A (B ++ (S ++ C))
  have h2 := List.append_inj_left' h (by rw [List.length_map, List.length_map, List.length_range'])
  rw [h1, h2]
theorem o_two2_put (A N B S C N' S' : va_W) (hN : N'.length = N.length) (hS : S'.length = S.length) : o_put (A ++ (N ++ (B ++ (S ++ C)))) (o_two2 A N B S) (N' ++ S') = A ++ (N' ++ (B ++ (S' ++ C))) := by
  unfold o_two2
  rw [o_put_app _ _ _ _ _ (by rw [List.length_range', hN])]
  have h2 := o_put_mid N' N A (B ++ (S ++ C)) hN
  rw [hN] at h2
  rw [h2]
  have h := o_put_mid S' S (A ++ (N' ++ B)) C hS
  rw [show (A ++ (N' ++ B)).length = A.length + N.length + B.length by simp [Nat.add_assoc, hN], show A ++ (N' ++ B) ++ (S ++ C) = A ++ (N' ++ (B ++ (S ++ C))) by simp, hS, show A ++ (N' ++ B) ++ (S' ++ C) = A ++ (N' ++ (B ++ (S' ++ C))) by simp] at h
  exact h
abbrev w_pl2 (o : Nat → Nat) (cI cR cS : ClassId) (x v : Nat → Nat → Nat) (V : Nat → Nat → Nat → Nat) (j : Nat) : List Nat := o_two2 (wX o cI cS x) (wS (fun k => o (k + 5)) cI cR v) (w_B o cI cR V j) (w_s o cI cR V j)
theorem w_get2 (o : Nat → Nat) (cI cR cS : ClassId) (x v : Nat → Nat → Nat) (V : Nat → Nat → Nat → Nat) {j : Nat} (hj : j < 6) : (w_pl2 o cI cR cS x v V j).map (fun i => (wO o cI cR cS x v (wV o cI cR V))[i]?) = (wS (fun k => o (k + 5)) cI cR v ++ w_s o cI cR V j).map some := by
  have h := o_two2_get (wX o cI cS x) (wS (fun k => o (k + 5)) cI cR v) (w_B o cI cR V j) (w_s o cI cR V j) (w_C o cI cR V j)
  rw [← w_Vj o cI cR V hj] at h
  exact h
theorem w_put2 (o : Nat → Nat) (cI cR cS : ClassId) (x v v' : Nat → Nat → Nat) (V : Nat → Nat → Nat → Nat) {j : Nat} (hj : j < 6) : o_put (wO o cI cR cS x v (wV o cI cR V)) (w_pl2 o cI cR cS x v V j) (wS (fun k => o (k + 5)) cI cR v' ++ wS (fun k => o (k + (24 + 19 * j))) cI cR (V j)) = wO o cI cR cS x v' (wV o cI cR V) := by
  have h := o_two2_put (wX o cI cS x) (wS (fun k => o (k + 5)) cI cR v) (w_B o cI cR V j) (w_s o cI cR V j) (w_C o cI cR V j) (wS (fun k => o (k + 5)) cI cR v') (wS (fun k => o (k + (24 + 19 * j))) cI cR (V j)) rfl rfl
  rw [← w_Vj o cI cR V hj] at h
  rw [w_Vj o cI cR V hj]
  rw [w_Vj o cI cR V hj] at h
  exact h
theorem w_nd2 (o : Nat → Nat) (cI cR cS : ClassId) (x v : Nat → Nat → Nat) (V : Nat → Nat → Nat → Nat) {j : Nat} (hj : j < 6) : va_nd (w_pl2 o cI cR cS x v V j) = true := by
  unfold w_pl2 o_two2
  rw [w_Bl, show (wX o cI cS x).length = 5 from rfl, show (wS (fun k => o (k + 5)) cI cR v).length = 19 from rfl, show (w_s o cI cR V j).length = 19 from rfl]
  rcases o_lt6 hj with rfl | rfl | rfl | rfl | rfl | rfl <;> decide
/-- what a save does to the numbers of the row: x 3 oldest, x 4 count -/
def c_sv (x : Nat → Nat) : Nat → Nat := if x 4 < 6 then va_up x 4 (x 4 + 1) else va_up x 3 ((x 3 + 1) % 6)
theorem o_fm {is : List Nat} {f : Nat → Option (Nat × va_E)} {wc : va_W} (h : is.map f = wc.map some) : is.filterMap f = wc := by
  have h1 : (is.map f).filterMap id = is.filterMap f := by rw [List.filterMap_map]; rfl
  rw [← h1, h, List.filterMap_map]
  show wc.filterMap some = wc
  exact List.filterMap_some
