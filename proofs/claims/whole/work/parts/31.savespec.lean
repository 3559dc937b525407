/-! two blocks of a world: a saved state and the state now -/
theorem o_get_mid : ∀ (mid pre post : va_W), (List.range' pre.length mid.length).map (fun i => (pre ++ (mid ++ post))[i]?) = mid.map some
  | [], pre, post => rfl
  | z :: zs, pre, post => by
    have h1 := o_get_mid zs (pre ++ [z]) post
    rw [List.length_append, List.length_singleton, show pre ++ [z] ++ (zs ++ post) = pre ++ (z :: zs ++ post) by simp] at h1
    rw [List.length_cons, List.range'_succ, List.map_cons, List.map_cons, h1]
    congr 1
    rw [List.getElem?_append_right (Nat.le_refl _), Nat.sub_self]
    rfl
theorem o_put_app : ∀ (is1 : List Nat) (xs1 : va_W) (is2 : List Nat) (xs2 ws : va_W), is1.length = xs1.length → o_put ws (is1 ++ is2) (xs1 ++ xs2) = o_put (o_put ws is1 xs1) is2 xs2
  | [], [], _, _, _, _ => rfl
  | i :: is, x :: xs, is2, xs2, ws, h => o_put_app is xs is2 xs2 (ws.set i x) (by simpa using h)
  | [], _ :: _, _, _, _, h => by simp at h
  | _ :: _, [], _, _, _, h => by simp at h
def o_two (A N B S : va_W) : List Nat := List.range' (A.length + N.length + B.length) S.length ++ List.range' A.length N.length
theorem o_two_get (A N B S C : va_W) : (o_two A N B S).map (fun i => (A ++ (N ++ (B ++ (S ++ C))))[i]?) = (S ++ N).map some := by
  unfold o_two
  rw [List.map_append, List.map_append, o_get_mid N A (B ++ (S ++ C))]
  congr 1
  have h := o_get_mid S (A ++ (N ++ B)) C
  rw [show (A ++ (N ++ B)).length = A.length + N.length + B.length by simp [Nat.add_assoc], show A ++ (N ++ B) ++ (S ++ C) = A ++ (N ++ (B ++ (S ++ C))) by simp] at h
  exact h
theorem o_two_put (A N B S C N' S' : va_W) (hN : N'.length = N.length) (hS : S'.length = S.length) : o_put (A ++ (N ++ (B ++ (S ++ C)))) (o_two A N B S) (S' ++ N') = A ++ (N' ++ (B ++ (S' ++ C))) := by
  unfold o_two
  rw [o_put_app _ _ _ _ _ (by rw [List.length_range', hS])]
  have h := o_put_mid S' S (A ++ (N ++ B)) C hS
  rw [show (A ++ (N ++ B)).length = A.length + N.length + B.length by simp [Nat.add_assoc], show A ++ (N ++ B) ++ (S ++ C) = A ++ (N ++ (B ++ (S ++ C))) by simp, hS, show A ++ (N ++ B) ++ (S' ++ C) = A ++ (N ++ (B ++ (S' ++ C))) by simp] at h
  rw [h]
  have h2 := o_put_mid N' N A (B ++ (S' ++ C)) hN
  rw [hN] at h2
  exact h2
