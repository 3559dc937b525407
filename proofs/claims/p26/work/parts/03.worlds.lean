/-! WORLDS: a board, a reader, a state, a text, the class, the reference; each reads its numbers off a function of functions: comp 0 holds numbers, the others rows -/
section OB3
variable {p : Program} {l : Launch} {e : Env} {R : Room} {s : State} {m : MethodId} {args : Array Value} {below : List Frame} {meth : Method} {c : Code} {H : Heap} {locs : List Loc} {cells slots : Nat} {Q : State → Prop}
variable {cc : ByteArray} {pc : Nat} {ls : Array Slot} {rest : List Value}
theorem o_neg {a : Nat} (h1 : 2 ^ 31 ≤ a) (h2 : a < 2 ^ 32) : (nI a).toInt < 0 := by
  have h3 : (nI a).toBitVec.toNat = a := pk_tn h2
  show (nI a).toBitVec.toInt < 0
  rw [BitVec.toInt_eq_toNat_cond, h3]
  split <;> omega
theorem o_neg_lt {a : Nat} (h1 : 2 ^ 31 ≤ a) (h2 : a < 2 ^ 32) : nI a < 0 := by
  rw [Int32.lt_iff_toInt_lt]
  exact o_neg h1 h2
theorem o_if_lt_neg (hexec : p.tables.exec = Jvm.exec) (hb : c.code = cc) {a : Nat} {off : Int} {tgt : Nat} (hdg : decode cc pc = .ok (.ifCond .lt off, 3)) (ht : (pc : Int) + off = (tgt : Int)) (h1 : 2 ^ 31 ≤ a) (h2 : a < 2 ^ 32)
    (kt : W p l e R s m args below meth c H locs cells slots Q (F0 m tgt ls rest)) : W p l e R s m args below meth c H locs cells slots Q (F0 m pc ls (.int (nI a) :: rest)) :=
  lv_if_lt hexec hb hdg ht (fun _ => kt) (fun h => absurd (o_neg_lt h1 h2) h)
theorem o_if_lt_s (hexec : p.tables.exec = Jvm.exec) (hb : c.code = cc) {a : Nat} {off : Int} {tgt : Nat} (hdg : decode cc pc = .ok (.ifCond .lt off, 3)) (ht : (pc : Int) + off = (tgt : Int)) (ha : a < 2 ^ 32)
    (kt : (2147483648 ≤ a) → W p l e R s m args below meth c H locs cells slots Q (F0 m tgt ls rest)) (kf : ¬ (2147483648 ≤ a) → W p l e R s m args below meth c H locs cells slots Q (F0 m (pc + 3) ls rest)) : W p l e R s m args below meth c H locs cells slots Q (F0 m pc ls (.int (nI a) :: rest)) := by
  by_cases q : a < 2 ^ 31
  · exact o_if_lt hexec hb hdg ht q (kf (by omega))
  · exact o_if_lt_neg hexec hb hdg ht (by omega) ha (kt (by omega))
theorem o_if_le_pm (hexec : p.tables.exec = Jvm.exec) (hb : c.code = cc) {a : Nat} {off : Int} {tgt : Nat} (hdg : decode cc pc = .ok (.ifCond .le off, 3)) (ht : (pc : Int) + off = (tgt : Int)) (ha : a = 4294967295 ∨ a < 2 ^ 31)
    (kt : ¬ (0 < a ∧ ¬ a = 4294967295) → W p l e R s m args below meth c H locs cells slots Q (F0 m tgt ls rest)) (kf : (0 < a ∧ ¬ a = 4294967295) → W p l e R s m args below meth c H locs cells slots Q (F0 m (pc + 3) ls rest)) : W p l e R s m args below meth c H locs cells slots Q (F0 m pc ls (.int (nI a) :: rest)) := by
  by_cases q : a < 2 ^ 31
  · exact o_if_le hexec hb hdg ht q (fun h => kt fun z => h z.1) (fun h => kf ⟨h, by omega⟩)
  · have h3 : a = 4294967295 := by omega
    have h2 : a < 2 ^ 32 := by omega
    exact lv_if_le hexec hb hdg ht (fun _ => kt fun z => z.2 h3) (fun h => absurd (Int32.le_of_lt (o_neg_lt (by omega) h2)) h)
end OB3
theorem o_un {α : Type} {f : Nat → α} {i j : Nat} {x : α} (h : ¬ j = i) : va_up f i x j = f j := if_neg h
abbrev wB (q : Nat → Nat) (cI : ClassId) (v : Nat → Nat → Nat) : va_W := [(q 0, .inr (0, [.int (nI (v 0 0)), .ref (q 1), .ref (q 2), .ref (q 3), .ref (q 4)])), oa cI (q 1) 5 (v 1), oa cI (q 2) 3 (v 2), oa cI (q 3) 3 (v 3), oa cI (q 4) 80 (v 4)]
abbrev wR (q : Nat → Nat) (cI : ClassId) (u : Nat → Nat → Nat) : va_W := [(q 0, .inr (1, [.int (nI (u 0 0)), .int (nI (u 0 1)), .int (nI (u 0 2)), .int (nI (u 0 3)), .int (nI (u 0 4)), .int (nI (u 0 5)), .int (nI (u 0 6)), .int (nI (u 0 7)), .ref (q 1), .ref (q 2)])), oa cI (q 1) 5 (u 1), oa cI (q 2) 5 (u 2)]
abbrev wT (q : Nat → Nat) (cI : ClassId) (x : Nat → Nat → Nat) : va_W := [(q 0, .inr (3, [.int (nI (x 0 0)), .int (nI (x 0 1)), .int (nI (x 0 2)), .ref (q 1)])), oa cI (q 1) 60 (x 1)]
abbrev wS (q : Nat → Nat) (cI cR : ClassId) (v : Nat → Nat → Nat) : va_W := (q 0, .inr (2, [.ref (q 1), .ref (q 6), .int (nI (v 0 1)), .int (nI (v 0 2))])) :: oq cR (q 6) 4 (fun k => q (7 + 3 * k)) :: (wB (fun k => q (k + 1)) cI v ++ (wR (fun k => q (k + 7)) cI (fun k => v (k + 5)) ++ (wR (fun k => q (k + 10)) cI (fun k => v (k + 8)) ++ (wR (fun k => q (k + 13)) cI (fun k => v (k + 11)) ++ wR (fun k => q (k + 16)) cI (fun k => v (k + 14))))))
/-- the class: o 0 the object, 1 the row of saved states, 2 and 3 the text, 4 the row of what would be taken, 5 .. the state now, 24 .. the saved states; x: comp 0 length, rightLength, expected, oldestSaved, savedCount, comp 1 codes, comp 2 what would be taken -/
abbrev wX (o : Nat → Nat) (cI cS : ClassId) (x : Nat → Nat → Nat) : va_W := [(o 0, .inr (4, [.ref (o 5), .ref (o 1), .int (nI (x 0 3)), .int (nI (x 0 4)), .ref (o 2), .ref (o 4)])), oq cS (o 1) 6 (fun j => o (24 + 19 * j)), (o 2, .inr (3, [.int (nI (x 0 0)), .int (nI (x 0 1)), .int (nI (x 0 2)), .ref (o 3)])), oa cI (o 3) 60 (x 1), oa cI (o 4) 5 (x 2)]
abbrev wV (o : Nat → Nat) (cI cR : ClassId) (V : Nat → Nat → Nat → Nat) : va_W := wS (fun k => o (k + 24)) cI cR (V 0) ++ (wS (fun k => o (k + 43)) cI cR (V 1) ++ (wS (fun k => o (k + 62)) cI cR (V 2) ++ (wS (fun k => o (k + 81)) cI cR (V 3) ++ (wS (fun k => o (k + 100)) cI cR (V 4) ++ wS (fun k => o (k + 119)) cI cR (V 5)))))
abbrev wO (o : Nat → Nat) (cI cR cS : ClassId) (x v : Nat → Nat → Nat) (tl : va_W) : va_W := wX o cI cS x ++ (wS (fun k => o (k + 5)) cI cR v ++ tl)
theorem o_lt3 {r : Nat} (h : r < 3) : r = 0 ∨ r = 1 ∨ r = 2 := by omega
theorem o_lt4 {r : Nat} (h : r < 4) : r = 0 ∨ r = 1 ∨ r = 2 ∨ r = 3 := by omega
theorem o_lt6 {r : Nat} (h : r < 6) : r = 0 ∨ r = 1 ∨ r = 2 ∨ r = 3 ∨ r = 4 ∨ r = 5 := by omega
