/-! ROWS FOR THE LAW: the script as a method's argument, calls that make cells, compares with what is below 0 -/
def ya_low (a : Int32) (n : Nat) : Nat := a.toBitVec.toNat % 2 ^ 31 % n
theorem ya_low_lt {a : Int32} {n : Nat} (h : 0 < n) : ya_low a n < n := Nat.mod_lt _ h
abbrev ya_S : Type := (Nat → Nat → Nat) × (Nat → Nat → Nat) × (Nat → Nat → Nat → Nat)
abbrev ya_W (o : Nat → Nat) (cI cR cS : ClassId) (x v : Nat → Nat → Nat) (V : Nat → Nat → Nat → Nat) : va_W := wO o cI cR cS x v (wV o cI cR V)
theorem ya_Xm {b L : Nat} {xs : Nat → Int32} {u U : State} {H : Heap} (hvm : u.vm.Alike U.vm) (h : va_X b L xs u H) : va_X b L xs U H := by
  obtain ⟨scr, h1, h2, h3⟩ := h
  exact ⟨scr, h1, State.isArrayOf_alike hvm h2, h3⟩
/-- what the script's readers ask -/
def ya_R (sb L : Nat) (xs : Nat → Int32) : State → Prop := fun U => va_X sb L xs U U.heap ∧ sb < U.heap.size
theorem ya_pR {s : State} {H : Heap} {av : List Value} {sb L : Nat} {xs : Nat → Int32} (h : va_X sb L xs s H) (hs : sb < H.size) : PreS s H (va_Pc av (ya_R sb L xs)) av :=
  ⟨fun a U g mk q => ⟨q.1, ya_Xm (u := U) (U := U.calling g mk a) (Vm.Alike.refl U.vm) q.2.1, q.2.2⟩, fun U hU hW => ⟨rfl, by rw [hU]; exact ya_Xm hW.alike h, by rw [hU]; exact hs⟩⟩
/-- what a method asks that reads the script, and calls what catches -/
def ya_F (D : va_G) (tys : List (ClassId × FieldType)) (W : va_W) (sz sb L : Nat) (xs : Nat → Int32) : State → Prop := fun U => o_F D tys W sz U ∧ va_X sb L xs U U.heap ∧ sb < sz ∧ ¬ va_A W sz sb
theorem ya_pF {s : State} {H : Heap} {D : va_G} {tys : List (ClassId × FieldType)} {av : List Value} {W : va_W} {A : Nat → Prop} {sb L : Nat} {xs : Nat → Int32} (hK : va_K D vwCl tys s) (hG : o_G A s H) (hP : va_P D vwCl W H) (hD : va_D A W) (hA : ∀ q, va_A W H.size q → A q) (hX : va_X sb L xs s H) (hs : sb < H.size) (hn : ¬ va_A W H.size sb) : PreS s H (va_Pc av (ya_F D tys W H.size sb L xs)) av := by
  obtain ⟨h1, h2⟩ := o_pF (av := av) hK hG hP hD hA
  exact ⟨fun a U g mk q => ⟨(h1 a U g mk ⟨q.1, q.2.1⟩).1, (h1 a U g mk ⟨q.1, q.2.1⟩).2, ya_Xm (u := U) (U := U.calling g mk a) (Vm.Alike.refl U.vm) q.2.2.1, q.2.2.2⟩, fun U hU hW => ⟨(h2 U hU hW).1, (h2 U hU hW).2, by rw [hU]; exact ya_Xm hW.alike hX, hs, hn⟩⟩
section OBY
variable {p : Program} {l : Launch} {e : Env} {R : Room} {s : State} {m : MethodId} {args : Array Value} {below : List Frame} {meth : Method} {c : Code} {H : Heap} {locs : List Loc} {cells slots : Nat} {Q : State → Prop}
variable {cc : ByteArray} {pc : Nat} {ls : Array Slot} {rest : List Value} {D : va_G} {A : Nat → Prop} {tys : List (ClassId × FieldType)} {ws : va_W} {H0 : Heap}
theorem ya_wi {S : Type} {post : Int32 → S → Prop} {w1 : S → va_W} {a : Array Value} {st0 : List Value} {mc ms : Nat} (hr : va_Run p l e R s m args below meth c H locs cells slots mc ms (F0 m pc ls st0) rest (va_Qi post (fun u t => va_P D vwCl (w1 u) t.heap) (va_A ws H.size) a) (va_A ws H.size))
    (hD : va_D A ws) (hS : va_S A H0 H locs) (hA : ∀ q, H0.size ≤ q → A q) (hf : ∀ u, (w1 u).map Prod.fst = ws.map Prod.fst)
    (kk : ∀ (r : Int32) (u : S) (H1 : Heap) (locs1 : List Loc), post r u → va_P D vwCl (w1 u) H1 → va_D A (w1 u) → va_S A H0 H1 locs1 → W p l e R s m args below meth c H1 locs1 (cells + mc) (slots + ms) Q (F0 m (pc + 3) ls (.int r :: rest))) : W p l e R s m args below meth c H locs cells slots Q (F0 m pc ls st0) := by
  have hF := va_free hD hS hA _ (o_rng ws)
  refine va_calli hr hS (fun q _ h => hF q h) hF (fun r u t H1 locs1 ht hvm hw hB hz1 hk1 hS => ?_)
  rw [ht] at hB
  exact kk r u H1 locs1 hw hB (o_D_fst (hf u) hD) hS
theorem ya_xi {S : Type} {post : Int32 → S → Prop} {w1 : S → va_W} {a : Array Value} {st0 : List Value} {mc ms : Nat} (hr : vx_Run p l e R s m args below meth c H locs cells slots mc ms (F0 m pc ls st0) rest (va_Qi post (fun u t => va_P D vwCl (w1 u) t.heap) (va_A ws H.size) a) o_x0 (va_A ws H.size))
    (hD : va_D A ws) (hS : va_S A H0 H locs) (hA : ∀ q, H0.size ≤ q → A q) (hf : ∀ u, (w1 u).map Prod.fst = ws.map Prod.fst)
    (kk : ∀ (r : Int32) (u : S) (H1 : Heap) (locs1 : List Loc), post r u → va_P D vwCl (w1 u) H1 → va_D A (w1 u) → va_S A H0 H1 locs1 → W p l e R s m args below meth c H1 locs1 (cells + mc) (slots + ms) Q (F0 m (pc + 3) ls (.int r :: rest))) : W p l e R s m args below meth c H locs cells slots Q (F0 m pc ls st0) := by
  have hF := va_free hD hS hA _ (o_rng ws)
  refine vx_calli hr hS (fun q _ h => hF q h) hF (fun _ _ h => h.elim) (fun F ce q9 u t H1 locs1 ht hv hp => hp.elim) (fun r u t H1 locs1 ht hvm hw hB hz1 hk1 hS => ?_)
  rw [ht] at hB
  exact kk r u H1 locs1 hw hB (o_D_fst (hf u) hD) hS
theorem ya_if_ge_neg (hexec : p.tables.exec = Jvm.exec) (hb : c.code = cc) {a : Nat} {off : Int} {tgt : Nat} (hdg : decode cc pc = .ok (.ifCond .ge off, 3)) (ht : (pc : Int) + off = (tgt : Int)) (h1 : 2 ^ 31 ≤ a) (h2 : a < 2 ^ 32)
    (kf : W p l e R s m args below meth c H locs cells slots Q (F0 m (pc + 3) ls rest)) : W p l e R s m args below meth c H locs cells slots Q (F0 m pc ls (.int (nI a) :: rest)) :=
  lv_if_ge hexec hb hdg ht (fun h => absurd (o_neg_lt h1 h2) (Int32.not_lt.mpr h)) (fun _ => kf)
theorem ya_neg_lt {a b : Nat} (h1 : 2 ^ 31 ≤ a) (h2 : a < 2 ^ 32) (hb : b < 2 ^ 31) : nI a < nI b := Int32.lt_iff_toInt_lt.mpr (by
  have := o_neg h1 h2
  rw [nI_toInt hb]
  omega)
theorem ya_icmp_gt_neg (hexec : p.tables.exec = Jvm.exec) (hb : c.code = cc) {a b : Nat} {off : Int} {tgt : Nat} (hdg : decode cc pc = .ok (.if_icmp .gt off, 3)) (ht : (pc : Int) + off = (tgt : Int)) (h1 : 2 ^ 31 ≤ a) (h2 : a < 2 ^ 32) (hb2 : b < 2 ^ 31)
    (kf : W p l e R s m args below meth c H locs cells slots Q (F0 m (pc + 3) ls rest)) : W p l e R s m args below meth c H locs cells slots Q (F0 m pc ls (.int (nI b) :: .int (nI a) :: rest)) :=
  lv_icmp_gt hexec hb hdg ht (fun h => (by have h3 := Int32.lt_iff_toInt_lt.mp h; have h4 := Int32.lt_iff_toInt_lt.mp (ya_neg_lt h1 h2 hb2); omega : False).elim) (fun _ => kf)
theorem ya_icmp_lt_neg (hexec : p.tables.exec = Jvm.exec) (hb : c.code = cc) {a b : Nat} {off : Int} {tgt : Nat} (hdg : decode cc pc = .ok (.if_icmp .lt off, 3)) (ht : (pc : Int) + off = (tgt : Int)) (h1 : 2 ^ 31 ≤ a) (h2 : a < 2 ^ 32) (hb2 : b < 2 ^ 31)
    (kt : W p l e R s m args below meth c H locs cells slots Q (F0 m tgt ls rest)) : W p l e R s m args below meth c H locs cells slots Q (F0 m pc ls (.int (nI b) :: .int (nI a) :: rest)) :=
  lv_icmp_lt hexec hb hdg ht (fun _ => kt) (fun h => absurd (ya_neg_lt h1 h2 hb2) h)
end OBY
theorem ya_pT {s : State} {H : Heap} {av : List Value} : PreS s H (va_Pc av (fun _ => True)) av := ⟨fun a U g mk q => ⟨q.1, trivial⟩, fun U hU hW => ⟨rfl, trivial⟩⟩
theorem o_lvset {ls : Array Slot} {nL : Nat} {l : List (Nat × Value)} (h : lv_has ls nL l) (k : Nat) {i : Nat} {v v' : Value} (hk : l[k]? = some (i, v)) (hv : v = v') : lv_has ls nL (l.set k (i, v')) := by
  refine ⟨h.1, h.2.1, fun q hq => ?_⟩
  obtain ⟨j, hj⟩ := List.getElem?_of_mem hq
  have hl := (List.getElem?_eq_some_iff.mp hk).1
  by_cases hjk : j = k
  · subst hjk
    rw [List.getElem?_set_self hl] at hj
    cases hj
    rw [← hv]
    exact h.2.2 _ (List.mem_of_getElem? hk)
  · rw [List.getElem?_set_ne (Ne.symm hjk)] at hj
    exact h.2.2 _ (List.mem_of_getElem? hj)
