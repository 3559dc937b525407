/-! CALLS WHOSE WORLD IS THE END OF THE CALLER'S; what is thrown -/
theorem o_nd_rng : ∀ n s, va_nd (List.range' s n) = true
  | 0, _ => rfl
  | n + 1, s => by
    rw [List.range'_succ]
    simp only [va_nd, Bool.and_eq_true, decide_eq_true_eq]
    refine ⟨fun h => ?_, o_nd_rng n (s + 1)⟩
    have := List.mem_range'_1.mp h
    omega
theorem o_getT (pre ws : va_W) : (List.range' pre.length ws.length).map (fun i => (pre ++ ws)[i]?) = ws.map some := by
  have h := o_get_mid ws pre []
  rw [List.append_nil] at h
  exact h
theorem o_putT (pre ws w1 : va_W) (h : w1.length = ws.length) : o_put (pre ++ ws) (List.range' pre.length ws.length) w1 = pre ++ w1 := by
  have h2 := o_put_mid w1 ws pre [] h
  rw [List.append_nil, List.append_nil, h] at h2
  exact h2
theorem o_PT {D : va_G} {cl : List vw_C} {pre ws : va_W} {H : Heap} (h : va_P D cl (pre ++ ws) H) : va_P D cl ws H := fun k q hk => h (pre.length + k) q (by rw [List.getElem?_append_right (by omega), Nat.add_sub_cancel_left]; exact hk)
theorem o_DT {A : Nat → Prop} {pre ws : va_W} (h : va_D A (pre ++ ws)) : va_D A ws := by
  have e : ∀ (k : Nat) (q : Nat × va_E), ws[k]? = some q → (pre ++ ws)[pre.length + k]? = some q := fun k q hk => by
    rw [List.getElem?_append_right (by omega), Nat.add_sub_cancel_left]
    exact hk
  refine ⟨fun i j p q hi hj hpq => ?_, fun k q hk => h.2 _ q (e k q hk)⟩
  have := h.1 _ _ p q (e i p hi) (e j q hj) hpq
  omega
/-- the words of what is thrown -/
abbrev nmI : String := "java/lang/IndexOutOfBoundsException"
abbrev nmA : String := "java/lang/IllegalArgumentException"
abbrev nmS : String := "java/lang/IllegalStateException"
abbrev nmU : List String := ["java/lang/RuntimeException", "java/lang/Exception"]
abbrev o_strs : List (Nat × String) := [(37, "no such clerk"), (54, "the clerk chalks or waits"), (64, "no such field"), (68, "value is out of range"), (75, "nobody chalks"), (84, "the clerk does not chalk"), (89, "no such reader"), (108, "the reader reads, or has given up"), (117, "the reader does not read"), (155, "no saved state"), (167, "notice is below 0"), (181, "what is not 0 to 2"), (209, "what is not 0 to 7"), (211, "no such reader or field"), (239, "what is not 0 to 8")]
def o_C (U : State) : Prop := (va_Nw (.castable nmI nmI) U ∧ va_Nw (.castable nmA nmA) U ∧ va_Nw (.castable nmS nmS) U) ∧ True ∧ True ∧ True ∧ va_Nw (.declares (Bundle.initS "java/lang/RuntimeException")) U ∧ va_Nw (.declares (Bundle.initS "java/lang/Exception")) U ∧ va_Nw (.declares (Bundle.initS Bundle.tN)) U
def o_St (U : State) : Prop := ∀ q ∈ o_strs, ∃ sa : Nat, vk_R RX4 q.1 q.2 sa U
def o_Z (A : Nat → Prop) (U : State) (H : Heap) : Prop := vx_Zq Bundle.tN "UNASSIGNED_STACK" Bundle.steD A U H ∧ vx_Zq Bundle.tN "SUPPRESSED_SENTINEL" Bundle.listD A U H
def o_G (A : Nat → Prop) (U : State) (H : Heap) : Prop := o_N U ∧ o_C U ∧ o_St U ∧ o_Z A U H
theorem o_C.warm {s U : State} (hW : s.WarmedH U.vm) (h : o_C s) : o_C U := ⟨⟨va_Nw.warmC hW h.1.1, va_Nw.warmC hW h.1.2.1, va_Nw.warmC hW h.1.2.2⟩, trivial, trivial, trivial, va_Nw.warmD hW h.2.2.2.2.1, va_Nw.warmD hW h.2.2.2.2.2.1, va_Nw.warmD hW h.2.2.2.2.2.2⟩
theorem o_C.same {s U : State} (hv : s.vm = U.vm) (h : o_C s) : o_C U := ⟨⟨h.1.1.same rfl hv, h.1.2.1.same rfl hv, h.1.2.2.same rfl hv⟩, trivial, trivial, trivial, h.2.2.2.2.1.same rfl hv, h.2.2.2.2.2.1.same rfl hv, h.2.2.2.2.2.2.same rfl hv⟩
theorem o_CD {A : Array Value} {s : State} (h : o_C s) : ∀ w ∈ ([.declares (Bundle.initS "java/lang/RuntimeException"), .declares (Bundle.initS "java/lang/Exception"), .declares (Bundle.initS Bundle.tN)] : List Cond), w.before A s = true := vx_c (va_Nw.use (A := _) rfl h.2.2.2.2.1) (vx_c (va_Nw.use (A := _) rfl h.2.2.2.2.2.1) (vx_c (va_Nw.use (A := _) rfl h.2.2.2.2.2.2) vx_n))
theorem o_St.warm {s U : State} (hW : s.WarmedH U.vm) (h : o_St s) : o_St U := fun q hq => (h q hq).elim fun sa k => ⟨sa, k.warm hW⟩
theorem o_St.same {s U : State} (hv : s.vm = U.vm) (h : o_St s) : o_St U := fun q hq => (h q hq).elim fun sa k => ⟨sa, k.same hv.symm⟩
theorem o_Z.moved {A : Nat → Prop} {s U : State} {H : Heap} (hv : s.vm.Alike U.vm) (h : o_Z A s H) : o_Z A U H := ⟨h.1.moved hv, h.2.moved hv⟩
theorem o_Z.kept {A : Nat → Prop} {U : State} {H H1 : Heap} (h : o_Z A U H) (hq : ∀ a : Nat, a < H.size → ¬ A a → H1[a]? = H[a]?) : o_Z A U H1 := ⟨h.1.kept hq, h.2.kept hq⟩
theorem o_Z.narrow {A B : Nat → Prop} {U : State} {H : Heap} (h : o_Z A U H) (hAB : ∀ q, B q → A q) : o_Z B U H := ⟨h.1.narrow hAB, h.2.narrow hAB⟩
theorem o_G.warm {A : Nat → Prop} {s U : State} {H : Heap} (hW : s.WarmedH U.vm) (h : o_G A s H) : o_G A U H := ⟨h.1.warm hW, h.2.1.warm hW, h.2.2.1.warm hW, h.2.2.2.moved hW.alike⟩
theorem o_G.same {A : Nat → Prop} {s U : State} {H : Heap} (hv : s.vm = U.vm) (h : o_G A s H) : o_G A U H := ⟨h.1.same hv, h.2.1.same hv, h.2.2.1.same hv, h.2.2.2.moved (by rw [hv]; exact Vm.Alike.refl U.vm)⟩
theorem o_G.narrow {A B : Nat → Prop} {U : State} {H : Heap} (h : o_G A U H) (hAB : ∀ q, B q → A q) : o_G B U H := ⟨h.1, h.2.1, h.2.2.1, h.2.2.2.narrow hAB⟩
theorem o_G.kept {A : Nat → Prop} {U : State} {H0 H : Heap} {locs : List Loc} (h : o_G A U H0) (hS : va_S A H0 H locs) : o_G A U H := ⟨h.1, h.2.1, h.2.2.1, h.2.2.2.kept hS.2.1⟩
abbrev o_no : Nat → Prop := fun _ => False
/-- what a method that throws asks: its world, the tables, and what a throw asks -/
def o_E (D : va_G) (tys : List (ClassId × FieldType)) (W : va_W) : State → Prop := fun U => va_P D vwCl W U.heap ∧ va_K D vwCl tys U ∧ o_G o_no U U.heap
theorem o_pE {s : State} {H : Heap} {D : va_G} {tys : List (ClassId × FieldType)} {av : List Value} {W : va_W} {A : Nat → Prop} (hK : va_K D vwCl tys s) (hG : o_G A s H) (hP : va_P D vwCl W H) : PreS s H (va_Pc av (o_E D tys W)) av :=
  ⟨fun a U g mk q => ⟨q.1, q.2.1, va_K.moved (u := U) (U := U.calling g mk a) (Vm.Alike.refl U.vm) q.2.2.1, o_G.same (s := U) (U := U.calling g mk a) rfl q.2.2.2⟩, fun U hU hW => ⟨rfl, by rw [hU]; exact hP, va_K.moved hW.alike hK, by rw [hU]; exact (hG.warm hW).narrow (fun _ h => h.elim)⟩⟩
/-- what a method that writes, and catches what is thrown, asks -/
def o_F (D : va_G) (tys : List (ClassId × FieldType)) (W : va_W) (sz : Nat) : State → Prop := fun U => U.heap.size = sz ∧ va_P D vwCl W U.heap ∧ va_K D vwCl tys U ∧ va_D (fun _ => True) W ∧ o_G (va_A W sz) U U.heap
theorem o_pF {s : State} {H : Heap} {D : va_G} {tys : List (ClassId × FieldType)} {av : List Value} {W : va_W} {A : Nat → Prop} (hK : va_K D vwCl tys s) (hG : o_G A s H) (hP : va_P D vwCl W H) (hD : va_D A W) (hA : ∀ q, va_A W H.size q → A q) : PreS s H (va_Pc av (o_F D tys W H.size)) av :=
  ⟨fun a U g mk q => ⟨q.1, q.2.1, q.2.2.1, va_K.moved (u := U) (U := U.calling g mk a) (Vm.Alike.refl U.vm) q.2.2.2.1, q.2.2.2.2.1, o_G.same (s := U) (U := U.calling g mk a) rfl q.2.2.2.2.2⟩, fun U hU hW => ⟨rfl, by rw [hU], by rw [hU]; exact hP, va_K.moved hW.alike hK, hD.weaken (fun _ _ _ _ => trivial), by rw [hU]; exact (hG.warm hW).narrow hA⟩⟩
/-- the ends of a method that throws the class E, and nothing else -/
abbrev o_xq : Array Value → State → Outcome → State → Prop := va_Qi (fun (_ : Int32) (_ : Unit) => False) (fun (_ : Unit) (_ : State) => True) o_no
abbrev o_xc (E : String) : String → State → State → Prop := vx_X (fun _ : Unit => True) (fun F _ _ => F = E) o_no
/-- .. that throws nothing -/
abbrev o_x0 : String → State → State → Prop := vx_X (fun _ : Unit => False) (fun _ _ _ => True) o_no
section OBX
variable {p : Program} {l : Launch} {e : Env} {R : Room} {s : State} {m : MethodId} {args : Array Value} {below : List Frame} {meth : Method} {c : Code} {H : Heap} {locs : List Loc} {cells slots : Nat} {Q : State → Prop}
variable {cc : ByteArray} {pc : Nat} {ls : Array Slot} {rest : List Value} {D : va_G} {A : Nat → Prop} {tys : List (ClassId × FieldType)} {ws : va_W} {H0 : Heap}
theorem o_wiT {S : Type} {post : Int32 → S → Prop} {w1 : S → va_W} {a : Array Value} {st0 : List Value} (pre : va_W) (hr : va_Run p l e R s m args below meth c H locs cells slots 0 0 (F0 m pc ls st0) rest (va_Qi post (fun u t => va_P D vwCl (w1 u) t.heap) (va_A ws H.size) a) (va_A ws H.size))
    (hP : va_P D vwCl (pre ++ ws) H) (hD : va_D A (pre ++ ws)) (hS : va_S A H0 H locs) (hA : ∀ q, H0.size ≤ q → A q) (hf : ∀ u, (w1 u).map Prod.fst = ws.map Prod.fst)
    (kk : ∀ (r : Int32) (u : S) (H1 : Heap) (locs1 : List Loc), post r u → va_P D vwCl (pre ++ w1 u) H1 → va_D A (pre ++ w1 u) → va_S A H0 H1 locs1 → W p l e R s m args below meth c H1 locs1 cells slots Q (F0 m (pc + 3) ls (.int r :: rest))) : W p l e R s m args below meth c H locs cells slots Q (F0 m pc ls st0) := by
  refine o_wi hr hP hD hS hA _ (o_nd_rng _ _) (o_getT pre ws) hf (fun r u H1 locs1 h1 h2 h3 h4 => ?_)
  have hl : (w1 u).length = ws.length := by simpa using congrArg List.length (hf u)
  rw [o_putT pre ws (w1 u) hl] at h2 h3
  exact kk r u H1 locs1 h1 h2 h3 h4
theorem o_wlT {S : Type} {post : Int64 → S → Prop} {w1 : S → va_W} {a : Array Value} {st0 : List Value} (pre : va_W) (hr : va_Run p l e R s m args below meth c H locs cells slots 0 0 (F0 m pc ls st0) rest (va_Ql post (fun u t => va_P D vwCl (w1 u) t.heap) (va_A ws H.size) a) (va_A ws H.size))
    (hP : va_P D vwCl (pre ++ ws) H) (hD : va_D A (pre ++ ws)) (hS : va_S A H0 H locs) (hA : ∀ q, H0.size ≤ q → A q) (hf : ∀ u, (w1 u).map Prod.fst = ws.map Prod.fst)
    (kk : ∀ (r : Int64) (u : S) (H1 : Heap) (locs1 : List Loc), post r u → va_P D vwCl (pre ++ w1 u) H1 → va_D A (pre ++ w1 u) → va_S A H0 H1 locs1 → W p l e R s m args below meth c H1 locs1 cells slots Q (F0 m (pc + 3) ls (.long r :: rest))) : W p l e R s m args below meth c H locs cells slots Q (F0 m pc ls st0) := by
  refine o_wl hr hP hD hS hA _ (o_nd_rng _ _) (o_getT pre ws) hf (fun r u H1 locs1 h1 h2 h3 h4 => ?_)
  have hl : (w1 u).length = ws.length := by simpa using congrArg List.length (hf u)
  rw [o_putT pre ws (w1 u) hl] at h2 h3
  exact kk r u H1 locs1 h1 h2 h3 h4
/-- a call that throws: caught by a row of the caller's own table -/
theorem o_cx {E : String} {a : Array Value} {st0 : List Value} (hr : vx_Run p l e R s m args below meth c H locs cells slots 1 6 (F0 m pc ls st0) rest (o_xq a) (o_xc E) o_no) (hP : va_P D vwCl ws H) (hS : va_S A H0 H locs)
    (kx : ∀ (ce : Cell) (q9 : Addr) (H1 : Heap) (locs1 : List Loc), va_P D vwCl ws H1 → va_S A H0 H1 locs1 → H1[q9]? = some ce → ce.vm = .none → s.vm.findClass E = some ce.cls → vx_W p l e R s m args below meth c H1 locs1 (cells + 1) (slots + 6) Q (F0 m pc ls rest) q9) : W p l e R s m args below meth c H locs cells slots Q (F0 m pc ls st0) :=
  vx_calli hr hS (fun _ _ h => h.elim) (fun _ h => h.elim) (fun _ _ h => h.elim) (fun F ce q9 u t H1 locs1 ht hv hp hb hz hk hS1 h1 h2 h3 => by
    have hb : F = E := hb
    subst hb
    exact kx ce q9 H1 locs1 (fun k q hq => (hP k q hq).kept (hk q.1 (hP k q hq).lt (fun z => z.elim))) hS1 h1 h2 h3) (fun r u t H1 locs1 ht hv hp => hp.elim)
/-- a call of a method that catches what is thrown: it writes its own cells, at the end of the caller's world -/
theorem o_xiT {S : Type} {post : Int32 → S → Prop} {w1 : S → va_W} {a : Array Value} {st0 : List Value} {mc ms : Nat} (pre : va_W) (hr : vx_Run p l e R s m args below meth c H locs cells slots mc ms (F0 m pc ls st0) rest (va_Qi post (fun u t => va_P D vwCl (w1 u) t.heap) (va_A ws H.size) a) o_x0 (va_A ws H.size))
    (hP : va_P D vwCl (pre ++ ws) H) (hD : va_D A (pre ++ ws)) (hS : va_S A H0 H locs) (hA : ∀ q, H0.size ≤ q → A q) (hf : ∀ u, (w1 u).map Prod.fst = ws.map Prod.fst)
    (kk : ∀ (r : Int32) (u : S) (H1 : Heap) (locs1 : List Loc), post r u → va_P D vwCl (pre ++ w1 u) H1 → va_D A (pre ++ w1 u) → va_S A H0 H1 locs1 → W p l e R s m args below meth c H1 locs1 (cells + mc) (slots + ms) Q (F0 m (pc + 3) ls (.int r :: rest))) : W p l e R s m args below meth c H locs cells slots Q (F0 m pc ls st0) := by
  have hF := va_free hD hS hA _ (o_getT pre ws)
  refine vx_calli hr hS (fun q _ h => hF q h) hF (fun _ _ h => h.elim) (fun F ce q9 u t H1 locs1 ht hv hp => hp.elim) (fun r u t H1 locs1 ht hvm hw hB hz1 hk1 hS => ?_)
  rw [ht] at hB
  obtain ⟨h1, h2⟩ := o_join hP hD _ (o_nd_rng _ _) (o_getT pre ws) (hf u) hk1 hB
  have hl : (w1 u).length = ws.length := by simpa using congrArg List.length (hf u)
  rw [o_putT pre ws (w1 u) hl] at h1 h2
  exact kk r u H1 locs1 hw h1 h2 hS
end OBX
