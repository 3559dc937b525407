/-! CONSTRUCTORS: what a new object asks, and what is behind it -/
theorem o_ty {D : va_G} {cl : List vw_C} {tys : List (ClassId × FieldType)} {U : State} {a b : ClassId} {ty : FieldType} (h : va_K D cl tys U) {i j : Nat} (hi : tys[i]? = some (a, ty)) (hj : tys[j]? = some (b, ty)) : a = b := by
  have h1 := (h.2 i _ hi).2
  have h2 := (h.2 j _ hj).2
  cases ty with
  | object C =>
    obtain ⟨_, _, _, _, _, e1⟩ := h1
    obtain ⟨_, _, _, _, _, e2⟩ := h2
    exact Option.some.inj (e1.symm.trans e2)
  | _ => exact Option.some.inj (Eq.trans (Eq.symm h1) h2)
def o_ql (l : List Nat) : Nat → Nat := fun k => l.getD k 0
def o_AO (U : State) : Prop := va_AO "OddNotice$Reader" U ∧ va_AO "OddNotice$State" U
theorem o_AO.moved {u U : State} (hv : u.vm.Alike U.vm) (h : o_AO u) : o_AO U := ⟨h.1.moved hv, h.2.moved hv⟩
def o_J (D : va_G) (tys : List (ClassId × FieldType)) (W : va_W) (sz : Nat) : State → Prop := fun U => U.heap.size = sz ∧ va_P D vwCl W U.heap ∧ va_K D vwCl tys U ∧ va_D (fun _ => True) W ∧ o_N U ∧ o_AO U
theorem o_pJ {s : State} {H : Heap} {D : va_G} {tys : List (ClassId × FieldType)} {av : List Value} {W : va_W} {A : Nat → Prop} (hK : va_K D vwCl tys s) (hN : o_N s) (hO : o_AO s) (hP : va_P D vwCl W H) (hD : va_D A W) : PreS s H (va_Pc av (o_J D tys W H.size)) av :=
  ⟨fun a U g mk q => ⟨q.1, q.2.1, q.2.2.1, va_K.moved (u := U) (U := U.calling g mk a) (Vm.Alike.refl U.vm) q.2.2.2.1, q.2.2.2.2.1, o_N.same (s := U) (U := U.calling g mk a) rfl q.2.2.2.2.2.1, o_AO.moved (u := U) (U := U.calling g mk a) (Vm.Alike.refl U.vm) q.2.2.2.2.2.2⟩, fun U hU hW => ⟨rfl, by rw [hU], by rw [hU]; exact hP, va_K.moved hW.alike hK, hD.weaken (fun _ _ _ _ => trivial), hN.warm hW, hO.moved hW.alike⟩⟩
/-- the ends of a constructor: the object's address is the first of u's -/
abbrev o_qJ (D : va_G) (c0 : Nat × va_E) (sz : Nat) (w1 : (Nat → Nat) → va_W) : Array Value → State → Outcome → State → Prop := va_Qv (fun (u : Nat → Nat) => u 0 = c0.1) (fun (u : Nat → Nat) t => va_P D vwCl (w1 u) t.heap ∧ va_D (va_A [c0] sz) (w1 u)) (va_A [c0] sz)
section OBJ
variable {p : Program} {l : Launch} {e : Env} {R : Room} {s : State} {m : MethodId} {args : Array Value} {below : List Frame} {meth : Method} {c : Code} {H : Heap} {locs : List Loc} {cells slots : Nat} {Q : State → Prop}
variable {cc : ByteArray} {pc : Nat} {ls : Array Slot} {rest : List Value} {D : va_G} {A : Nat → Prop} {H0 : Heap}
theorem o_ctor {a : Array Value} {st0 : List Value} {mc ms : Nat} {c0 : Nat × va_E} {w1 : (Nat → Nat) → va_W} (pre : va_W) (hr : va_Run p l e R s m args below meth c H locs cells slots mc ms (F0 m pc ls st0) rest (o_qJ D c0 H.size w1 a) (va_A [c0] H.size))
    (hP : va_P D vwCl (pre ++ [c0]) H) (hD : va_D A (pre ++ [c0])) (hS : va_S A H0 H locs) (hA : ∀ q, H0.size ≤ q → A q)
    (kk : ∀ (u : Nat → Nat) (H1 : Heap) (locs1 : List Loc), u 0 = c0.1 → va_P D vwCl (pre ++ w1 u) H1 → va_D A (pre ++ w1 u) → va_S A H0 H1 locs1 → W p l e R s m args below meth c H1 locs1 (cells + mc) (slots + ms) Q (F0 m (pc + 3) ls rest)) : W p l e R s m args below meth c H locs cells slots Q (F0 m pc ls st0) := by
  have hC : [pre.length].map (fun i => (pre ++ [c0])[i]?) = [c0].map some := by
    show [(pre ++ [c0])[pre.length]?] = [some c0]
    rw [List.getElem?_append_right (Nat.le_refl _), Nat.sub_self]
    rfl
  have hR : (List.range' 0 pre.length).map (fun i => (pre ++ [c0])[i]?) = pre.map some := o_get_mid pre [] [c0]
  have hF := va_free hD hS hA [pre.length] hC
  refine va_callv hr hS (fun q _ h => hF q h) hF (fun u t H1 locs1 ht hvm hw hB hz1 hk1 hS => ?_)
  rw [ht] at hB
  obtain ⟨h1, h2⟩ := va_join (wr := pre) (w1 := w1 u) hP hD [pre.length] (List.range' 0 pre.length) hC hR (o_nd_rng _ _) (fun i hi hm => by
    have := List.mem_range'_1.mp hi
    have := List.mem_singleton.mp hm
    omega) hk1 hF hB.1 hB.2
  exact kk u H1 locs1 hw h1 h2 hS
end OBJ
/-- the numbers of a new state, of the reference's new row -/
abbrev o_zf : Nat → Nat := fun _ => 0
abbrev b_0 : Nat → Nat → Nat := fun k => if k = 3 then va_up (va_up (va_up o_zf 0 4294967295) 1 4294967295) 2 4294967295 else o_zf
abbrev r_0 : Nat → Nat → Nat := fun k => if k = 0 then va_up o_zf 0 1 else o_zf
abbrev s_0 : Nat → Nat → Nat := fun k => if k = 0 then va_up o_zf 2 5 else if k = 3 then va_up (va_up (va_up o_zf 0 4294967295) 1 4294967295) 2 4294967295 else if k = 5 ∨ k = 8 ∨ k = 11 ∨ k = 14 then va_up o_zf 0 1 else o_zf
abbrev x_0 : Nat → Nat → Nat := fun _ => o_zf
/-- a row of references is what it holds at its places -/
theorem o_Pq_eq {D : va_G} {ws : va_W} {H : Heap} {cR : ClassId} {a n : Nat} {f : Nat → Option Nat} {g : Nat → Nat} (hP : va_P D vwCl ws H) (k : Nat) (hk : ws[k]? = some (a, .inl (cR, n, .inr (.inr (.inr (.inr f)))))) (e : ∀ j, j < n → f j = some (g j)) : va_P D vwCl (ws.set k (oq cR a n g)) H := by
  intro j q hj
  have hl := (List.getElem?_eq_some_iff.mp hk).1
  by_cases hjk : j = k
  · subst hjk
    rw [List.getElem?_set_self hl] at hj
    cases hj
    have h : H[a]? = some (vp_cell cR (n, .inr (.inr (.inr (.inr f))))) := hP _ _ hk
    show H[a]? = some (vp_cell cR (n, .inr (.inr (.inr (.inr (fun k => some (g k)))))))
    rw [h, vp_cell_q, vp_cell_q]
    exact congrArg some (o_arrV fun k hk => by rw [e k hk])
  · rw [List.getElem?_set_ne (Ne.symm hjk)] at hj
    exact hP j q hj
/-- a state is what it holds at its nineteen places -/
theorem o_wS_eq {D : va_G} {H : Heap} {cI cR : ClassId} {v : Nat → Nat → Nat} {u u' : Nat → Nat} (h : va_P D vwCl (wS u cI cR v) H) (e : ∀ k, k < 19 → u' k = u k) : va_P D vwCl (wS u' cI cR v) H := by
  have hf : u' = fun k => if k < 19 then u k else u' k := funext fun k => by
    by_cases q : k < 19
    · rw [if_pos q]
      exact e k q
    · rw [if_neg q]
  rw [hf]
  exact o_Pq_eq (g := fun k => if 7 + 3 * k < 19 then u (7 + 3 * k) else u' (7 + 3 * k)) h 1 rfl (fun j hj => by rw [if_pos (by omega)])
