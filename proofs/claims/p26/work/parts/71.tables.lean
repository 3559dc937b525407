theorem z_arr {args : Array Value} {s : State} {ty : FieldType} (h : (Cond.arrayClass ty).before args s = true) : ∃ c : ClassId, ArrOfT s c ty ∧ s.vm.findClass ("[" ++ ty.toString) = some c := by
  obtain ⟨c, k, comp, h1, h2, h3⟩ := Cond.arrayClass_spec h
  exact ⟨c, fun n z => ⟨(fun k h => by cases h), k, h2, comp, h3⟩, h1⟩
theorem z_rows {args : Array Value} {s : State} {C : String} (h : (Cond.arrayOver (.object C)).before args s = true) : ∃ c : ClassId, ArrOfT s c (.object C) ∧ va_RA s c (.object C) := by
  obtain ⟨comp, c, k, h1, _, h3, h4, h5⟩ := Cond.arrayOver_spec h
  exact ⟨c, fun n z => ⟨(fun k h => by cases h), k, h3, comp, h4⟩, k, comp, h3, h4, h1, h5⟩
theorem z_str {args : Array Value} {s : State} {k : Nat} {tx : String} (h1 : (Cond.stringRef RX4 k tx).before args s = true) (h2 : (Cond.exactly (.string RX4 k) "java/lang/String").before args s = true) : ∃ sa : Nat, vk_R RX4 k tx sa s := by
  obtain ⟨a, _, _, _, h, _⟩ := Cond.exactly_spec h2
  exact ⟨a, vk_R.of h1 h⟩
set_option maxRecDepth 100000 in
set_option maxHeartbeats 8000000 in
theorem z_strs {args : Array Value} {s : State} (ht : ∀ w ∈ lw_tbl, w.before args s = true) (hn : ∀ w ∈ flatC (Jvm.Cond.and given_1 narrow_1), w.before args s = true) : o_St s := by
  unfold o_St
  exact (List.forall_mem_cons.mpr ⟨z_str (ht (.stringRef RX4 37 "no such clerk") (by decide +kernel)) (hn (.exactly (.string RX4 37) "java/lang/String") (by decide +kernel)), (List.forall_mem_cons.mpr ⟨z_str (ht (.stringRef RX4 54 "the clerk chalks or waits") (by decide +kernel)) (hn (.exactly (.string RX4 54) "java/lang/String") (by decide +kernel)), (List.forall_mem_cons.mpr ⟨z_str (ht (.stringRef RX4 64 "no such field") (by decide +kernel)) (hn (.exactly (.string RX4 64) "java/lang/String") (by decide +kernel)), (List.forall_mem_cons.mpr ⟨z_str (ht (.stringRef RX4 68 "value is out of range") (by decide +kernel)) (hn (.exactly (.string RX4 68) "java/lang/String") (by decide +kernel)), (List.forall_mem_cons.mpr ⟨z_str (ht (.stringRef RX4 75 "nobody chalks") (by decide +kernel)) (hn (.exactly (.string RX4 75) "java/lang/String") (by decide +kernel)), (List.forall_mem_cons.mpr ⟨z_str (ht (.stringRef RX4 84 "the clerk does not chalk") (by decide +kernel)) (hn (.exactly (.string RX4 84) "java/lang/String") (by decide +kernel)), (List.forall_mem_cons.mpr ⟨z_str (ht (.stringRef RX4 89 "no such reader") (by decide +kernel)) (hn (.exactly (.string RX4 89) "java/lang/String") (by decide +kernel)), (List.forall_mem_cons.mpr ⟨z_str (ht (.stringRef RX4 108 "the reader reads, or has given up") (by decide +kernel)) (hn (.exactly (.string RX4 108) "java/lang/String") (by decide +kernel)), (List.forall_mem_cons.mpr ⟨z_str (ht (.stringRef RX4 117 "the reader does not read") (by decide +kernel)) (hn (.exactly (.string RX4 117) "java/lang/String") (by decide +kernel)), (List.forall_mem_cons.mpr ⟨z_str (ht (.stringRef RX4 155 "no saved state") (by decide +kernel)) (hn (.exactly (.string RX4 155) "java/lang/String") (by decide +kernel)), (List.forall_mem_cons.mpr ⟨z_str (ht (.stringRef RX4 167 "notice is below 0") (by decide +kernel)) (hn (.exactly (.string RX4 167) "java/lang/String") (by decide +kernel)), (List.forall_mem_cons.mpr ⟨z_str (ht (.stringRef RX4 181 "what is not 0 to 2") (by decide +kernel)) (hn (.exactly (.string RX4 181) "java/lang/String") (by decide +kernel)), (List.forall_mem_cons.mpr ⟨z_str (ht (.stringRef RX4 209 "what is not 0 to 7") (by decide +kernel)) (hn (.exactly (.string RX4 209) "java/lang/String") (by decide +kernel)), (List.forall_mem_cons.mpr ⟨z_str (ht (.stringRef RX4 211 "no such reader or field") (by decide +kernel)) (hn (.exactly (.string RX4 211) "java/lang/String") (by decide +kernel)), (List.forall_mem_cons.mpr ⟨z_str (ht (.stringRef RX4 239 "what is not 0 to 8") (by decide +kernel)) (hn (.exactly (.string RX4 239) "java/lang/String") (by decide +kernel)), (fun _ h => absurd h List.not_mem_nil)⟩)⟩)⟩)⟩)⟩)⟩)⟩)⟩)⟩)⟩)⟩)⟩)⟩)⟩)⟩)
set_option maxRecDepth 100000 in
set_option maxHeartbeats 8000000 in
theorem z_tables {args : Array Value} {s : State} (ht : ∀ w ∈ lw_tbl, w.before args s = true) (hn : ∀ w ∈ flatC (Jvm.Cond.and given_1 narrow_1), w.before args s = true) : o_G (z_A s) s s.heap ∧ o_AO s := by
  have hA : ∀ a : Nat, a < s.heap.size → ¬ z_A s a := fun a h1 h2 => absurd h1 (Nat.not_lt.mpr h2)
  refine ⟨⟨⟨va_Nw.of rfl (ht (.methodLinkNest RX2 28 yX1_init RX4) (by decide +kernel)), va_Nw.of rfl (ht (.methodLinkNest RX2 28 yX1_init RX4) (by decide +kernel)), va_Nw.of rfl (ht (.methodLinkNest RX4 22 yX3_init RX4) (by decide +kernel))⟩, ⟨⟨va_Nw.of rfl (ht (.castable nmI nmI) (by decide +kernel)), va_Nw.of rfl (ht (.castable nmA nmA) (by decide +kernel)), va_Nw.of rfl (ht (.castable nmS nmS) (by decide +kernel))⟩, trivial, trivial, trivial, va_Nw.of rfl (ht (.declares (Bundle.initS "java/lang/RuntimeException")) (by decide +kernel)), va_Nw.of rfl (ht (.declares (Bundle.initS "java/lang/Exception")) (by decide +kernel)), va_Nw.of rfl (ht (.declares (Bundle.initS Bundle.tN)) (by decide +kernel))⟩, z_strs ht hn, vx_Zqof (ht (.laysStatic Bundle.tN "UNASSIGNED_STACK" Bundle.steD) (by decide +kernel)) (ht (.initialized Bundle.tN) (by decide +kernel)) (hn (.isRef (.static Bundle.tN "UNASSIGNED_STACK" Bundle.steD)) (by decide +kernel)) hA, vx_Zqof (ht (.laysStatic Bundle.tN "SUPPRESSED_SENTINEL" Bundle.listD) (by decide +kernel)) (ht (.initialized Bundle.tN) (by decide +kernel)) (hn (.isRef (.static Bundle.tN "SUPPRESSED_SENTINEL" Bundle.listD)) (by decide +kernel)) hA⟩, va_AO.of (ht (.arrayOver (.object "OddNotice$Reader")) (by decide +kernel)), va_AO.of (ht (.arrayOver (.object "OddNotice$State")) (by decide +kernel))⟩
set_option maxRecDepth 100000 in
set_option maxHeartbeats 8000000 in
theorem z_known {args : Array Value} {s : State} (ht : ∀ w ∈ lw_tbl, w.before args s = true) : ∃ (D : va_G) (cI cR cS cL : ClassId), va_K D vwCl (o_T cI cR cS cL) s := by
  have hts : ∀ w ∈ wsL_law, w.before args s = true := fun w h => ht w (wsL_law_in w h)
  obtain ⟨c0, i0, k0⟩ := u_known (C := RX0) (T := TX0) (N := 5) (n := 5) hts inlX0 (ht (.instantiable RX0 5) (by decide +kernel))
  obtain ⟨c1, i1, k1⟩ := u_known (C := RX1) (T := TX1) (N := 10) (n := 10) hts inlX1 (ht (.instantiable RX1 10) (by decide +kernel))
  obtain ⟨c2, i2, k2⟩ := u_known (C := RX2) (T := TX2) (N := 4) (n := 4) hts inlX2 (ht (.instantiable RX2 4) (by decide +kernel))
  obtain ⟨c3, i3, k3⟩ := u_known (C := RX3) (T := TX3) (N := 4) (n := 4) hts inlX3 (ht (.instantiable RX3 4) (by decide +kernel))
  obtain ⟨c4, i4, k4⟩ := u_known (C := RX4) (T := TX4) (N := 6) (n := 6) hts inlX4 (ht (.instantiable RX4 6) (by decide +kernel))
  obtain ⟨cI, a1, a2⟩ := z_arr (ty := .int) (ht (.arrayClass .int) (by decide +kernel))
  obtain ⟨cL, b1, b2⟩ := z_arr (ty := .byte) (ht (.arrayClass .byte) (by decide +kernel))
  obtain ⟨cR, d1, d2⟩ := z_rows (ht (.arrayOver (.object "OddNotice$Reader")) (by decide +kernel))
  obtain ⟨cS, f1, f2⟩ := z_rows (ht (.arrayOver (.object "OddNotice$State")) (by decide +kernel))
  refine ⟨(fun c => if c = 0 then c0 else if c = 1 then c1 else if c = 2 then c2 else if c = 3 then c3 else c4, fun c => if c = 0 then i0 else if c = 1 then i1 else if c = 2 then i2 else if c = 3 then i3 else i4), cI, cR, cS, cL, fun c q hq => ?_, fun k q hq => ?_⟩
  · have hl : c < 5 := (List.getElem?_eq_some_iff.mp hq).1
    rcases (show c = 0 ∨ c = 1 ∨ c = 2 ∨ c = 3 ∨ c = 4 by omega) with rfl | rfl | rfl | rfl | rfl
    · have hq : some (RX0, TX0, 5) = some q := hq
      obtain rfl := Option.some.inj hq
      exact k0
    · have hq : some (RX1, TX1, 10) = some q := hq
      obtain rfl := Option.some.inj hq
      exact k1
    · have hq : some (RX2, TX2, 4) = some q := hq
      obtain rfl := Option.some.inj hq
      exact k2
    · have hq : some (RX3, TX3, 4) = some q := hq
      obtain rfl := Option.some.inj hq
      exact k3
    · have hq : some (RX4, TX4, 6) = some q := hq
      obtain rfl := Option.some.inj hq
      exact k4
  · have hl : k < 4 := (List.getElem?_eq_some_iff.mp hq).1
    rcases (show k = 0 ∨ k = 1 ∨ k = 2 ∨ k = 3 by omega) with rfl | rfl | rfl | rfl
    · have hq : some (cI, FieldType.int) = some q := hq
      obtain rfl := Option.some.inj hq
      exact ⟨a1, a2⟩
    · have hq : some (cR, FieldType.object "OddNotice$Reader") = some q := hq
      obtain rfl := Option.some.inj hq
      exact ⟨d1, d2⟩
    · have hq : some (cS, FieldType.object "OddNotice$State") = some q := hq
      obtain rfl := Option.some.inj hq
      exact ⟨f1, f2⟩
    · have hq : some (cL, FieldType.byte) = some q := hq
      obtain rfl := Option.some.inj hq
      exact ⟨b1, b2⟩
theorem z_flags (l : Launch) (hflags : l.flags = flags0) : l.stackTraces = false := by
  unfold Launch.stackTraces
  rw [hflags]
  decide +kernel
