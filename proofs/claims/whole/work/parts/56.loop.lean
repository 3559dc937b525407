set_option maxHeartbeats 4000000 in
set_option maxRecDepth 100000 in
theorem z_body {p : Program} {l : Launch} {e : Env} {s : State} {m : MethodId} {args : Array Value} {below : List Frame} {meth : Method} {c : Code} {Q : State → Prop} {D : va_G} {cI cR cS cL : ClassId} {sb L : Nat} {xs : Nat → Int32} {q o : Nat → Nat} {a i B cells slots : Nat} {H : Heap} {locs : List Loc} {ls : Array Slot} {x v mv : Nat → Nat → Nat} {V : Nat → Nat → Nat → Nat} {g : Nat → Int64} (C : z_C p l s m args c D cI cR cS cL sb L xs) (h : z_S s D q o cI cR cS cL a g x v mv V B H locs) (hl : lv_has ls 9 (z_L i sb a o q)) (hi : i + 3 ≤ L) (hB : B < 2 ^ 27) (hc : cells + 1 ≤ 601024) (hsl : slots + 6 ≤ 7293034) (K : z_N p l e s m args below meth c Q D cI cR cS cL sb q o a i (B + 60) (cells + 1) (slots + 6)) : W p l e room_1 s m args below meth c H locs cells slots Q (F0 m 32 ls []) := by
  have C0 := C
  have h0 := h
  obtain ⟨hx, hb, hml, hown, hts, hK, hfl, hX, hG⟩ := C
  obtain ⟨hP, hD, hS, G⟩ := h
  obtain ⟨k, hk, ek⟩ := o_of (xs i)
  refine lv_aload_n hx hb dL_law_32 rfl (lv_at hl 1 rfl) ?_
  refine lv_iload hx hb dL_law_33 (lv_at hl 0 rfl) ?_
  refine z_ld (y := k) hx hb hX hS (show i < L by omega) ek dL_law_35 ?_
  refine o_bipush (k := 31) hx hb dL_law_36 (by decide) ?_
  refine z_and31 hx hb dL_law_38 hk ?_
  rcases (show k % 32 = 0 ∨ k % 32 = 1 ∨ k % 32 = 2 ∨ k % 32 = 3 ∨ k % 32 = 4 ∨ k % 32 = 5 ∨ k % 32 = 6 ∨ k % 32 = 7 ∨ k % 32 = 8 ∨ k % 32 = 9 ∨ k % 32 = 10 ∨ k % 32 = 11 ∨ k % 32 = 12 ∨ k % 32 = 13 ∨ k % 32 = 14 ∨ k % 32 = 15 ∨ k % 32 = 16 ∨ k % 32 = 17 ∨ k % 32 = 18 ∨ k % 32 = 19 ∨ k % 32 = 20 ∨ k % 32 = 21 ∨ k % 32 = 22 ∨ 22 < k % 32 by omega) with t | t | t | t | t | t | t | t | t | t | t | t | t | t | t | t | t | t | t | t | t | t | t | t
  · rw [t]
    refine lv_tableIn (off := 105) (tgt := 144) hx hb dL_law_39 (by decide +kernel) (by decide +kernel) (by decide +kernel) (by decide) ?_
    exact z_come C0 h0 hl hi hB hc hsl K
  · rw [t]
    refine lv_tableIn (off := 161) (tgt := 200) hx hb dL_law_39 (by decide +kernel) (by decide +kernel) (by decide +kernel) (by decide) ?_
    exact z_chalk C0 h0 hl hi hB hc hsl K
  · rw [t]
    refine lv_tableIn (off := 229) (tgt := 268) hx hb dL_law_39 (by decide +kernel) (by decide +kernel) (by decide +kernel) (by decide) ?_
    exact z_done C0 h0 hl hi hB hc hsl K
  · rw [t]
    refine lv_tableIn (off := 285) (tgt := 324) hx hb dL_law_39 (by decide +kernel) (by decide +kernel) (by decide +kernel) (by decide) ?_
    exact z_reader C0 h0 hl hi hB hc hsl K
  · rw [t]
    refine lv_tableIn (off := 369) (tgt := 408) hx hb dL_law_39 (by decide +kernel) (by decide +kernel) (by decide +kernel) (by decide) ?_
    exact z_begin C0 h0 hl hi hB hc hsl K
  · rw [t]
    refine lv_tableIn (off := 425) (tgt := 464) hx hb dL_law_39 (by decide +kernel) (by decide +kernel) (by decide +kernel) (by decide) ?_
    exact z_look C0 h0 hl hi hB hc hsl K
  · rw [t]
    refine lv_tableIn (off := 481) (tgt := 520) hx hb dL_law_39 (by decide +kernel) (by decide +kernel) (by decide +kernel) (by decide) ?_
    exact z_set C0 h0 hl hi hB hc hsl K
  · rw [t]
    refine lv_tableIn (off := 537) (tgt := 576) hx hb dL_law_39 (by decide +kernel) (by decide +kernel) (by decide +kernel) (by decide) ?_
    exact z_append C0 h0 hl hi hB hc hsl K
  · rw [t]
    refine lv_tableIn (off := 593) (tgt := 632) hx hb dL_law_39 (by decide +kernel) (by decide +kernel) (by decide +kernel) (by decide) ?_
    exact z_clear C0 h0 hl hi hB hc hsl K
  · rw [t]
    refine lv_tableIn (off := 606) (tgt := 645) hx hb dL_law_39 (by decide +kernel) (by decide +kernel) (by decide +kernel) (by decide) ?_
    exact z_err C0 h0 hl hi hB hc hsl K
  · rw [t]
    refine lv_tableIn (off := 619) (tgt := 658) hx hb dL_law_39 (by decide +kernel) (by decide +kernel) (by decide +kernel) (by decide) ?_
    exact z_play C0 h0 hl hi hB hc hsl K
  · rw [t]
    refine lv_tableIn (off := 663) (tgt := 702) hx hb dL_law_39 (by decide +kernel) (by decide +kernel) (by decide +kernel) (by decide) ?_
    exact z_undo C0 h0 hl hi hB hc hsl K
  · rw [t]
    refine lv_tableIn (off := 707) (tgt := 746) hx hb dL_law_39 (by decide +kernel) (by decide +kernel) (by decide +kernel) (by decide) ?_
    exact z_field C0 h0 hl hi hB hc hsl K
  · rw [t]
    refine lv_tableIn (off := 763) (tgt := 802) hx hb dL_law_39 (by decide +kernel) (by decide +kernel) (by decide +kernel) (by decide) ?_
    exact z_notice C0 h0 hl hi hB hc hsl K
  · rw [t]
    refine lv_tableIn (off := 831) (tgt := 870) hx hb dL_law_39 (by decide +kernel) (by decide +kernel) (by decide +kernel) (by decide) ?_
    exact z_clerk C0 h0 hl hi hB hc hsl K
  · rw [t]
    refine lv_tableIn (off := 899) (tgt := 938) hx hb dL_law_39 (by decide +kernel) (by decide +kernel) (by decide +kernel) (by decide) ?_
    exact z_readerOf C0 h0 hl hi hB hc hsl K
  · rw [t]
    refine lv_tableIn (off := 967) (tgt := 1006) hx hb dL_law_39 (by decide +kernel) (by decide +kernel) (by decide +kernel) (by decide) ?_
    exact z_has C0 h0 hl hi hB hc hsl K
  · rw [t]
    refine lv_tableIn (off := 1035) (tgt := 1074) hx hb dL_law_39 (by decide +kernel) (by decide +kernel) (by decide +kernel) (by decide) ?_
    exact z_count C0 h0 hl hi hB hc hsl K
  · rw [t]
    refine lv_tableIn (off := 1091) (tgt := 1130) hx hb dL_law_39 (by decide +kernel) (by decide +kernel) (by decide +kernel) (by decide) ?_
    exact z_ifRead C0 h0 hl hi hB hc hsl K
  · rw [t]
    refine lv_tableIn (off := 1147) (tgt := 1186) hx hb dL_law_39 (by decide +kernel) (by decide +kernel) (by decide +kernel) (by decide) ?_
    exact z_wouldBeHalf C0 h0 hl hi hB hc hsl K
  · rw [t]
    refine lv_tableIn (off := 1203) (tgt := 1242) hx hb dL_law_39 (by decide +kernel) (by decide +kernel) (by decide +kernel) (by decide) ?_
    exact z_busy C0 h0 hl hi hB hc hsl K
  · rw [t]
    refine lv_tableIn (off := 1216) (tgt := 1255) hx hb dL_law_39 (by decide +kernel) (by decide +kernel) (by decide +kernel) (by decide) ?_
    exact z_wellShare C0 h0 hl hi hB hc hsl K
  · rw [t]
    refine lv_tableIn (off := 1257) (tgt := 1296) hx hb dL_law_39 (by decide +kernel) (by decide +kernel) (by decide +kernel) (by decide) ?_
    exact z_digest C0 h0 hl hi hB hc hsl K
  · refine lv_tableOut (tgt := 1310) hx hb dL_law_39 (Or.inr (by rw [nI_toInt (by omega)]; omega)) (by decide) ?_
    refine W.widen (k := cells + 1) (n := slots + 6) (by omega) (by omega) ?_
    exact K _ _ _ _ _ _ _ _ ⟨hP, hD, hS, g_up G (by omega)⟩ hl
theorem z_head {p : Program} {l : Launch} {e : Env} {s : State} {m : MethodId} {args : Array Value} {below : List Frame} {meth : Method} {c : Code} {Q : State → Prop} {D : va_G} {cI cR cS cL : ClassId} {sb L : Nat} {xs : Nat → Int32} {q o : Nat → Nat} {a i cells slots : Nat} {H : Heap} {locs : List Loc} {ls : Array Slot} (C : z_C p l s m args c D cI cR cS cL sb L xs) (hS : va_S (z_A s) s.heap H locs) (hl : lv_has ls 9 (z_L i sb a o q)) (hi : i < 2 ^ 31)
    (kx : W p l e room_1 s m args below meth c H locs cells slots Q (F0 m 1316 ls [])) (kb : i + 3 ≤ L → W p l e room_1 s m args below meth c H locs cells slots Q (F0 m 32 ls [])) : W p l e room_1 s m args below meth c H locs cells slots Q (F0 m 23 ls []) := by
  obtain ⟨hx, hb, hml, hown, hts, hK, hfl, hX, hG⟩ := C
  have hL : L ≤ 1536 := hX.2.2
  refine lv_iload hx hb dL_law_23 (lv_at hl 0 rfl) ?_
  refine lv_aload_n hx hb dL_law_25 rfl (lv_at hl 1 rfl) ?_
  refine va_slen hx hb hX.1 hX.2.1 (fun h => absurd hX.2.1 (Nat.not_lt.mpr h)) hS dL_law_26 ?_
  refine o_const (k := 3) hx hb dL_law_27 (by decide) ?_
  by_cases h3 : 3 ≤ L
  · refine o_isub (a := L) (b := 3) (k := L - 3) hx hb dL_law_28 h3 rfl ?_
    exact o_icmp_gt (tgt := 1316) hx hb dL_law_29 (by decide) hi (by omega) (fun _ => kx) (fun z => kb (by omega))
  · refine lv_isub hx hb dL_law_28 ?_
    have e0 : Int32.ofNat L - nI 3 = nI (4294967293 + L) := by
      rcases (show L = 0 ∨ L = 1 ∨ L = 2 by omega) with rfl | rfl | rfl <;> decide +kernel
    refine o_ti e0 ?_
    exact lv_icmp_gt (tgt := 1316) hx hb dL_law_29 (by decide) (fun _ => kx) (fun z => absurd (o_neg_lt2 (by omega) (by omega) hi) z)
theorem z_loop {p : Program} {l : Launch} {e : Env} {s : State} {m : MethodId} {args : Array Value} {below : List Frame} {meth : Method} {c : Code} {Q : State → Prop} {D : va_G} {cI cR cS cL : ClassId} {sb L : Nat} {xs : Nat → Int32} {q o : Nat → Nat} {a : Nat} (C : z_C p l s m args c D cI cR cS cL sb L xs)
    (E : ∀ (H : Heap) (locs : List Loc) (ls : Array Slot) (cells slots : Nat), va_S (z_A s) s.heap H locs → cells ≤ 601024 → slots ≤ 7293034 → W p l e room_1 s m args below meth c H locs cells slots Q (F0 m 1316 ls [])) :
    ∀ (f i B cells slots : Nat) (H : Heap) (locs : List Loc) (ls : Array Slot) (g : Nat → Int64) (x v mv : Nat → Nat → Nat) (V : Nat → Nat → Nat → Nat), L < i + f → i ≤ 1600 → B + 60 * f < 2 ^ 27 → cells + f ≤ 601024 → slots + 6 * f ≤ 7293034 → z_S s D q o cI cR cS cL a g x v mv V B H locs → lv_has ls 9 (z_L i sb a o q) → W p l e room_1 s m args below meth c H locs cells slots Q (F0 m 23 ls []) := by
  intro f
  induction f with
  | zero =>
    intro i B cells slots H locs ls g x v mv V h1 h2 h3 h4 h5 h6 hl
    exact z_head C h6.2.2.1 hl (by omega) (E _ _ _ _ _ h6.2.2.1 (by omega) (by omega)) (fun z => absurd z (by omega))
  | succ f ih =>
    intro i B cells slots H locs ls g x v mv V h1 h2 h3 h4 h5 h6 hl
    refine z_head C h6.2.2.1 hl (by omega) (E _ _ _ _ _ h6.2.2.1 (by omega) (by omega)) (fun z => ?_)
    have hL : L ≤ 1536 := C.2.2.2.2.2.2.2.1.2.2
    refine z_body C h6 hl z (by omega) (by omega) (by omega) ?_
    intro H locs ls g x v mv V h7 hl
    have hx := C.1
    have hb := C.2.1
    refine lv_iinc (v := nI (i + 3)) (lv' := z_L (i + 3) sb a o q) hx hb dL_law_1310 hl (k := 0) rfl (o_inc2 i) (by decide) rfl (fun ls hl => ?_)
    refine lv_goto (tgt := 23) hx hb dL_law_1313 (by decide) ?_
    exact ih (i + 3) (B + 60) (cells + 1) (slots + 6) H locs ls g x v mv V (by omega) (by omega) (by omega) (by omega) (by omega) h7 hl
