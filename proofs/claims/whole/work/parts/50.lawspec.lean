/-! THE LAW: its world, what stands at each of its steps, the script -/
abbrev z_A (s : State) : Nat → Prop := fun q => s.heap.size ≤ q
abbrev z_W (q o : Nat → Nat) (cI cR cS cL : ClassId) (a : Nat) (g : Nat → Int64) (x v mv : Nat → Nat → Nat) (V : Nat → Nat → Nat → Nat) : va_W := wM q cI mv ++ ([ol cL a 1 g] ++ wO o cI cR cS x v (wV o cI cR V))
abbrev z_L (i sb a : Nat) (o q : Nat → Nat) : List (Nat × Value) := [(4, .int (nI i)), (0, .ref sb), (1, .ref (o 0)), (2, .ref (q 0)), (3, .ref a)]
def z_C (p : Program) (l : Launch) (s : State) (m : MethodId) (args : Array Value) (c : Code) (D : va_G) (cI cR cS cL : ClassId) (sb L : Nat) (xs : Nat → Int32) : Prop :=
  p.tables.exec = Jvm.exec ∧ c.code = cL_law ∧ c.maxLocals = 9 ∧ s.vm.findClass RL = some m.cls ∧ (∀ w ∈ wsL_law, w.before args s = true) ∧ va_K D vwCl (o_T cI cR cS cL) s ∧ l.stackTraces = false ∧ (va_X sb L xs s s.heap ∧ sb < s.heap.size ∧ L ≤ 1536) ∧ o_G (z_A s) s s.heap
def z_S (s : State) (D : va_G) (q o : Nat → Nat) (cI cR cS cL : ClassId) (a : Nat) (g : Nat → Int64) (x v mv : Nat → Nat → Nat) (V : Nat → Nat → Nat → Nat) (B : Nat) (H : Heap) (locs : List Loc) : Prop :=
  va_P D vwCl (z_W q o cI cR cS cL a g x v mv V) H ∧ va_D (z_A s) (z_W q o cI cR cS cL a g x v mv V) ∧ va_S (z_A s) s.heap H locs ∧ p_G B x v V mv
def z_N (p : Program) (l : Launch) (e : Env) (s : State) (m : MethodId) (args : Array Value) (below : List Frame) (meth : Method) (c : Code) (Q : State → Prop) (D : va_G) (cI cR cS cL : ClassId) (sb : Nat) (q o : Nat → Nat) (a i B cells slots : Nat) : Prop :=
  ∀ (H : Heap) (locs : List Loc) (ls : Array Slot) (g : Nat → Int64) (x v mv : Nat → Nat → Nat) (V : Nat → Nat → Nat → Nat), z_S s D q o cI cR cS cL a g x v mv V B H locs → lv_has ls 9 (z_L i sb a o q) → W p l e room_1 s m args below meth c H locs cells slots Q (F0 m 1310 ls [])
theorem z_drop {ls : Array Slot} {n : Nat} {q1 q2 : Nat × Value} {L : List (Nat × Value)} (h : lv_has ls n (q1 :: q2 :: L)) : lv_has ls n L := ⟨h.1, h.2.1, fun q hq => h.2.2 q (List.mem_cons_of_mem _ (List.mem_cons_of_mem _ hq))⟩
theorem z_cmp {x y : Int64} (h : x = y) : lg_cmp x y = nI 0 := by
  subst h
  unfold lg_cmp
  rw [if_neg (fun q => absurd (Int64.lt_iff_toInt_lt.mp q) (Int.lt_irrefl _)), if_pos rfl]
  rfl
theorem z_app2 {v : Nat → Nat → Nat} {c : Nat} : m_app v c 0 2 = mc_app (v 0 1) c := by
  unfold m_app
  split
  · rename_i h
    rw [h]
    rfl
  · rfl
theorem z_un2 {v : Nat → Nat → Nat} : m_undo v 0 2 = if v 0 0 = 0 then 1 else 0 := by
  unfold m_undo
  split <;> rfl
theorem z_pl2 {v : Nat → Nat → Nat} {TX : Nat × Nat × Nat × (Nat → Nat) × Nat} : m_played v TX 0 2 = if TX.2.2.2.2 = 1 then 0 else 1 := by
  unfold m_played
  split <;> rfl
theorem z_tle (tx : Nat → Nat) : ∀ n, (t_st tx n).1 ≤ n
  | 0 => Nat.le_refl 0
  | n + 1 => by
    have h := z_tle tx n
    rw [t_st]
    show (if t_beh (t_st tx n).2 (tx n) = 6 then (t_st tx n).1 else (t_st tx n).1 + 1) ≤ n + 1
    split <;> omega
theorem z_dig {B : Nat} {x v : Nat → Nat → Nat} {V : Nat → Nat → Nat → Nat} {mv : Nat → Nat → Nat} (G : p_G B x v V mv) (hb : B < 2 ^ 28) : c_dig x v = m_dig mv := by
  have gx := g_x G
  obtain ⟨hR, _, hI, hT, _⟩ := id G
  obtain ⟨⟨h1, h2, h3, h4⟩, h5, h6, h7⟩ := hT
  refine p_dig hR hI hb gx.2.1.2.2 h1 (fun k hk => ?_)
  unfold t_code
  rw [if_pos hk]
  exact h5 k (by omega)
section OBZ
variable {p : Program} {l : Launch} {e : Env} {R : Room} {s : State} {m : MethodId} {args : Array Value} {below : List Frame} {meth : Method} {c : Code} {H : Heap} {locs : List Loc} {cells slots : Nat} {Q : State → Prop}
variable {cc : ByteArray} {pc : Nat} {ls : Array Slot} {rest : List Value} {D : va_G} {A : Nat → Prop} {tys : List (ClassId × FieldType)} {ws : va_W} {H0 : Heap}
/-- a number of the script -/
theorem z_ld (hexec : p.tables.exec = Jvm.exec) (hb : c.code = cc) {sb L : Nat} {xs : Nat → Int32} (hX : va_X sb L xs s s.heap ∧ sb < s.heap.size ∧ L ≤ 1536) (hS : va_S (z_A s) s.heap H locs) {j y : Nat} (hj : j < L) (ey : xs j = nI y) (hdg : decode cc pc = .ok (.iaload, 1))
    (kk : W p l e R s m args below meth c H locs cells slots Q (F0 m (pc + 1) ls (.int (nI y) :: rest))) : W p l e R s m args below meth c H locs cells slots Q (F0 m pc ls (.int (nI j) :: .ref sb :: rest)) := by
  obtain ⟨h1, h2, h3⟩ := hX
  refine va_sld hexec hb h1 h2 (fun h => absurd h2 (Nat.not_lt.mpr h)) hS (vp_in_nI hj (by omega)) hdg ?_
  rw [nI_clamp (by omega), ey]
  exact kk
theorem z_and31 (hexec : p.tables.exec = Jvm.exec) (hb : c.code = cc) {a : Nat} (hdg : decode cc pc = .ok (.iand, 1)) (ha : a < 2 ^ 32)
    (K : W p l e R s m args below meth c H locs cells slots Q (F0 m (pc + 1) ls (.int (nI (a % 32)) :: rest))) : W p l e R s m args below meth c H locs cells slots Q (F0 m pc ls (.int (nI 31) :: .int (nI a) :: rest)) := lv_iand hexec hb hdg (o_ti (by rw [pk_andN ha 5 (by decide)]) K)
theorem o_wd {S : Type} {post : UInt64 → S → Prop} {wc : va_W} {w1 : S → va_W} {a : Array Value} {st0 : List Value} (hr : va_Run p l e R s m args below meth c H locs cells slots 0 0 (F0 m pc ls st0) rest (va_Qd post (fun u t => va_P D vwCl (w1 u) t.heap) (va_A wc H.size) a) (va_A wc H.size))
    (hP : va_P D vwCl ws H) (hD : va_D A ws) (hS : va_S A H0 H locs) (hA : ∀ q, H0.size ≤ q → A q) (is : List Nat) (hn : va_nd is = true) (hC : is.map (fun i => ws[i]?) = wc.map some) (hf : ∀ u, (w1 u).map Prod.fst = wc.map Prod.fst)
    (kk : ∀ (r : UInt64) (u : S) (H1 : Heap) (locs1 : List Loc), post r u → va_P D vwCl (o_put ws is (w1 u)) H1 → va_D A (o_put ws is (w1 u)) → va_S A H0 H1 locs1 → W p l e R s m args below meth c H1 locs1 cells slots Q (F0 m (pc + 3) ls (.double r :: rest))) : W p l e R s m args below meth c H locs cells slots Q (F0 m pc ls st0) := by
  have hF := va_free hD hS hA is hC
  refine va_calld hr hS (fun q _ h => hF q h) hF (fun r u t H1 locs1 ht hvm hw hB hz1 hk1 hS => ?_)
  rw [ht] at hB
  obtain ⟨h1, h2⟩ := o_join hP hD is hn hC (hf u) hk1 hB
  exact kk r u H1 locs1 hw h1 h2 hS
end OBZ
