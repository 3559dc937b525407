/-! ===== lN n to 2^64: shifts, and, or, masks, one bit ===== -/
theorem wb_tb (n : Nat) : (lN n).toBitVec = BitVec.ofNat 64 n := rfl
theorem wb_inj {a b : Int64} (h : a.toBitVec = b.toBitVec) : a = b := Int64.toBitVec_inj.mp h
theorem wb_tn {n : Nat} (h : n < 2 ^ 64) : (lN n).toBitVec.toNat = n := by rw [wb_tb, BitVec.toNat_ofNat, Nat.mod_eq_of_lt h]
theorem wb_of (x : Int64) : ∃ n, n < 2 ^ 64 ∧ x = lN n := ⟨x.toBitVec.toNat, x.toBitVec.isLt, wb_inj (by rw [wb_tb]; simp)⟩
theorem wb_of32 (x : Int32) : ∃ n, n < 2 ^ 32 ∧ x = nI n := ⟨x.toBitVec.toNat, x.toBitVec.isLt, Int32.toBitVec_inj.mp (by show _ = BitVec.ofNat 32 _; simp)⟩
theorem wb_c : ∀ k, k < 64 → ((nI k).toInt64 &&& 63) = lN k := by decide +kernel
theorem wb_cu : ∀ k, k < 64 → ((nI k).toInt64.toUInt64 &&& Int64.toUInt64 63) = UInt64.ofNat k := by decide +kernel
theorem wb_sm : ∀ k, k < 64 → (BitVec.ofNat 64 k).smod 64 = BitVec.ofNat 64 k := by decide +kernel
theorem wb_pw {a b : Nat} (h : a ≤ b) : 2 ^ b = 2 ^ a * 2 ^ (b - a) := by rw [← Nat.pow_add]; congr 1; omega
theorem wb_lt2 {a b : Nat} (h : a < b) : 2 ^ a < 2 ^ b := Nat.pow_lt_pow_right (by decide) h
theorem wb_mod (n : Nat) : lN n = lN (n % 2 ^ 64) := wb_inj (by rw [wb_tb, wb_tb]; apply BitVec.eq_of_toNat_eq; rw [BitVec.toNat_ofNat, BitVec.toNat_ofNat, Nat.mod_mod])
theorem wb_shl (n : Nat) {k : Nat} (hk : k < 64) : lN n <<< ((nI k).toInt64 &&& 63) = lN (n * 2 ^ k) := by
  rw [wb_c k hk]
  apply wb_inj
  rw [Int64.toBitVec_shiftLeft, wb_tb, wb_tb, wb_tb, wb_sm k hk]
  apply BitVec.eq_of_toNat_eq
  rw [BitVec.shiftLeft_eq', BitVec.toNat_shiftLeft, BitVec.toNat_ofNat, BitVec.toNat_ofNat, BitVec.toNat_ofNat, Nat.mod_eq_of_lt (show k < 2 ^ 64 by omega), Nat.shiftLeft_eq, Nat.mul_mod, Nat.mod_mod, ← Nat.mul_mod]
/-! DOUBLES FROM 0 TO 1 BY THEIR BITS -/
theorem u_tn {n : Nat} (h : n < 2 ^ 64) : (UInt64.ofNat n).toNat = n := UInt64.toNat_ofNat_of_lt' (by simpa using h)
theorem f_val {n : Nat} (h1 : 4503599627370496 ≤ n) (h2 : n < 2047 * 4503599627370496) : FP.Core.val64 (UInt64.ofNat n) = .fin false (4503599627370496 + n % 4503599627370496) (-1074 + (((n / 4503599627370496 : Nat) : Int) - 1)) := by
  have hE : FP.Core.fieldE FP.Core.b64 n = n / 4503599627370496 := by
    unfold FP.Core.fieldE
    rw [FP.Core.tails_b64]
    show n / 4503599627370496 % 2048 = n / 4503599627370496
    omega
  have hT : FP.Core.fieldT FP.Core.b64 n = n % 4503599627370496 := by
    unfold FP.Core.fieldT
    rw [FP.Core.tails_b64]
  have hS : FP.Core.fieldS FP.Core.b64 n = false := by
    unfold FP.Core.fieldS
    rw [FP.Core.tails_b64]
    show (n / 4503599627370496 / 2048 % 2 == 1) = false
    rw [show n / 4503599627370496 / 2048 = 0 by omega]
    rfl
  unfold FP.Core.val64
  rw [u_tn (by omega)]
  unfold FP.Core.decode
  rw [hE, hT, hS, FP.Core.exps_b64, if_neg (by omega), if_neg (by omega), FP.Core.tails_b64, FP.Core.qmin_b64]
theorem f_nn {x : UInt64} {s : Bool} {c : Nat} {q : Int} (h : FP.Core.val64 x = .fin s c q) : vf_n64 x := o_n64 ((FP.Core.notNaN_iff x).mpr (by rw [h]; intro z; cases z))
theorem f_two : FP.Core.val64 4611686018427387904 = .fin false 4503599627370496 (-51) := by decide +kernel
theorem f_big : FP.Core.val64 4841369599423283200 = .fin false 4503599627370496 0 := by decide +kernel
theorem f_one : FP.Core.val64 FP.dconst1 = .fin false 4503599627370496 (-52) := by decide +kernel
theorem f_qmax : FP.Core.b64.qmax = 971 := by decide +kernel
theorem f_p : (2 : Nat) ^ FP.Core.b64.p = 9007199254740992 := by decide +kernel
theorem f_fits {c : Nat} {q : Int} (h1 : 4503599627370496 ≤ c) (h2 : c < 9007199254740992) (h3 : -1074 ≤ q) (h4 : q ≤ 971) : FP.Core.fits FP.Core.b64 (.fin false c q) := by
  show c < 2 ^ FP.Core.b64.p ∧ FP.Core.b64.qmin ≤ q ∧ q ≤ FP.Core.b64.qmax ∧ (q = FP.Core.b64.qmin ∨ FP.Core.b64.tails ≤ c)
  rw [f_p, f_qmax, FP.Core.qmin_b64, FP.Core.tails_b64]
  exact ⟨h2, h3, h4, Or.inr h1⟩
theorem f_dbl {n : Nat} (h1 : 4503599627370496 ≤ n) (h2 : n < 2046 * 4503599627370496) : FP.dmul (UInt64.ofNat n) 4611686018427387904 = UInt64.ofNat (n + 4503599627370496) := by
  have e : FP.Core.val64 (FP.dmul (UInt64.ofNat n) 4611686018427387904) = FP.Core.val64 (UInt64.ofNat (n + 4503599627370496)) := by
    rw [f_val (n := n + 4503599627370496) (by omega) (by omega)]
    refine (FP.Core.val64_dmul _ _).trans ?_
    rw [f_val h1 (by omega), f_two]
    show FP.Core.roundRatio FP.Core.b64 (false != false) ((4503599627370496 + n % 4503599627370496) * 4503599627370496) 1 (-1074 + (((n / 4503599627370496 : Nat) : Int) - 1) + -51) = _
    refine FP.Core.roundRatio_exact FP.Core.good_b64 (by decide) (f_fits (by omega) (by omega) (by omega) (by omega)) ?_
    rw [show (-1074 + (((n / 4503599627370496 : Nat) : Int) - 1) + -51 - (-1074 + ((((n + 4503599627370496) / 4503599627370496 : Nat) : Int) - 1))).toNat = 0 by omega, show (-1074 + ((((n + 4503599627370496) / 4503599627370496 : Nat) : Int) - 1) - (-1074 + (((n / 4503599627370496 : Nat) : Int) - 1) + -51)).toNat = 52 by omega, show (n + 4503599627370496) % 4503599627370496 = n % 4503599627370496 by omega]
    omega
  refine FP.Core.val64_inj ?_ e
  rw [e, f_val (by omega) (by omega)]
  intro z
  cases z
theorem f_dbl_n {n : Nat} (h1 : 4503599627370496 ≤ n) (h2 : n < 2046 * 4503599627370496) : vf_n64 (FP.dmul (UInt64.ofNat n) 4611686018427387904) := by
  rw [f_dbl h1 h2]
  exact f_nn (f_val (n := n + 4503599627370496) (by omega) (by omega))
theorem f_key {n : Nat} (h : n < 2 ^ 63) : FP.Core.dkey (UInt64.ofNat n) = (n : Int) := by
  unfold FP.Core.dkey
  rw [u_tn (by omega), if_neg (by omega)]
theorem f_key1 : FP.Core.dkey FP.dconst1 = 4607182418800017408 := by decide +kernel
theorem f_key0 : FP.Core.dkey FP.dconst0 = 0 := by decide +kernel
theorem f_ne {n : Nat} (h : n ≤ 9218868437227405312) : FP.Core.val64 (UInt64.ofNat n) ≠ .nan := (FP.Core.ne_nan _).mpr (by rw [u_tn (by omega)]; omega)
theorem f_cmp {n : Nat} {y : UInt64} {k : Int} (h : n ≤ 9218868437227405312) (hy : FP.Core.val64 y ≠ .nan) (hk : FP.Core.dkey y = k) : ((n : Int) < k ∧ Op.cmpValue (FP.dcmp (UInt64.ofNat n) y) .g = -1) ∨ ((n : Int) = k ∧ Op.cmpValue (FP.dcmp (UInt64.ofNat n) y) .g = 0) ∨ (k < (n : Int) ∧ Op.cmpValue (FP.dcmp (UInt64.ofNat n) y) .g = 1) := by
  have e : FP.dcmp (UInt64.ofNat n) y = some (compare (n : Int) k) := by
    refine (FP.Core.dcmp_key (f_ne h) hy).trans ?_
    rw [f_key (by omega), hk]
  rw [e]
  rcases Int.lt_trichotomy (n : Int) k with q | q | q
  · rw [(FP.Core.compare_lt_iff _ _).mpr q]
    exact Or.inl ⟨q, rfl⟩
  · rw [(FP.Core.compare_eq_iff _ _).mpr q]
    exact Or.inr (Or.inl ⟨q, rfl⟩)
  · rw [(FP.Core.compare_gt_iff _ _).mpr q]
    exact Or.inr (Or.inr ⟨q, rfl⟩)
theorem f_ge1 {n : Nat} (h : n ≤ 9218868437227405312) : 0 ≤ Op.cmpValue (FP.dcmp (UInt64.ofNat n) FP.dconst1) .g ↔ ¬ n < 4607182418800017408 := by
  rcases f_cmp h (y := FP.dconst1) (by rw [f_one]; intro z; cases z) f_key1 with ⟨q, e⟩ | ⟨q, e⟩ | ⟨q, e⟩ <;> rw [e]
  · exact ⟨fun z => absurd z (by decide), fun z => absurd (show n < 4607182418800017408 by omega) z⟩
  · exact ⟨fun _ => by omega, fun _ => by decide⟩
  · exact ⟨fun _ => by omega, fun _ => by decide⟩
theorem f_gt0 {n : Nat} (h : n ≤ 9218868437227405312) : 0 < Op.cmpValue (FP.dcmp (UInt64.ofNat n) FP.dconst0) .g ↔ ¬ n = 0 := by
  rcases f_cmp h (y := FP.dconst0) (by decide +kernel) f_key0 with ⟨q, e⟩ | ⟨q, e⟩ | ⟨q, e⟩ <;> rw [e]
  · omega
  · exact ⟨fun z => absurd z (by decide), fun z => absurd (show n = 0 by omega) z⟩
  · exact ⟨fun _ => by omega, fun _ => by decide⟩
theorem f_sub0 (c d : Nat) (q : Int) (h : d ≤ c) : FP.Core.exactSum (.fin false c q) (FP.Core.negate (.fin false d q)) = .fin false (c - d) q := by
  have hm : min q q = q := Int.min_self q
  have hv : FP.Core.sumUnits false c q true d q (min q q) = ((c - d : Nat) : Int) := by
    unfold FP.Core.sumUnits FP.Core.inUnits FP.Core.signed
    rw [hm, Int.sub_self, Int.toNat_zero, Nat.pow_zero, Nat.mul_one, Nat.mul_one, if_neg (by decide), if_pos rfl]
    omega
  show FP.Core.Datum.fin (FP.Core.sumSign false true (FP.Core.sumUnits false c q true d q (min q q))) (FP.Core.sumUnits false c q true d q (min q q)).natAbs (min q q) = _
  rw [hv, hm]
  have hs : FP.Core.sumSign false true ((c - d : Nat) : Int) = false := by
    unfold FP.Core.sumSign
    split
    · rfl
    · exact decide_eq_false (by omega)
  rw [hs]
  rfl
theorem f_sub {m : Nat} (h1 : 4607182418800017408 ≤ m) (h2 : m < 4611686018427387904) : FP.Core.val64 (FP.dsub (UInt64.ofNat m) FP.dconst1) = FP.Core.round FP.Core.b64 (.fin false (m - 4607182418800017408) (-52)) := by
  refine (FP.Core.val64_dsub _ _).trans ?_
  rw [f_val (by omega) (by omega), show FP.Core.val64 FP.dconst1 = .fin false 4503599627370496 (-52) from f_one, show (-1074 + (((m / 4503599627370496 : Nat) : Int) - 1)) = -52 by omega, f_sub0 _ _ _ (Nat.le_add_right _ _), Nat.add_sub_cancel_left, show m % 4503599627370496 = m - 4607182418800017408 by omega]
theorem f_sub2 {m : Nat} (h1 : 4607182418800017408 ≤ m) (h2 : m < 4611686018427387904) : ∃ c q, FP.Core.val64 (FP.dsub (UInt64.ofNat m) FP.dconst1) = .fin false c q ∧ -1074 ≤ q ∧ c * 2 ^ (q + 1074).toNat = (m - 4607182418800017408) * 2 ^ 1022 := by
  obtain ⟨c, q, e1, e2⟩ := FP.Core.round_exact FP.Core.good_b64 false (c := m - 4607182418800017408) (q := -52) (by rw [f_p]; omega) (by rw [FP.Core.qmin_b64]; omega) (by rw [f_qmax]; omega)
  have e := (f_sub h1 h2).trans e1
  have hf := FP.Core.val64_fits (FP.dsub (UInt64.ofNat m) FP.dconst1)
  rw [e] at hf
  have hq : FP.Core.b64.qmin ≤ q := hf.2.1
  rw [FP.Core.qmin_b64] at hq e2
  unfold FP.Core.inUnits at e2
  rw [show (q - -1074).toNat = (q + 1074).toNat by omega, show ((-52 : Int) - -1074).toNat = 1022 from rfl] at e2
  exact ⟨c, q, e, hq, e2⟩
theorem f_pw {c t : Nat} {q : Int} (h : -1074 ≤ q) (e : c * 2 ^ (q + 1074).toNat = t * 2 ^ 1022) : c * 2 ^ 52 * 2 ^ (q + 0).toNat = t * 2 ^ (-(q + 0)).toNat := by
  rw [Int.add_zero]
  by_cases q0 : q ≤ 0
  · obtain ⟨a, ha⟩ : ∃ a : Nat, a = (q + 1074).toNat := ⟨_, rfl⟩
    rw [← ha] at e
    rw [show q.toNat = 0 by omega, show (-q).toNat = 1074 - a by omega, Nat.pow_zero, Nat.mul_one]
    have hle : a ≤ 1074 := by omega
    apply Nat.eq_of_mul_eq_mul_right (Nat.two_pow_pos a)
    rw [Nat.mul_assoc, Nat.mul_comm (2 ^ 52), ← Nat.mul_assoc, e, Nat.mul_assoc, ← Nat.pow_add, Nat.mul_assoc, ← Nat.pow_add, show 1074 - a + a = 1074 by omega]
  · rw [show (-q).toNat = 0 by omega, Nat.pow_zero, Nat.mul_one]
    rw [show (q + 1074).toNat = 52 + q.toNat + 1022 by omega, Nat.pow_add, ← Nat.mul_assoc] at e
    have e2 := Nat.eq_of_mul_eq_mul_right (Nat.two_pow_pos 1022) e
    rw [← e2, Nat.pow_add, ← Nat.mul_assoc]
theorem f_end0 {m : Nat} (h1 : 4607182418800017408 ≤ m) (h2 : m < 4611686018427387904) : FP.Core.DInt ((m - 4607182418800017408 : Nat) : Int) (FP.dmul (FP.dsub (UInt64.ofNat m) FP.dconst1) 4841369599423283200) := by
  obtain ⟨c, q, e, hq, hp⟩ := f_sub2 h1 h2
  unfold FP.Core.DInt
  refine (congrArg (FP.Core.Whole _) (FP.Core.val64_dmul _ _)).mpr ?_
  rw [show FP.Core.val64 (FP.dsub (UInt64.ofNat m) FP.dconst1) = .fin false c q from e, f_big]
  refine FP.Core.whole_round FP.Core.good_b64 FP.Core.wide_b64 (by rw [f_p]; omega) ?_
  show ((c * 4503599627370496 * 2 ^ (q + 0).toNat : Nat) : Int) = ((m - 4607182418800017408 : Nat) : Int) * ((2 ^ (-(q + 0)).toNat : Nat) : Int)
  have h := f_pw hq hp
  rw [show (2 : Nat) ^ 52 = 4503599627370496 from rfl] at h
  rw [h, Int.natCast_mul]
theorem f_sub_n {m : Nat} (h1 : 4607182418800017408 ≤ m) (h2 : m < 4611686018427387904) : vf_n64 (FP.dsub (UInt64.ofNat m) FP.dconst1) := by
  obtain ⟨c, q, e, _⟩ := f_sub2 h1 h2
  exact f_nn e
theorem f_mul_n {m : Nat} (h1 : 4607182418800017408 ≤ m) (h2 : m < 4611686018427387904) : vf_n64 (FP.dmul (FP.dsub (UInt64.ofNat m) FP.dconst1) 4841369599423283200) := by
  have h := f_end0 h1 h2
  unfold FP.Core.DInt at h
  refine o_n64 ((FP.Core.notNaN_iff _).mpr fun z => ?_)
  rw [show FP.Core.val64 (FP.dmul (FP.dsub (UInt64.ofNat m) FP.dconst1) 4841369599423283200) = .nan from z] at h
  exact h
theorem f_lt {n : Nat} (h : n < 2 ^ 63) : (lN n).toInt = (n : Int) := lg_ofNat_toInt h
theorem f_end {m : Nat} (h1 : 4607182418800017408 ≤ m) (h2 : m < 4611686018427387904) : FP.d2l (FP.dmul (FP.dsub (UInt64.ofNat m) FP.dconst1) 4841369599423283200) = lN (m - 4607182418800017408) := by
  refine FP.Core.d2l_int (a := lN (m - 4607182418800017408)) ?_
  rw [f_lt (by omega)]
  exact f_end0 h1 h2
theorem f_fin {a n : Nat} (h : a = n) : lN a = (UInt64.ofNat n).toInt64 := by
  rw [h]
  rfl
/-! the bits of a share of whole numbers -/
theorem f_i2d {a : Nat} (ha : a < 2 ^ 31) : ∃ s c q, FP.Core.val64 (FP.i2d (nI a)) = .fin s c q ∧ c * 2 ^ q.toNat = a * 2 ^ (-q).toNat ∧ (c = 0 ↔ a = 0) ∧ (¬ a = 0 → s = false) := by
  obtain ⟨s, c, q, e⟩ := FP.Core.i2d_fin (nI a)
  have hW := FP.Core.i2d_int (nI a)
  unfold FP.Core.DInt at hW
  rw [e, nI_toInt ha] at hW
  refine ⟨s, c, q, e, ?_, ?_, fun h => ?_⟩
  · have := FP.Core.whole_natAbs hW
    simpa using this
  · have := FP.Core.whole_zero hW
    omega
  · rw [FP.Core.whole_sign hW (by omega)]
    exact decide_eq_false (by omega)
theorem f_quot {a d : Nat} (ha : a < 2 ^ 31) (hd : d < 2 ^ 31) (h0 : ¬ a = 0) (h1 : ¬ d = 0) : FP.Core.val64 (FP.ddiv (FP.i2d (nI a)) (FP.i2d (nI d))) = FP.Core.roundRatio FP.Core.b64 false a d 0 := by
  obtain ⟨s, c, q, e, e1, e2, e3⟩ := f_i2d ha
  obtain ⟨t, x, r, g, g1, g2, g3⟩ := f_i2d hd
  refine (FP.Core.val64_ddiv _ _).trans ?_
  rw [show FP.Core.val64 (FP.i2d (nI a)) = .fin s c q from e, show FP.Core.val64 (FP.i2d (nI d)) = .fin t x r from g, e3 h0, g3 h1]
  show (if x = 0 then (if c = 0 then FP.Core.Datum.nan else .inf (false != false)) else FP.Core.roundRatio FP.Core.b64 (false != false) c x (q - r)) = _
  rw [if_neg (by omega)]
  refine FP.Core.roundRatio_congr (by omega) (by omega) ?_
  rw [show (q - r - 0).toNat = (q - r).toNat by omega, show (0 - (q - r)).toNat = (r - q).toNat by omega]
  have hp : 2 ^ q.toNat * 2 ^ (-r).toNat * 2 ^ (r - q).toNat = 2 ^ (-q).toNat * 2 ^ r.toNat * 2 ^ (q - r).toNat := by
    rw [← Nat.pow_add, ← Nat.pow_add, ← Nat.pow_add, ← Nat.pow_add]
    congr 1
    omega
  generalize 2 ^ (q - r).toNat = S at hp ⊢
  generalize 2 ^ (r - q).toNat = S' at hp ⊢
  have hpos : 0 < 2 ^ q.toNat * 2 ^ (-r).toNat := Nat.mul_pos (Nat.two_pow_pos _) (Nat.two_pow_pos _)
  generalize 2 ^ q.toNat = P at hp e1 hpos
  generalize 2 ^ (-q).toNat = P' at hp e1
  generalize 2 ^ r.toNat = R at hp g1
  generalize 2 ^ (-r).toNat = R' at hp g1 hpos
  apply Nat.eq_of_mul_eq_mul_right hpos
  have k1 : c * d * S * (P * R') = (c * P) * (d * R') * S := by ac_rfl
  have k2 : a * P' * (x * R) * S = a * x * (P' * R * S) := by ac_rfl
  rw [k1, e1, ← g1, k2, ← hp]
  ac_rfl
theorem f_share {a d : Nat} (h : a ≤ d) (hd : d < 2 ^ 31) (h1 : ¬ d = 0) : ∃ n, FP.ddiv (FP.i2d (nI a)) (FP.i2d (nI d)) = UInt64.ofNat n ∧ (n = 0 ∨ (4503599627370496 ≤ n ∧ n ≤ 4607182418800017408)) := by
  by_cases h0 : a = 0
  · subst h0
    refine ⟨0, FP.Core.val64_inj ?_ ?_, Or.inl rfl⟩
    · exact (FP.Core.notNaN_iff _).mp (o_n64' (o_div_n h1 hd))
    · obtain ⟨t, x, r, g, g1, g2, g3⟩ := f_i2d hd
      refine (FP.Core.val64_ddiv _ _).trans ?_
      rw [show FP.Core.val64 (FP.i2d (nI d)) = .fin t x r from g, g3 h1, show FP.Core.val64 (FP.i2d (nI 0)) = .fin false 0 FP.Core.b64.qmin by decide +kernel]
      show (if x = 0 then (if 0 = 0 then FP.Core.Datum.nan else .inf (false != false)) else FP.Core.roundRatio FP.Core.b64 (false != false) 0 x (FP.Core.b64.qmin - r)) = _
      rw [if_neg (by omega)]
      show FP.Core.Datum.fin false 0 FP.Core.b64.qmin = _
      decide +kernel
  · have e := f_quot (by omega) hd h0 h1
    generalize hz : FP.ddiv (FP.i2d (nI a)) (FP.i2d (nI d)) = z at e ⊢
    have hn : FP.Core.val64 z ≠ .nan := by
      rw [e]
      exact FP.Core.roundRatio_ne_nan _ _ _ _ _
    have hs := FP.Core.sgn_bits hn
    rw [e, FP.Core.sgn_roundRatio] at hs
    have hlt : ¬ 2 ^ 63 ≤ z.toNat := fun q => by
      rw [decide_eq_true q] at hs
      cases hs
    have hm : FP.Core.mag FP.Core.b64 z.toNat = z.toNat := by
      rw [FP.Core.mag_toNat64]
      omega
    refine ⟨z.toNat, UInt64.ofNat_toNat.symm, Or.inr ⟨?_, ?_⟩⟩
    · have hu : FP.Core.unitsOf FP.Core.b64 (1 * FP.Core.b64.tails) = FP.Core.b64.tails * 2 ^ (1 - 1) := FP.Core.unitsOf_start (Nat.le_refl 1)
      have k := FP.Core.mag_ge FP.Core.good_b64 (n := z.toNat) (m := 1 * FP.Core.b64.tails) (e0 := FP.Core.b64.qmin) e (by omega) (Int.le_refl _) (by rw [FP.Core.qmin_b64]; omega) (by rw [FP.Core.infBits_b64, FP.Core.tails_b64]; omega) (by
        rw [hu, FP.Core.tails_b64, Int.sub_self, Int.toNat_zero]
        unfold FP.Core.inUnits
        rw [FP.Core.qmin_b64, show ((0 : Int) - -1074).toNat = 1074 from rfl]
        have : d * 1 ≤ a * 2147483648 := by omega
        calc 2 ^ 52 * 2 ^ (1 - 1) * 2 ^ 0 * d = 2 ^ 52 * d := by rw [show 1 - 1 = 0 from rfl, Nat.pow_zero, Nat.mul_one, Nat.mul_one]
          _ ≤ 2 ^ 52 * (a * 2 ^ 31) := Nat.mul_le_mul_left _ (by omega)
          _ = a * 2 ^ 83 := by rw [show (2 : Nat) ^ 83 = 2 ^ 52 * 2 ^ 31 from (Nat.pow_add 2 52 31)]; ac_rfl
          _ ≤ a * 2 ^ 1074 := Nat.mul_le_mul_left _ (Nat.pow_le_pow_right (by decide) (by decide)))
      rw [hm, FP.Core.tails_b64] at k
      omega
    · have hu : FP.Core.unitsOf FP.Core.b64 (1023 * FP.Core.b64.tails) = FP.Core.b64.tails * 2 ^ (1023 - 1) := FP.Core.unitsOf_start (by omega)
      have k := FP.Core.mag_le FP.Core.good_b64 (n := z.toNat) (m := 1023 * FP.Core.b64.tails) (e0 := FP.Core.b64.qmin) e (by omega) (Int.le_refl _) (by rw [FP.Core.qmin_b64]; omega) (by
        rw [hu, FP.Core.tails_b64, Int.sub_self, Int.toNat_zero]
        unfold FP.Core.inUnits
        rw [FP.Core.qmin_b64, show ((0 : Int) - -1074).toNat = 1074 from rfl, Nat.pow_zero, Nat.mul_one, ← Nat.pow_add, Nat.mul_comm]
        exact Nat.mul_le_mul_left _ h)
      rw [hm, FP.Core.tails_b64] at k
      omega
theorem c_share_n {b : Nat} {v : Nat → Nat → Nat} (h : s_I b v) (hb : b < 2 ^ 28) : ∃ n, c_share v = UInt64.ofNat n ∧ (n = 0 ∨ (4503599627370496 ≤ n ∧ n ≤ 4607182418800017408)) := by
  have h6 := s_sum_le h (Or.inl rfl)
  have h7 := s_sum_le h (Or.inr rfl)
  unfold c_share
  split
  · exact ⟨4607182418800017408, rfl, Or.inr ⟨by omega, by omega⟩⟩
  · exact f_share (by omega) (by omega) (by assumption)
theorem c_w0 (x : Nat → Nat → Nat) (y : Nat → Nat) (h : x 2 = y) : va_up x 2 y = x := by
  funext k
  unfold va_up
  split
  · rename_i q
    rw [q, h]
  · rfl
theorem f_step {a : Nat} (h : a < 4607182418800017408) : a + 4503599627370496 < 4611686018427387904 := by omega
