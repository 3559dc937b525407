theorem o_n64 {r : UInt64} (h : FP.Core.dIsNaN r = false) : vf_n64 r := by
  have h1 : ¬ 9218868437227405312 < r.toNat % 2 ^ 63 := fun z => by
    rw [← FP.Core.isNaN_bits] at z
    rw [h] at z
    exact Bool.noConfusion z
  unfold vf_n64
  rw [UInt64.le_iff_toNat_le, UInt64.toNat_and]
  rw [show (0x7fffffffffffffff : UInt64).toNat = 2 ^ 63 - 1 from rfl, Nat.and_two_pow_sub_one_eq_mod]
  exact Nat.not_lt.mp h1
theorem o_n64' {r : UInt64} (h : vf_n64 r) : FP.Core.dIsNaN r = false := by
  unfold vf_n64 at h
  rw [UInt64.le_iff_toNat_le, UInt64.toNat_and, show (0x7fffffffffffffff : UInt64).toNat = 2 ^ 63 - 1 from rfl, Nat.and_two_pow_sub_one_eq_mod] at h
  cases q : FP.Core.dIsNaN r with
  | false => rfl
  | true =>
    rw [FP.Core.isNaN_bits] at q
    exact absurd h (Nat.not_le.mpr q)
theorem o_div_n {a b : Nat} (hb : ¬ b = 0) (hb2 : b < 2 ^ 31) : vf_n64 (FP.ddiv (FP.i2d (nI a)) (FP.i2d (nI b))) := by
  have hne : (nI b : Int32) ≠ 0 := nI_ne0 (Nat.pos_of_ne_zero hb) hb2
  refine o_n64 (FP.Core.ddiv_out ?_ (FP.Core.i2d_fin _) ?_)
  · have h1 := FP.Core.i2d_mag (nI a)
    cases q : FP.Core.dIsNaN (FP.i2d (nI a)) with
    | false => rfl
    | true =>
      have h2 := (FP.Core.isNaN_bits _).mp q
      have h3 : (FP.Core.i2d (nI a)).toNat % 2 ^ 63 < 1056 * 2 ^ 52 := h1
      exact absurd h2 (by show ¬ 9218868437227405312 < (FP.Core.i2d (nI a)).toNat % 2 ^ 63; omega)
  · intro z
    have h1 := FP.Core.i2d_ne_zero hne
    rw [FP.Core.zero_bits2] at z
    exact h1 z
/-! DOUBLES FROM 0 TO 1 BY THEIR BITS -/
theorem u_tn {n : Nat} (h : n < 2 ^ 64) : (UInt64.ofNat n).toNat = n := UInt64.toNat_ofNat_of_lt' (by simpa using h)
theorem f_one : FP.Core.val64 FP.dconst1 = .fin false 4503599627370496 (-52) := by decide +kernel
theorem f_key {n : Nat} (h : n < 2 ^ 63) : FP.Core.dkey (UInt64.ofNat n) = (n : Int) := by
  unfold FP.Core.dkey
  rw [u_tn (by omega), if_neg (by omega)]
theorem f_key1 : FP.Core.dkey FP.dconst1 = 4607182418800017408 := by decide +kernel
theorem f_key0 : FP.Core.dkey FP.dconst0 = 0 := by decide +kernel
theorem f_ne {n : Nat} (h : n ≤ 9218868437227405312) : FP.Core.val64 (UInt64.ofNat n) ≠ .nan := (FP.Core.ne_nan _).mpr (by rw [u_tn (by omega)]; omega)
theorem f_cmp {n : Nat} {y : UInt64} {k : Int} (h : n ≤ 9218868437227405312) (hy : FP.Core.val64 y ≠ .nan) (hk : FP.Core.dkey y = k) : ((n : Int) < k ∧ Op.cmpValue (FP.dcmp (UInt64.ofNat n) y) .g = -1) ∨ ((n : Int) = k ∧ Op.cmpValue (FP.dcmp (UInt64.ofNat n) y) .g = 0) ∨ (k < (n : Int) ∧ Op.cmpValue (FP.dcmp (UInt64.ofNat n) y) .g = 1) := by
  have e : FP.dcmp (UInt64.ofNat n) y = some (compare (n : Int) k) := by
    refine (FP.Core.dcmp_key (f_ne h) hy).trans ?_
    rw [f_key (by omega), hk]
  rw [e]
  rcases Int.lt_trichotomy (n : Int) k with q | q | q
  · rw [(FP.Core.compare_lt_iff _ _).mpr q]
    exact Or.inl ⟨q, rfl⟩
  · rw [(FP.Core.compare_eq_iff _ _).mpr q]
    exact Or.inr (Or.inl ⟨q, rfl⟩)
  · rw [(FP.Core.compare_gt_iff _ _).mpr q]
    exact Or.inr (Or.inr ⟨q, rfl⟩)
theorem f_ge1 {n : Nat} (h : n ≤ 9218868437227405312) : 0 ≤ Op.cmpValue (FP.dcmp (UInt64.ofNat n) FP.dconst1) .g ↔ ¬ n < 4607182418800017408 := by
  rcases f_cmp h (y := FP.dconst1) (by rw [f_one]; intro z; cases z) f_key1 with ⟨q, e⟩ | ⟨q, e⟩ | ⟨q, e⟩ <;> rw [e]
  · exact ⟨fun z => absurd z (by decide), fun z => absurd (show n < 4607182418800017408 by omega) z⟩
  · exact ⟨fun _ => by omega, fun _ => by decide⟩
  · exact ⟨fun _ => by omega, fun _ => by decide⟩
theorem f_gt0 {n : Nat} (h : n ≤ 9218868437227405312) : 0 < Op.cmpValue (FP.dcmp (UInt64.ofNat n) FP.dconst0) .g ↔ ¬ n = 0 := by
  rcases f_cmp h (y := FP.dconst0) (by decide +kernel) f_key0 with ⟨q, e⟩ | ⟨q, e⟩ | ⟨q, e⟩ <;> rw [e]
  · omega
  · exact ⟨fun z => absurd z (by decide), fun z => absurd (show n = 0 by omega) z⟩
  · exact ⟨fun _ => by omega, fun _ => by decide⟩
/-! the bits of a share of whole numbers -/
theorem f_i2d {a : Nat} (ha : a < 2 ^ 31) : ∃ s c q, FP.Core.val64 (FP.i2d (nI a)) = .fin s c q ∧ c * 2 ^ q.toNat = a * 2 ^ (-q).toNat ∧ (c = 0 ↔ a = 0) ∧ (¬ a = 0 → s = false) := by
  obtain ⟨s, c, q, e⟩ := FP.Core.i2d_fin (nI a)
  have hW := FP.Core.i2d_int (nI a)
  unfold FP.Core.DInt at hW
  rw [e, nI_toInt ha] at hW
  refine ⟨s, c, q, e, ?_, ?_, fun h => ?_⟩
  · have := FP.Core.whole_natAbs hW
    simpa using this
  · have := FP.Core.whole_zero hW
    omega
  · rw [FP.Core.whole_sign hW (by omega)]
    exact decide_eq_false (by omega)
theorem f_quot {a d : Nat} (ha : a < 2 ^ 31) (hd : d < 2 ^ 31) (h0 : ¬ a = 0) (h1 : ¬ d = 0) : FP.Core.val64 (FP.ddiv (FP.i2d (nI a)) (FP.i2d (nI d))) = FP.Core.roundRatio FP.Core.b64 false a d 0 := by
  obtain ⟨s, c, q, e, e1, e2, e3⟩ := f_i2d ha
  obtain ⟨t, x, r, g, g1, g2, g3⟩ := f_i2d hd
  refine (FP.Core.val64_ddiv _ _).trans ?_
  rw [show FP.Core.val64 (FP.i2d (nI a)) = .fin s c q from e, show FP.Core.val64 (FP.i2d (nI d)) = .fin t x r from g, e3 h0, g3 h1]
  show (if x = 0 then (if c = 0 then FP.Core.Datum.nan else .inf (false != false)) else FP.Core.roundRatio FP.Core.b64 (false != false) c x (q - r)) = _
  rw [if_neg (by omega)]
  refine FP.Core.roundRatio_congr (by omega) (by omega) ?_
  rw [show (q - r - 0).toNat = (q - r).toNat by omega, show (0 - (q - r)).toNat = (r - q).toNat by omega]
  have hp : 2 ^ q.toNat * 2 ^ (-r).toNat * 2 ^ (r - q).toNat = 2 ^ (-q).toNat * 2 ^ r.toNat * 2 ^ (q - r).toNat := by
    rw [← Nat.pow_add, ← Nat.pow_add, ← Nat.pow_add, ← Nat.pow_add]
    congr 1
    omega
  generalize 2 ^ (q - r).toNat = S at hp ⊢
  generalize 2 ^ (r - q).toNat = S' at hp ⊢
  have hpos : 0 < 2 ^ q.toNat * 2 ^ (-r).toNat := Nat.mul_pos (Nat.two_pow_pos _) (Nat.two_pow_pos _)
  generalize 2 ^ q.toNat = P at hp e1 hpos
  generalize 2 ^ (-q).toNat = P' at hp e1
  generalize 2 ^ r.toNat = R at hp g1
  generalize 2 ^ (-r).toNat = R' at hp g1 hpos
  apply Nat.eq_of_mul_eq_mul_right hpos
  have k1 : c * d * S * (P * R') = (c * P) * (d * R') * S := by ac_rfl
  have k2 : a * P' * (x * R) * S = a * x * (P' * R * S) := by ac_rfl
  rw [k1, e1, ← g1, k2, ← hp]
  ac_rfl
theorem f_share {a d : Nat} (h : a ≤ d) (hd : d < 2 ^ 31) (h1 : ¬ d = 0) : ∃ n, FP.ddiv (FP.i2d (nI a)) (FP.i2d (nI d)) = UInt64.ofNat n ∧ (n = 0 ∨ (4503599627370496 ≤ n ∧ n ≤ 4607182418800017408)) := by
  by_cases h0 : a = 0
  · subst h0
    refine ⟨0, FP.Core.val64_inj ?_ ?_, Or.inl rfl⟩
    · exact (FP.Core.notNaN_iff _).mp (o_n64' (o_div_n h1 hd))
    · obtain ⟨t, x, r, g, g1, g2, g3⟩ := f_i2d hd
      refine (FP.Core.val64_ddiv _ _).trans ?_
      rw [show FP.Core.val64 (FP.i2d (nI d)) = .fin t x r from g, g3 h1, show FP.Core.val64 (FP.i2d (nI 0)) = .fin false 0 FP.Core.b64.qmin by decide +kernel]
      show (if x = 0 then (if 0 = 0 then FP.Core.Datum.nan else .inf (false != false)) else FP.Core.roundRatio FP.Core.b64 (false != false) 0 x (FP.Core.b64.qmin - r)) = _
      rw [if_neg (by omega)]
      show FP.Core.Datum.fin false 0 FP.Core.b64.qmin = _
      decide +kernel
  · have e := f_quot (by omega) hd h0 h1
    generalize hz : FP.ddiv (FP.i2d (nI a)) (FP.i2d (nI d)) = z at e ⊢
    have hn : FP.Core.val64 z ≠ .nan := by
      rw [e]
      exact FP.Core.roundRatio_ne_nan _ _ _ _ _
    have hs := FP.Core.sgn_bits hn
    rw [e, FP.Core.sgn_roundRatio] at hs
    have hlt : ¬ 2 ^ 63 ≤ z.toNat := fun q => by
      rw [decide_eq_true q] at hs
      cases hs
    have hm : FP.Core.mag FP.Core.b64 z.toNat = z.toNat := by
      rw [FP.Core.mag_toNat64]
      omega
    refine ⟨z.toNat, UInt64.ofNat_toNat.symm, Or.inr ⟨?_, ?_⟩⟩
    · have hu : FP.Core.unitsOf FP.Core.b64 (1 * FP.Core.b64.tails) = FP.Core.b64.tails * 2 ^ (1 - 1) := FP.Core.unitsOf_start (Nat.le_refl 1)
      have k := FP.Core.mag_ge FP.Core.good_b64 (n := z.toNat) (m := 1 * FP.Core.b64.tails) (e0 := FP.Core.b64.qmin) e (by omega) (Int.le_refl _) (by rw [FP.Core.qmin_b64]; omega) (by rw [FP.Core.infBits_b64, FP.Core.tails_b64]; omega) (by
        rw [hu, FP.Core.tails_b64, Int.sub_self, Int.toNat_zero]
        unfold FP.Core.inUnits
        rw [FP.Core.qmin_b64, show ((0 : Int) - -1074).toNat = 1074 from rfl]
        have : d * 1 ≤ a * 2147483648 := by omega
        calc 2 ^ 52 * 2 ^ (1 - 1) * 2 ^ 0 * d = 2 ^ 52 * d := by rw [show 1 - 1 = 0 from rfl, Nat.pow_zero, Nat.mul_one, Nat.mul_one]
          _ ≤ 2 ^ 52 * (a * 2 ^ 31) := Nat.mul_le_mul_left _ (by omega)
          _ = a * 2 ^ 83 := by rw [show (2 : Nat) ^ 83 = 2 ^ 52 * 2 ^ 31 from (Nat.pow_add 2 52 31)]; ac_rfl
          _ ≤ a * 2 ^ 1074 := Nat.mul_le_mul_left _ (Nat.pow_le_pow_right (by decide) (by decide)))
      rw [hm, FP.Core.tails_b64] at k
      omega
    · have hu : FP.Core.unitsOf FP.Core.b64 (1023 * FP.Core.b64.tails) = FP.Core.b64.tails * 2 ^ (1023 - 1) := FP.Core.unitsOf_start (by omega)
      have k := FP.Core.mag_le FP.Core.good_b64 (n := z.toNat) (m := 1023 * FP.Core.b64.tails) (e0 := FP.Core.b64.qmin) e (by omega) (Int.le_refl _) (by rw [FP.Core.qmin_b64]; omega) (by
        rw [hu, FP.Core.tails_b64, Int.sub_self, Int.toNat_zero]
        unfold FP.Core.inUnits
        rw [FP.Core.qmin_b64, show ((0 : Int) - -1074).toNat = 1074 from rfl, Nat.pow_zero, Nat.mul_one, ← Nat.pow_add, Nat.mul_comm]
        exact Nat.mul_le_mul_left _ h)
      rw [hm, FP.Core.tails_b64] at k
      omega
