theorem fq_min : FP.Core.b64.qmin = -1074 := by decide
theorem fq_max : FP.Core.b64.qmax = 971 := by decide
theorem fq_t : FP.Core.b64.tails = 4503599627370496 := by decide
theorem fq_p : 2 ^ FP.Core.b64.p = 9007199254740992 := by decide
theorem fq_e : FP.Core.b64.exps = 2048 := by decide
/-- the double c * 2^(-52-k) -/
def dK (c k : Nat) : UInt64 := FP.Core.of64 (.fin false c (-52 - (k : Int)))
def cOK (c k : Nat) : Prop := 4503599627370496 ≤ c ∧ c < 9007199254740992 ∧ k ≤ 1000
theorem dK_fits {c k : Nat} (h : cOK c k) : FP.Core.fits FP.Core.b64 (.fin false c (-52 - (k : Int))) := by
  obtain ⟨h1, h2, h3⟩ := h
  refine ⟨by rw [fq_p]; exact h2, by rw [fq_min]; omega, by rw [fq_max]; omega, Or.inr (by rw [fq_t]; exact h1)⟩
theorem dK_val {c k : Nat} (h : cOK c k) : FP.Core.val64 (dK c k) = .fin false c (-52 - (k : Int)) := FP.Core.val64_of64 (dK_fits h)
theorem val_two : FP.Core.val64 4611686018427387904 = .fin false (2 ^ 52) (-51) := by decide +kernel
theorem val_big : FP.Core.val64 4841369599423283200 = .fin false (2 ^ 52) 0 := by decide +kernel
theorem dK_mul {c k : Nat} (h : cOK c (k + 1)) : FP.dmul (dK c (k + 1)) 4611686018427387904 = dK c k := by
  have h2 : cOK c k := ⟨h.1, h.2.1, by have := h.2.2; omega⟩
  have e : FP.Core.val64 (FP.Core.dmul (dK c (k + 1)) 4611686018427387904) = .fin false c (-52 - (k : Int)) := by
    rw [FP.Core.val64_dmul, dK_val h, val_two]
    show FP.Core.round FP.Core.b64 (.fin false (c * 2 ^ 52) (-52 - ((k + 1 : Nat) : Int) + -51)) = _
    refine FP.Core.roundRatio_exact FP.Core.good_b64 (by decide) (dK_fits h2) ?_
    rw [show (-52 - ((k + 1 : Nat) : Int) + -51 - (-52 - (k : Int))).toNat = 0 by omega, show (-52 - (k : Int) - (-52 - ((k + 1 : Nat) : Int) + -51)).toNat = 52 by omega]
    rw [Nat.pow_zero, Nat.mul_one, Nat.mul_one]
  exact FP.Core.val64_inj (by rw [e]; intro z; cases z) (e.trans (dK_val h2).symm)
theorem dK_fin {c k : Nat} (h : cOK c k) : ¬ FP.Core.dIsNaN (dK c k) = true := by
  rw [FP.Core.dIsNaN_iff, dK_val h]
  intro z
  cases z
theorem dK_cmp {c k : Nat} (h : cOK c k) : FP.dcmp (dK c k) FP.dconst1 = some (compare (c : Int) ((4503599627370496 * 2 ^ k : Nat) : Int)) := by
  have e : FP.Core.val64 FP.dconst1 = .fin false (2 ^ 52) (-52) := FP.Core.val64_dconst1
  show FP.Core.order (FP.Core.val64 (dK c k)) (FP.Core.val64 FP.dconst1) = _
  rw [dK_val h, e]
  show some (compare ((c * 2 ^ ((-52 - (k : Int)) - (min (-52 - (k : Int)) (-52))).toNat : Nat) : Int) ((2 ^ 52 * 2 ^ ((-52 : Int) - (min (-52 - (k : Int)) (-52))).toNat : Nat) : Int)) = _
  rw [show (-52 - (k : Int) - (min (-52 - (k : Int)) (-52))).toNat = 0 by omega, show ((-52 : Int) - (min (-52 - (k : Int)) (-52))).toNat = k by omega, Nat.pow_zero, Nat.mul_one]
theorem dK_pos {c k : Nat} (h : cOK c k) : FP.dcmp (dK c k) FP.dconst0 = some .gt := by
  have e : FP.Core.val64 FP.dconst0 = .fin false 0 FP.Core.b64.qmin := FP.Core.val64_dconst0
  show FP.Core.order (FP.Core.val64 (dK c k)) (FP.Core.val64 FP.dconst0) = _
  rw [dK_val h, e]
  show some (compare ((c * 2 ^ ((-52 - (k : Int)) - (min (-52 - (k : Int)) FP.Core.b64.qmin)).toNat : Nat) : Int) ((0 * 2 ^ (FP.Core.b64.qmin - (min (-52 - (k : Int)) FP.Core.b64.qmin)).toNat : Nat) : Int)) = _
  rw [Nat.zero_mul]
  have hp : 0 < c * 2 ^ ((-52 - (k : Int)) - (min (-52 - (k : Int)) FP.Core.b64.qmin)).toNat := Nat.mul_pos (by have := h.1; omega) (Nat.two_pow_pos _)
  generalize c * 2 ^ ((-52 - (k : Int)) - (min (-52 - (k : Int)) FP.Core.b64.qmin)).toNat = n at hp
  rw [FP.Core.compare_ite, if_neg (by omega), if_neg (by omega)]
theorem dK_lt {c k : Nat} (h : cOK c (k + 1)) : Op.cmpValue (FP.dcmp (dK c (k + 1)) FP.dconst1) .g < 0 := by
  rw [dK_cmp h]
  have h2 := h.2.1
  have h3 : 1 ≤ 2 ^ k := Nat.two_pow_pos k
  have h4 : c < 4503599627370496 * 2 ^ (k + 1) := by rw [Nat.pow_succ]; omega
  rw [FP.Core.compare_ite, if_pos (by omega)]
  decide
theorem dK_ge {c : Nat} (h : cOK c 0) : ¬ Op.cmpValue (FP.dcmp (dK c 0) FP.dconst1) .g < 0 := by
  rw [dK_cmp h]
  have h1 := h.1
  rw [FP.Core.compare_ite, if_neg (by rw [Nat.pow_zero]; omega)]
  split <;> decide
/-- what is left above 1, times 2^52 -/
theorem dK_frac {c : Nat} (h : cOK c 0) : ¬ FP.Core.dIsNaN (FP.dsub (dK c 0) FP.dconst1) = true ∧ FP.Core.DInt ((c - 4503599627370496 : Nat) : Int) (FP.dmul (FP.dsub (dK c 0) FP.dconst1) 4841369599423283200) := by
  have h1 := h.1
  have h2 := h.2.1
  have e1 : FP.Core.val64 FP.dconst1 = .fin false (2 ^ 52) (-52) := FP.Core.val64_dconst1
  have es : FP.Core.val64 (FP.Core.dsub (dK c 0) FP.dconst1) = FP.Core.round FP.Core.b64 (.fin false (c - 4503599627370496) (-52)) := by
    rw [FP.Core.val64_dsub, dK_val h, e1]
    have hu : FP.Core.sumUnits false c (-52 - ((0 : Nat) : Int)) true (2 ^ 52) (-52) (min (-52 - ((0 : Nat) : Int)) (-52)) = ((c - 4503599627370496 : Nat) : Int) := by
      show ((c * 2 ^ (0 : Nat) : Nat) : Int) + -((2 ^ 52 * 2 ^ (0 : Nat) : Nat) : Int) = _
      rw [Nat.pow_zero, Nat.mul_one, Nat.mul_one]
      omega
    show FP.Core.round FP.Core.b64 (.fin (FP.Core.sumSign false true (FP.Core.sumUnits false c (-52 - ((0 : Nat) : Int)) true (2 ^ 52) (-52) (min (-52 - ((0 : Nat) : Int)) (-52)))) (FP.Core.sumUnits false c (-52 - ((0 : Nat) : Int)) true (2 ^ 52) (-52) (min (-52 - ((0 : Nat) : Int)) (-52))).natAbs (min (-52 - ((0 : Nat) : Int)) (-52))) = _
    rw [hu]
    have hs : FP.Core.sumSign false true ((c - 4503599627370496 : Nat) : Int) = false := by
      unfold FP.Core.sumSign
      split
      · rfl
      · exact decide_eq_false (by omega)
    rw [hs, Int.natAbs_natCast]
    rfl
  obtain ⟨c2, q2, r1, r2⟩ := FP.Core.round_exact FP.Core.good_b64 false (c := c - 4503599627370496) (q := -52) (by rw [fq_p]; omega) (by rw [fq_min]; decide) (by rw [fq_max]; decide)
  rw [r1] at es
  have hf := FP.Core.val64_fits (FP.Core.dsub (dK c 0) FP.dconst1)
  rw [es] at hf
  have hq2 := hf.2.1
  rw [fq_min] at hq2
  refine ⟨(by rw [FP.Core.dIsNaN_iff]; show ¬ FP.Core.val64 (FP.Core.dsub (dK c 0) FP.dconst1) = _; rw [es]; intro z; cases z), ?_⟩
  unfold FP.Core.DInt
  show FP.Core.Whole _ (FP.Core.val64 (FP.Core.dmul (FP.Core.dsub (dK c 0) FP.dconst1) 4841369599423283200))
  rw [FP.Core.val64_dmul, es, val_big]
  refine FP.Core.whole_round FP.Core.good_b64 FP.Core.wide_b64 (by rw [Int.natAbs_natCast, fq_p]; omega) ?_
  show ((c2 * 2 ^ 52 * 2 ^ (q2 + 0).toNat : Nat) : Int) = ((c - 4503599627370496 : Nat) : Int) * ((2 ^ (-(q2 + 0)).toNat : Nat) : Int)
  unfold FP.Core.inUnits at r2
  rw [fq_min, show ((-52 : Int) - -1074).toNat = 1022 from rfl] at r2
  rw [Int.add_zero, ← Int.natCast_mul]
  refine congrArg _ ?_
  generalize c - 4503599627370496 = n at r2 ⊢
  refine Nat.eq_of_mul_eq_mul_right (Nat.two_pow_pos 1022) ?_
  calc c2 * 2 ^ 52 * 2 ^ q2.toNat * 2 ^ 1022 = c2 * 2 ^ (52 + q2.toNat + 1022) := by rw [Nat.pow_add, Nat.pow_add, Nat.mul_assoc, Nat.mul_assoc, Nat.mul_assoc]
    _ = c2 * 2 ^ ((q2 - -1074).toNat + (-q2).toNat) := by rw [show 52 + q2.toNat + 1022 = (q2 - -1074).toNat + (-q2).toNat by omega]
    _ = (c2 * 2 ^ (q2 - -1074).toNat) * 2 ^ (-q2).toNat := by rw [Nat.pow_add, Nat.mul_assoc]
    _ = n * 2 ^ 1022 * 2 ^ (-q2).toNat := by rw [r2]
    _ = n * 2 ^ (-q2).toNat * 2 ^ 1022 := by rw [Nat.mul_assoc, Nat.mul_comm (2 ^ 1022), ← Nat.mul_assoc]
def nL (n : Nat) : Int64 := Int64.ofNat n
theorem nL_1 {n : Nat} : nL (n + 1) - 1 = nL n := by
  unfold nL
  rw [Int64.ofNat_add]
  show Int64.ofNat n + 1 - 1 = _
  rw [Int64.add_sub_cancel]
theorem nL_toInt {n : Nat} (h : n < 2 ^ 63) : (nL n).toInt = (n : Int) := by
  exact Int64.toInt_ofNat_of_lt h
theorem dK_d2l {c : Nat} (h : cOK c 0) : FP.d2l (FP.dmul (FP.dsub (dK c 0) FP.dconst1) 4841369599423283200) = nL (c - 4503599627370496) := by
  refine FP.Core.d2l_int ?_
  rw [nL_toInt (by have := h.2.1; omega)]
  exact (dK_frac h).2
theorem dK_fin2 {c : Nat} (h : cOK c 0) : ¬ FP.Core.dIsNaN (FP.dmul (FP.dsub (dK c 0) FP.dconst1) 4841369599423283200) = true := by
  rw [FP.Core.dIsNaN_iff]
  have h2 := (dK_frac h).2
  intro z
  unfold FP.Core.DInt at h2
  rw [z] at h2
  exact h2.elim
theorem nL_bits {E n : Nat} (hE : E ≤ 1023) (hn : n < 4503599627370496) : (nL E <<< ((nI 52).toInt64 &&& 63)) + nL n = (UInt64.ofNat (E * 4503599627370496 + n)).toInt64 := by
  have e52 : ((nI 52).toInt64 &&& 63) = (52 : Int64) := by decide
  rw [e52]
  refine Int64.toBitVec_inj.mp ?_
  refine BitVec.eq_of_toNat_eq ?_
  unfold nL
  rw [Int64.toBitVec_add, Int64.toBitVec_shiftLeft]
  have e3 : (52 : Int64).toBitVec.smod 64 = 52#64 := by decide
  rw [e3]
  show (BitVec.ofNat 64 E <<< (52#64) + BitVec.ofNat 64 n).toNat = (BitVec.ofNat 64 (E * 4503599627370496 + n)).toNat
  rw [BitVec.toNat_add, BitVec.toNat_ofNat, BitVec.toNat_ofNat, show (BitVec.ofNat 64 E <<< (52#64)) = (BitVec.ofNat 64 E <<< 52) from rfl, BitVec.toNat_shiftLeft, BitVec.toNat_ofNat, Nat.shiftLeft_eq]
  omega
theorem dK_bits {c k : Nat} (h : cOK c k) : (dK c k).toInt64 = (UInt64.ofNat ((1023 - k) * 4503599627370496 + (c - 4503599627370496))).toInt64 ∨ 1023 < k + 1 := by
  by_cases hk : k ≤ 1022
  · left
    refine congrArg UInt64.toInt64 ?_
    unfold dK FP.Core.of64
    refine congrArg UInt64.ofNat ?_
    show (if c < FP.Core.b64.tails then _ else FP.Core.assemble FP.Core.b64 false ((-52 - (k : Int) - FP.Core.b64.qmin).toNat + 1) (c - FP.Core.b64.tails)) = _
    rw [if_neg (by rw [fq_t]; have := h.1; omega)]
    unfold FP.Core.assemble
    rw [fq_t, fq_e, fq_min, show (-52 - (k : Int) - -1074).toNat + 1 = 1023 - k by omega]
    show (0 * 2048 + (1023 - k)) * 4503599627370496 + (c - 4503599627370496) = _
    rw [Nat.zero_mul, Nat.zero_add]
  · exact Or.inr (by omega)
theorem dK_sum {c k : Nat} (h : cOK c k) : (nL (1023 - k) <<< ((nI 52).toInt64 &&& 63)) + nL (c - 4503599627370496) = (dK c k).toInt64 := by
  rw [nL_bits (by omega) (by have := h.2.1; have := h.1; omega)]
  rcases dK_bits h with e | e
  · exact e.symm
  · have := h.2.2; omega
theorem i2d_shape {a : Int32} (h : 0 < a.toInt) : ∃ c q, FP.Core.val64 (FP.i2d a) = .fin false c q ∧ c * 2 ^ q.toNat = a.toInt.natAbs * 2 ^ (-q).toNat := by
  have hw : FP.Core.Whole a.toInt (FP.Core.val64 (FP.Core.i2d a)) := FP.Core.i2d_int a
  cases hv : FP.Core.val64 (FP.Core.i2d a) with
  | nan => rw [hv] at hw; exact hw.elim
  | inf s => rw [hv] at hw; exact hw.elim
  | fin s c q =>
    rw [hv] at hw
    have hs := FP.Core.whole_sign hw (by omega)
    rw [decide_eq_false (show ¬ a.toInt < 0 by omega)] at hs
    subst hs
    exact ⟨c, q, rfl, FP.Core.whole_natAbs hw⟩
theorem ratio_shape {A B : Nat} (hA : 0 < A) (hAB : A ≤ B) (hB : B < 2 ^ 31) : ∃ c k, cOK c k ∧ k ≤ 40 ∧ FP.Core.roundRatio FP.Core.b64 false A B 0 = .fin false c (-52 - (k : Int)) := by
  obtain ⟨l1, l2⟩ := FP.Core.leading_spec hA (show 0 < B by omega)
  have hL0 : FP.Core.leading A B ≤ 0 := by
    refine Decidable.of_not_not (fun z => l1 (FP.Core.below_mono (a := 1) (by omega) ?_))
    have := (FP.Core.below_iff A B 1 0).mpr (by omega)
    exact this
  have hL1 : -31 ≤ FP.Core.leading A B := by
    refine Decidable.of_not_not (fun z => ?_)
    have h3 : FP.Core.Below A B (-31) := FP.Core.below_mono (by omega) l2
    have h4 := (FP.Core.below_iff A B 0 31).mp h3
    rw [Nat.pow_zero, Nat.mul_one] at h4
    have : 1 * 2 ^ 31 ≤ A * 2 ^ 31 := Nat.mul_le_mul_right _ hA
    omega
  unfold FP.Core.roundRatio
  rw [if_neg (by omega)]
  have hq : FP.Core.quantum FP.Core.b64 A B 0 = FP.Core.leading A B - 52 := by
    unfold FP.Core.quantum
    rw [fq_min]
    show max (-1074) (FP.Core.leading A B + 0 - ((53 : Nat) - 1)) = _
    omega
  rw [hq]
  generalize hL : FP.Core.leading A B = L at l1 l2 hL0 hL1 ⊢
  obtain ⟨j, rfl⟩ : ∃ j : Nat, L = -(j : Int) := ⟨(-L).toNat, by omega⟩
  have b1 : B ≤ A * 2 ^ j := by
    refine Nat.not_lt.mp (fun z => l1 ?_)
    have := (FP.Core.below_iff A B 0 j).mpr (by rw [Nat.pow_zero, Nat.mul_one]; exact z)
    rwa [show ((0 : Nat) : Int) - (j : Int) = -(j : Int) by omega] at this
  have b2 : A * 2 ^ j < B * 2 := by
    have := (FP.Core.below_iff A B 1 j).mp (by rw [show ((1 : Nat) : Int) - (j : Int) = -(j : Int) + 1 by omega]; exact l2)
    exact this
  unfold FP.Core.roundAt FP.Core.unitsNum FP.Core.unitsDen
  rw [show (0 - (-(j : Int) - 52)).toNat = j + 52 by omega, show (-(j : Int) - 52 - 0).toNat = 0 by omega, Nat.pow_zero, Nat.mul_one]
  have hB0 : 0 < B := by omega
  have m1 : 4503599627370496 ≤ FP.Core.nearest (A * 2 ^ (j + 52)) B := FP.Core.nearest_ge hB0 (by
    rw [Nat.pow_add, ← Nat.mul_assoc, Nat.mul_comm 4503599627370496]
    exact Nat.mul_le_mul_right _ b1)
  have m2 : FP.Core.nearest (A * 2 ^ (j + 52)) B ≤ 9007199254740992 := FP.Core.nearest_le hB0 (by
    rw [Nat.pow_add, ← Nat.mul_assoc, show 9007199254740992 * B = (B * 2) * 2 ^ 52 by omega]
    exact Nat.mul_le_mul_right _ (Nat.le_of_lt b2))
  have m3 : j = 0 → FP.Core.nearest (A * 2 ^ (j + 52)) B ≤ 4503599627370496 := fun z => FP.Core.nearest_le hB0 (by
    subst z
    rw [Nat.pow_zero, Nat.mul_one] at b1
    have : A = B := by omega
    rw [this, Nat.zero_add, Nat.mul_comm]
    exact Nat.le_refl _)
  generalize FP.Core.nearest (A * 2 ^ (j + 52)) B = M at m1 m2 m3
  unfold FP.Core.settle FP.Core.bound
  rw [fq_p, fq_max, fq_t]
  by_cases hM : M < 9007199254740992
  · rw [if_pos hM, if_pos (by omega)]
    exact ⟨M, j, ⟨m1, hM, by omega⟩, by omega, by rw [show -52 - (j : Int) = -(j : Int) - 52 by omega]⟩
  · rw [if_neg hM, if_pos (by omega)]
    have hj : 1 ≤ j := by
      rcases Nat.eq_zero_or_pos j with h0 | h0
      · have := m3 h0; omega
      · exact h0
    exact ⟨4503599627370496, j - 1, ⟨Nat.le_refl _, by decide, by omega⟩, by omega, by rw [show -52 - ((j - 1 : Nat) : Int) = -(j : Int) - 52 + 1 by omega]⟩
theorem ddiv_shape {a b : Int32} (ha : 0 < a.toInt) (hab : a.toInt ≤ b.toInt) : ∃ c k, cOK c k ∧ k ≤ 40 ∧ FP.ddiv (FP.i2d a) (FP.i2d b) = dK c k := by
  obtain ⟨c1, q1, v1, w1⟩ := i2d_shape ha
  obtain ⟨c2, q2, v2, w2⟩ := i2d_shape (show 0 < b.toInt by omega)
  have hbm := b.toInt_lt
  obtain ⟨c, k, h1, h2, h3⟩ := ratio_shape (A := a.toInt.natAbs) (B := b.toInt.natAbs) (by omega) (by omega) (by omega)
  have hc2 : 0 < c2 := by
    rcases Nat.eq_zero_or_pos c2 with z | z
    · rw [z, Nat.zero_mul] at w2
      have h4 := Nat.two_pow_pos (-q2).toNat
      have h5 : 0 < b.toInt.natAbs * 2 ^ (-q2).toNat := Nat.mul_pos (by omega) h4
      omega
    · exact z
  have e : FP.Core.val64 (FP.Core.ddiv (FP.i2d a) (FP.i2d b)) = .fin false c (-52 - (k : Int)) := by
    rw [FP.Core.val64_ddiv, v1, v2]
    show (if c2 = 0 then _ else FP.Core.roundRatio FP.Core.b64 (false != false) c1 c2 (q1 - q2)) = _
    rw [if_neg (by omega)]
    show FP.Core.roundRatio FP.Core.b64 false c1 c2 (q1 - q2) = _
    rw [FP.Core.roundRatio_congr (A' := a.toInt.natAbs) (B' := b.toInt.natAbs) (e' := 0) hc2 (by omega) ?_]
    · exact h3
    · generalize a.toInt.natAbs = A at w1 ⊢
      generalize b.toInt.natAbs = B at w2 ⊢
      refine Nat.eq_of_mul_eq_mul_right (Nat.two_pow_pos (q1.toNat + (-q2).toNat)) ?_
      calc c1 * B * 2 ^ (q1 - q2 - 0).toNat * 2 ^ (q1.toNat + (-q2).toNat) = (c1 * 2 ^ q1.toNat) * (B * 2 ^ (-q2).toNat) * 2 ^ (q1 - q2 - 0).toNat := by
            rw [Nat.pow_add]
            generalize 2 ^ (q1 - q2 - 0).toNat = x
            generalize 2 ^ q1.toNat = y
            generalize 2 ^ (-q2).toNat = z
            simp only [Nat.mul_comm, Nat.mul_left_comm, Nat.mul_assoc]
        _ = (A * 2 ^ (-q1).toNat) * (c2 * 2 ^ q2.toNat) * 2 ^ (q1 - q2 - 0).toNat := by rw [w1, w2]
        _ = A * c2 * 2 ^ ((-q1).toNat + q2.toNat + (q1 - q2 - 0).toNat) := by
            rw [Nat.pow_add, Nat.pow_add]
            generalize 2 ^ (q1 - q2 - 0).toNat = x
            generalize 2 ^ (-q1).toNat = y
            generalize 2 ^ q2.toNat = z
            simp only [Nat.mul_comm, Nat.mul_left_comm, Nat.mul_assoc]
        _ = A * c2 * 2 ^ ((0 - (q1 - q2)).toNat + (q1.toNat + (-q2).toNat)) := by rw [show (-q1).toNat + q2.toNat + (q1 - q2 - 0).toNat = (0 - (q1 - q2)).toNat + (q1.toNat + (-q2).toNat) by omega]
        _ = A * c2 * 2 ^ (0 - (q1 - q2)).toNat * 2 ^ (q1.toNat + (-q2).toNat) := by rw [Nat.pow_add]; exact (Nat.mul_assoc _ _ _).symm
  exact ⟨c, k, h1, h2, FP.Core.val64_inj (by rw [e]; intro z; cases z) (e.trans (dK_val h1).symm)⟩
theorem ddiv_zero {b : Int32} (hb : 0 < b.toInt) : FP.ddiv (FP.i2d 0) (FP.i2d b) = FP.dconst0 := by
  obtain ⟨c2, q2, v2, w2⟩ := i2d_shape hb
  have hc2 : 0 < c2 := by
    rcases Nat.eq_zero_or_pos c2 with z | z
    · rw [z, Nat.zero_mul] at w2
      have h4 := Nat.two_pow_pos (-q2).toNat
      have h5 : 0 < b.toInt.natAbs * 2 ^ (-q2).toNat := Nat.mul_pos (by omega) h4
      omega
    · exact z
  have v0 : FP.Core.val64 (FP.i2d 0) = .fin false 0 FP.Core.b64.qmin := by decide +kernel
  have e : FP.Core.val64 (FP.Core.ddiv (FP.i2d 0) (FP.i2d b)) = .fin false 0 FP.Core.b64.qmin := by
    rw [FP.Core.val64_ddiv, v0, v2]
    show (if c2 = 0 then _ else FP.Core.roundRatio FP.Core.b64 (false != false) 0 c2 _) = _
    rw [if_neg (by omega)]
    rfl
  exact FP.Core.val64_inj (by rw [e]; intro z; cases z) (e.trans FP.Core.val64_dconst0.symm)
theorem dK_one : FP.dconst1 = dK 4503599627370496 0 := by
  have h : cOK 4503599627370496 0 := ⟨Nat.le_refl _, by decide, by decide⟩
  have e : FP.Core.val64 FP.dconst1 = .fin false (2 ^ 52) (-52) := FP.Core.val64_dconst1
  exact FP.Core.val64_inj (by rw [e]; intro z; cases z) (e.trans (dK_val h).symm)
def fOK (v : UInt64) : Prop := v = FP.dconst0 ∨ ∃ c k, cOK c k ∧ k ≤ 40 ∧ v = dK c k
theorem sevN_le {f : sF} (he : ∀ w, w < 6 → 0 ≤ f (18 + 12 * w + 4)) : ∀ n, n ≤ 6 → 0 ≤ (sev2 f n).2.1 ∧ (sev2 f n).2.1 ≤ (sev2 f n).2.2 := by
  intro n
  induction n with
  | zero => intro _; exact ⟨(show (0 : Int32) ≤ nI 0 by decide), (show nI 0 ≤ nI 0 by decide)⟩
  | succ n ih =>
    intro hn
    obtain ⟨a1, a2⟩ := ih (by omega)
    have hen := he n (by omega)
    by_cases hw : 0 < f (18 + 12 * n + 0)
    · rw [sev2_y hw]
      show 0 ≤ (if (sev2 f n).1 = true then smin (sev2 f n).2.1 (f (18 + 12 * n + 4)) else f (18 + 12 * n + 4)) ∧ (if (sev2 f n).1 = true then smin (sev2 f n).2.1 (f (18 + 12 * n + 4)) else f (18 + 12 * n + 4)) ≤ smaxi (sev2 f n).2.2 (f (18 + 12 * n + 4))
      unfold smin smaxi
      simp only [i32_le, i32_lt] at *
      split <;> split <;> (try split) <;> omega
    · rw [sev2_n hw]; exact ⟨a1, a2⟩
theorem seven_OK {f : sF} (he : ∀ w, w < 6 → 0 ≤ f (18 + 12 * w + 4)) : fOK (seven f) := by
  obtain ⟨a1, a2⟩ := sevN_le he 6 (Nat.le_refl 6)
  rw [sev2_v he]
  have h00 : (0 : Int32).toInt = 0 := by decide
  by_cases hp : 0 < (sev2 f 6).2.2
  · rw [if_pos hp]
    rw [i32_le, h00] at a1
    rw [i32_le] at a2
    rw [i32_lt, h00] at hp
    by_cases hz : (sev2 f 6).2.1.toInt = 0
    · have e0 : (sev2 f 6).2.1 = 0 := Int32.toInt_inj.mp (hz.trans h00.symm)
      rw [e0]
      exact Or.inl (ddiv_zero hp)
    · exact Or.inr (ddiv_shape (by omega) a2)
  · rw [if_neg hp]
    exact Or.inr ⟨_, 0, ⟨Nat.le_refl _, by decide, by decide⟩, by decide, dK_one⟩
set_option maxHeartbeats 4000000 in
theorem lp_X5_bitsOf {p : Program} {l : Launch} {e : Env} {s : State} {m : MethodId} {args : Array Value} {below : List Frame} {meth : Method} {c : Code} {D : va_G} {cA : Nat → ClassId} {N0 : Nat} {Sh : jS} {I : jI} {P : jP} {L : jL} (C : jC p (jRm 0 0 0) s m args meth c D cA N0 cX5_bitsOf 7 RX5 0) (hr : meth.sig.returnType = some .long) {v : UInt64} {c1 k0 : Nat} (hk : k0 ≤ 40) (hc : cOK c1 k0) : ∀ k i, i + k = k0 → jJ p l e (jRm 0 0 0) s m args below meth c D cA N0 7 (MQ below (jQn D cA N0 Sh (jD (some (.long ((dK c1 k0).toInt64))) I P L)) args s 0 0 (fun q => N0 ≤ q)) (fun _ => True) Sh I P L 0 0 18 [some (.double v), none, some (.double (dK c1 (k))), none, some (.long (nL (1023 - (i)))), none, some (.int (nI (i)))] [] := by
  intro k
  induction k with
  | zero =>
    intro i hi
    obtain rfl : i = k0 := by omega
    have h0 : cOK c1 0 := ⟨hc.1, hc.2.1, by decide⟩
    have hge := dK_ge h0
    refine jx_iload (pc := 18) C dX5_bitsOf_18 rfl ?_
    refine jx_sipush (pc := 20) C dX5_bitsOf_20 ns_1022 ?_
    refine jx_icmp_ge (pc := 23) C (tgt := 50) dX5_bitsOf_23 (by decide) (fun c23 => (by rw [nI_leI (by omega) (by omega)] at c23; exfalso; omega)) (fun c23 => ?_)
    rw [nI_leI (by omega) (by omega)] at c23
    refine jx_dload_n (pc := 26) C dX5_bitsOf_26 rfl ?_
    refine jx_dconst1 (pc := 27) C dX5_bitsOf_27 ?_
    refine jx_dcmp (pc := 28) C dX5_bitsOf_28 ?_
    refine jx_if_ge (pc := 29) C (tgt := 50) dX5_bitsOf_29 (by decide) (fun c29 => ?_) (fun c29 => (by exfalso; exact hge (i32_nle.mp c29)))
    refine jx_lload (pc := 50) C dX5_bitsOf_50 rfl ?_
    refine jx_bipush (pc := 52) C dX5_bitsOf_52 nb_52 ?_
    refine jx_lshl (pc := 54) C dX5_bitsOf_54 ?_
    refine jx_dload_n (pc := 55) C dX5_bitsOf_55 rfl ?_
    refine jx_dconst1 (pc := 56) C dX5_bitsOf_56 ?_
    refine jx_dsub (pc := 57) C dX5_bitsOf_57 (fl_n64 (dK_frac h0).1) ?_
    refine jx_ldc2d (pc := 58) C kk_X5_312 dX5_bitsOf_58 ?_
    refine jx_dmul (pc := 61) C dX5_bitsOf_61 (fl_n64 (dK_fin2 h0)) ?_
    refine jx_d2l (pc := 62) C dX5_bitsOf_62 ?_
    rw [dK_d2l h0]
    refine jx_ladd (pc := 63) C dX5_bitsOf_63 ?_
    exact jn_lret (pc := 64) C hr (jD_of (by rw [dK_sum hc]) rfl rfl rfl) dX5_bitsOf_64
  | succ k ih =>
    intro i hi
    have h1 : cOK c1 (k + 1) := ⟨hc.1, hc.2.1, by omega⟩
    have hlt := dK_lt h1
    have hm := dK_mul h1
    have e1 : nL (1023 - i) - 1 = nL (1023 - (i + 1)) := by rw [show 1023 - i = 1023 - (i + 1) + 1 by omega]; exact nL_1
    refine jx_iload (pc := 18) C dX5_bitsOf_18 rfl ?_
    refine jx_sipush (pc := 20) C dX5_bitsOf_20 ns_1022 ?_
    refine jx_icmp_ge (pc := 23) C (tgt := 50) dX5_bitsOf_23 (by decide) (fun c23 => (by rw [nI_leI (by omega) (by omega)] at c23; exfalso; omega)) (fun c23 => ?_)
    rw [nI_leI (by omega) (by omega)] at c23
    refine jx_dload_n (pc := 26) C dX5_bitsOf_26 rfl ?_
    refine jx_dconst1 (pc := 27) C dX5_bitsOf_27 ?_
    refine jx_dcmp (pc := 28) C dX5_bitsOf_28 ?_
    refine jx_if_ge (pc := 29) C (tgt := 50) dX5_bitsOf_29 (by decide) (fun c29 => (by exfalso; exact i32_nle.mpr hlt c29)) (fun c29 => ?_)
    refine jx_dload_n (pc := 32) C dX5_bitsOf_32 rfl ?_
    refine jx_ldc2d (pc := 33) C kk_X5_310 dX5_bitsOf_33 ?_
    refine jx_dmul (pc := 36) C dX5_bitsOf_36 (by rw [hm]; exact fl_n64 (dK_fin ⟨hc.1, hc.2.1, by omega⟩)) ?_
    rw [hm]
    refine jx_dstore_n (pc := 37) C dX5_bitsOf_37 (jsetw_2 jc_n) (by decide) ?_
    refine jx_lload (pc := 38) C dX5_bitsOf_38 rfl ?_
    refine jx_lconst (pc := 40) C dX5_bitsOf_40 rfl ?_
    refine jx_lsub (pc := 41) C dX5_bitsOf_41 ?_
    refine jx_top C (show Value.long _ = .long (nL (1023 - (i + 1))) from congrArg Value.long e1) ?_
    refine jx_lstore (pc := 42) C dX5_bitsOf_42 (jsetw_4 jc_n) (by decide) ?_
    refine jx_iincN (pc := 44) C dX5_bitsOf_44 rfl (jset_6 jc_n) (by decide) ?_
    refine jx_goto (pc := 47) C (tgt := 18) dX5_bitsOf_47 (by decide) ?_
    exact ih (i + 1) (by omega)
set_option maxHeartbeats 4000000 in
theorem b_X5_bitsOf {p : Program} {l : Launch} {e : Env} {s : State} {m : MethodId} {args : Array Value} {below : List Frame} {meth : Method} {c : Code} {D : va_G} {cA : Nat → ClassId} {N0 : Nat} {Sh : jS} {I : jI} {P : jP} {L : jL} (C : jC p (jRm 0 0 0) s m args meth c D cA N0 cX5_bitsOf 7 RX5 0) (hr : meth.sig.returnType = (some .long)) {v : UInt64} (hv : fOK v) : jJ p l e (jRm 0 0 0) s m args below meth c D cA N0 7 (MQ below (jQn D cA N0 Sh (jD (some (.long (v.toInt64))) I P L)) args s 0 0 (fun q => N0 ≤ q)) (fun _ => True) Sh I P L 0 0 0 [some (.double v), none, none, none, none, none, none] [] := by
  rcases hv with rfl | ⟨c1, k0, hc, hk, rfl⟩
  · have hz : ¬ 0 < Op.cmpValue (FP.dcmp FP.dconst0 FP.dconst0) .g := by decide +kernel
    refine jx_dload_n (pc := 0) C dX5_bitsOf_0 rfl ?_
    refine jx_dconst0 (pc := 1) C dX5_bitsOf_1 ?_
    refine jx_dcmp (pc := 2) C dX5_bitsOf_2 ?_
    refine jx_if_gt (pc := 3) C (tgt := 8) dX5_bitsOf_3 (by decide) (fun c3 => (by exfalso; exact hz c3)) (fun c3 => ?_)
    refine jx_lconst (pc := 6) C dX5_bitsOf_6 rfl ?_
    exact jn_lret (pc := 7) C hr (jD_of (congrArg (fun z => some (Value.long z)) (by decide +kernel)) rfl rfl rfl) dX5_bitsOf_7
  · have hz : 0 < Op.cmpValue (FP.dcmp (dK c1 k0) FP.dconst0) .g := by rw [dK_pos hc]; decide
    refine jx_dload_n (pc := 0) C dX5_bitsOf_0 rfl ?_
    refine jx_dconst0 (pc := 1) C dX5_bitsOf_1 ?_
    refine jx_dcmp (pc := 2) C dX5_bitsOf_2 ?_
    refine jx_if_gt (pc := 3) C (tgt := 8) dX5_bitsOf_3 (by decide) (fun c3 => ?_) (fun c3 => (by exfalso; exact c3 hz))
    refine jx_dload_n (pc := 8) C dX5_bitsOf_8 rfl ?_
    refine jx_dstore_n (pc := 9) C dX5_bitsOf_9 (jsetw_2 jc_n) (by decide) ?_
    refine jx_ldc2 (pc := 10) C kk_X5_308 dX5_bitsOf_10 ?_
    refine jx_lstore (pc := 13) C dX5_bitsOf_13 (jsetw_4 jc_n) (by decide) ?_
    refine jx_iconst (pc := 15) C dX5_bitsOf_15 nc_0 ?_
    refine jx_istore (pc := 16) C dX5_bitsOf_16 (jset_6 jc_n) (by decide) ?_
    exact lp_X5_bitsOf C hr hk hc k0 0 (Nat.zero_add _)
theorem t_X5_bitsOf {l : Launch} {D : va_G} {cA : Nat → ClassId} {N0 : Nat} {Sh : jS} {I : jI} {P : jP} {L : jL} {v : UInt64} (hv : fOK v) : jN l D cA N0 0 yX5_bitsOf cX5_bitsOf 7 (some .long) [.double v] Sh I P L (jD (some (.long (v.toInt64))) I P L) := jN_of (by decide) (Nat.le_of_ble_eq_true rfl) (fun _ _ _ _ _ _ _ _ C hr => b_X5_bitsOf C hr hv)
