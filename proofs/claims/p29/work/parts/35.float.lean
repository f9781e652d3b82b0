theorem fl_n64 {a : UInt64} (h : ¬ FP.Core.dIsNaN a = true) : vf_n64 a := by
  unfold vf_n64
  rw [UInt64.le_iff_toNat_le, FP.Core.mask_toNat]
  have h1 : ¬ 9218868437227405312 < a.toNat % 2 ^ 63 := fun z => h ((FP.Core.isNaN_bits a).mpr z)
  have h2 : (0x7ff0000000000000 : UInt64).toNat = 9218868437227405312 := by decide
  omega
theorem fl_div {a b : Int32} (hb : b ≠ 0) : ¬ FP.Core.dIsNaN (FP.ddiv (FP.i2d a) (FP.i2d b)) = true := by
  intro h
  rcases (FP.Core.ddiv_nan_iff (FP.Core.i2d a) (FP.Core.i2d b)).mp h with h | h | ⟨s, t, h, _⟩ | ⟨_, s, q, h⟩
  · exact (FP.Core.i2d_fin a).ne_nan h
  · exact (FP.Core.i2d_fin b).ne_nan h
  · exact (FP.Core.i2d_fin a).ne_inf s h
  · have hw : FP.Core.Whole b.toInt (FP.Core.val64 (FP.Core.i2d b)) := FP.Core.i2d_int b
    rw [h] at hw
    exact FP.Core.int32_ne hb ((FP.Core.whole_zero hw).mp rfl)
def sevN (f : sF) : Nat → Int32 × Int32
  | 0 => (-1, nI 0)
  | n + 1 => if 0 < f (18 + 12 * n + 0) then (if (sevN f n).1 = -1 ∨ f (18 + 12 * n + 4) < (sevN f n).1 then f (18 + 12 * n + 4) else (sevN f n).1, if (sevN f n).2 < f (18 + 12 * n + 4) then f (18 + 12 * n + 4) else (sevN f n).2) else sevN f n
def seven (f : sF) : UInt64 := if (sevN f 6).2 = 0 then FP.dconst1 else FP.ddiv (FP.i2d (sevN f 6).1) (FP.i2d (sevN f 6).2)
theorem sevN_no {f : sF} {n : Nat} (h : ¬ 0 < f (18 + 12 * n + 0)) : sevN f (n + 1) = sevN f n := if_neg h
theorem sevN_s {f : sF} {n : Nat} {a b : Int32} (h : 0 < f (18 + 12 * n + 0)) (ha : a = if (sevN f n).1 = -1 ∨ f (18 + 12 * n + 4) < (sevN f n).1 then f (18 + 12 * n + 4) else (sevN f n).1) (hb : b = if (sevN f n).2 < f (18 + 12 * n + 4) then f (18 + 12 * n + 4) else (sevN f n).2) : sevN f (n + 1) = (a, b) := by
  subst ha; subst hb; exact if_pos h
