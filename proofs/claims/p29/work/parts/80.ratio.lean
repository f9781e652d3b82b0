/-! EVENNESS lies between 0 and 1: the quotient of ints 0 ≤ a ≤ b -/
theorem fr_fin (v : Int32) (hv : 0 ≤ v.toInt) : ∃ (c : Nat) (q : Int), FP.Core.val64 (FP.Core.i2d v) = .fin false c q ∧ FP.Core.fits FP.Core.b64 (.fin false c q) ∧ FP.Core.Whole v.toInt (.fin false c q) := by
  have h1 : FP.Core.Whole v.toInt (FP.Core.val64 (FP.Core.i2d v)) := FP.Core.i2d_int v
  have h2 : FP.Core.sgn (FP.Core.val64 (FP.Core.i2d v)) = decide (v.toInt < 0) := by
    rw [FP.Core.val64_i2d]
    exact FP.Core.sgn_roundRatio FP.Core.b64 (decide (v.toInt < 0)) v.toInt.natAbs 1 0
  have h3 := FP.Core.val64_fits (FP.Core.i2d v)
  have h4 : decide (v.toInt < 0) = false := decide_eq_false (by omega)
  rw [h4] at h2
  cases hd : FP.Core.val64 (FP.Core.i2d v) with
  | nan => rw [hd] at h1; exact h1.elim
  | inf s => rw [hd] at h1; exact h1.elim
  | fin s c q =>
    rw [hd] at h1 h2 h3
    have hs : s = false := h2
    subst hs
    exact ⟨c, q, rfl, h3, h1⟩
theorem fr_units {i : Int} {c : Nat} {q : Int} (h : FP.Core.Whole i (.fin false c q)) (hq : FP.Core.b64.qmin ≤ q) : ((FP.Core.inUnits c q FP.Core.b64.qmin : Nat) : Int) = i * ((2 ^ 1074 : Nat) : Int) := by
  have h1 := FP.Core.whole_units h hq
  rw [FP.Core.qmin_b64] at h1 ⊢
  have h2 : (2 ^ (-1074 : Int).toNat : Nat) = 1 := by rfl
  have h3 : (-(-1074 : Int)).toNat = 1074 := by rfl
  rw [h2, h3] at h1
  have h4 : FP.Core.signed false (FP.Core.inUnits c q (-1074)) = ((FP.Core.inUnits c q (-1074) : Nat) : Int) := by
    unfold FP.Core.signed
    simp
  rw [h4] at h1
  simpa using h1
theorem fr_one : FP.Core.zmag FP.Core.b64 (FP.Core.val64 FP.Core.dconst1) = 2 ^ 1074 := by
  have h0 : FP.Core.val64 FP.Core.dconst1 ≠ .nan := (FP.Core.ne_nan _).mpr (by decide)
  rw [FP.Core.zmag_bits h0]
  have h1 : FP.Core.dconst1.toNat % 2 ^ 63 = 1023 * FP.Core.b64.tails := by rw [FP.Core.tails_b64]; rfl
  rw [h1, FP.Core.unitsOf_start (by decide), FP.Core.tails_b64, ← Nat.pow_add]
theorem fr_quot {a b : Int32} (ha : 0 ≤ a.toInt) (hb : 0 < b.toInt) (hab : a.toInt ≤ b.toInt) : FP.Core.val64 (FP.Core.ddiv (FP.Core.i2d a) (FP.Core.i2d b)) ≠ .nan ∧ FP.Core.sgn (FP.Core.val64 (FP.Core.ddiv (FP.Core.i2d a) (FP.Core.i2d b))) = false ∧ FP.Core.zmag FP.Core.b64 (FP.Core.val64 (FP.Core.ddiv (FP.Core.i2d a) (FP.Core.i2d b))) ≤ FP.Core.zmag FP.Core.b64 (FP.Core.val64 FP.Core.dconst1) := by
  obtain ⟨c, q, x1, x2, x3⟩ := fr_fin a ha
  obtain ⟨d, r, y1, y2, y3⟩ := fr_fin b (by omega)
  have hd0 : d ≠ 0 := fun z => by
    have := (FP.Core.whole_zero y3).mp z
    omega
  have hx1 : FP.Core.b64.qmin ≤ q := x2.2.1
  have hy1 : FP.Core.b64.qmin ≤ r := y2.2.1
  have hq := FP.Core.qmin_b64
  have e0 : FP.Core.val64 (FP.Core.ddiv (FP.Core.i2d a) (FP.Core.i2d b)) = FP.Core.roundRatio FP.Core.b64 false c d (q - r) := by
    rw [FP.Core.val64_ddiv, x1, y1]
    show (if d = 0 then _ else _) = _
    rw [if_neg hd0]
    rfl
  rw [e0]
  refine ⟨FP.Core.roundRatio_ne_nan _ _ _ _ _, FP.Core.sgn_roundRatio _ _ _ _ _, ?_⟩
  refine FP.Core.zmag_roundRatio_le FP.Core.good_b64 (by omega) (FP.Core.val64_fits _) ((FP.Core.ne_nan _).mpr (by decide)) (e0 := 2 * FP.Core.b64.qmin - r) (by omega) (by omega) ?_
  rw [fr_one]
  have ux := fr_units x3 hx1
  have uy := fr_units y3 hy1
  have hle : FP.Core.inUnits c q FP.Core.b64.qmin ≤ FP.Core.inUnits d r FP.Core.b64.qmin := by
    have h1 : a.toInt * ((2 ^ 1074 : Nat) : Int) ≤ b.toInt * ((2 ^ 1074 : Nat) : Int) := Int.mul_le_mul_of_nonneg_right hab (Int.natCast_nonneg _)
    rw [← ux, ← uy] at h1
    exact Int.ofNat_le.mp h1
  have e1 : FP.Core.inUnits c (q - r) (2 * FP.Core.b64.qmin - r) = FP.Core.inUnits c q FP.Core.b64.qmin * 2 ^ 1074 := by
    show c * 2 ^ (q - r - (2 * FP.Core.b64.qmin - r)).toNat = c * 2 ^ (q - FP.Core.b64.qmin).toNat * 2 ^ 1074
    rw [Nat.mul_assoc, ← Nat.pow_add]
    congr 2
    omega
  have e2 : 2 ^ (FP.Core.b64.qmin - (2 * FP.Core.b64.qmin - r)).toNat * d = FP.Core.inUnits d r FP.Core.b64.qmin := by
    show _ = d * 2 ^ (r - FP.Core.b64.qmin).toNat
    rw [Nat.mul_comm]
    congr 2
    omega
  rw [e1, Nat.mul_assoc, e2, Nat.mul_comm]
  exact Nat.mul_le_mul_left _ hle
theorem fr_cmp {x y : UInt64} (nx : FP.Core.val64 x ≠ .nan) (ny : FP.Core.val64 y ≠ .nan) : FP.dcmp x y = some (compare (FP.Core.zval FP.Core.b64 (FP.Core.val64 x)) (FP.Core.zval FP.Core.b64 (FP.Core.val64 y))) := FP.Core.order_zval FP.Core.good_b64 (FP.Core.val64_fits x) (FP.Core.val64_fits y) nx ny
theorem fr_ge {u v : Int} {q : CmpOp} (h : v ≤ u) : ¬ Op.cmpValue (some (compare u v)) q < 0 := by
  have h1 : compare u v = .gt ∨ compare u v = .eq := by
    simp only [compare, compareOfLessAndEq]
    rw [if_neg (by omega)]
    by_cases e : u = v
    · rw [if_pos e]; exact Or.inr rfl
    · rw [if_neg e]; exact Or.inl rfl
  rcases h1 with h1 | h1 <;> rw [h1] <;> cases q <;> decide
theorem fr_le {u v : Int} {q : CmpOp} (h : u ≤ v) : ¬ 0 < Op.cmpValue (some (compare u v)) q := by
  have h1 : compare u v = .lt ∨ compare u v = .eq := by
    simp only [compare, compareOfLessAndEq]
    by_cases e : u < v
    · rw [if_pos e]; exact Or.inl rfl
    · rw [if_neg e, if_pos (by omega)]; exact Or.inr rfl
  rcases h1 with h1 | h1 <;> rw [h1] <;> cases q <;> decide
theorem sevN_01 {f : sF} (he : ∀ w, w < 6 → 0 ≤ f (18 + 12 * w + 4)) : ∀ n, n ≤ 6 → (sevN f n = (-1, nI 0)) ∨ (0 ≤ (sevN f n).1 ∧ (sevN f n).1 ≤ (sevN f n).2) := by
  intro n
  induction n with
  | zero => intro _; exact Or.inl rfl
  | succ n ih =>
    intro hn
    have h1 := he n (by omega)
    by_cases hw : 0 < f (18 + 12 * n + 0)
    · rw [sevN_s hw rfl rfl]
      refine Or.inr ?_
      rw [i32_le] at h1
      have z0 : (0 : Int32).toInt = 0 := by decide
      have z1 : (-1 : Int32).toInt = -1 := by decide
      rcases ih (by omega) with h | ⟨h2, h3⟩
      · rw [h]
        dsimp only
        rw [if_pos (Or.inl rfl)]
        have z2 : (nI 0).toInt = 0 := by decide
        split
        · exact ⟨by rw [i32_le]; omega, by rw [i32_le]; omega⟩
        · rename_i h9
          rw [i32_lt] at h9
          exact ⟨by rw [i32_le]; omega, by rw [i32_le]; omega⟩
      · rw [i32_le] at h2 h3
        have hne : ¬ (sevN f n).1 = -1 := fun z => by rw [z] at h2; omega
        dsimp only
        by_cases a1 : (sevN f n).1 = -1 ∨ f (18 + 12 * n + 4) < (sevN f n).1
        · rw [if_pos a1]
          have a2 := a1.resolve_left hne
          rw [i32_lt] at a2
          split
          · exact ⟨by rw [i32_le]; omega, by rw [i32_le]; omega⟩
          · exact ⟨by rw [i32_le]; omega, by rw [i32_le]; omega⟩
        · rw [if_neg a1]
          split
          · rename_i h9
            rw [i32_lt] at h9
            exact ⟨by rw [i32_le]; omega, by rw [i32_le]; omega⟩
          · exact ⟨by rw [i32_le]; omega, by rw [i32_le]; omega⟩
    · rw [sevN_no hw]
      exact ih (by omega)
theorem seven_01 {f : sF} (he : ∀ w, w < 6 → 0 ≤ f (18 + 12 * w + 4)) : ¬ Op.cmpValue (FP.dcmp (seven f) FP.dconst0) .l < 0 ∧ ¬ 0 < Op.cmpValue (FP.dcmp (seven f) FP.dconst1) .g := by
  have n0 : FP.Core.val64 FP.Core.dconst0 ≠ .nan := (FP.Core.ne_nan _).mpr (by decide)
  have n1 : FP.Core.val64 FP.Core.dconst1 ≠ .nan := (FP.Core.ne_nan _).mpr (by decide)
  unfold seven
  by_cases c : (sevN f 6).2 = 0
  · rw [if_pos c]
    exact ⟨by decide +kernel, by decide +kernel⟩
  · rw [if_neg c]
    have z0 : (0 : Int32).toInt = 0 := by decide
    rcases sevN_01 he 6 (Nat.le_refl 6) with h | ⟨h2, h3⟩
    · exact absurd (congrArg Prod.snd h) c
    · rw [i32_le] at h2 h3
      have hb : (sevN f 6).2.toInt ≠ 0 := fun z => c (Int32.toInt_inj.mp (by rw [z, z0]))
      obtain ⟨q1, q2, q3⟩ := fr_quot (a := (sevN f 6).1) (b := (sevN f 6).2) (by omega) (by omega) h3
      have s1 : FP.Core.sgn (FP.Core.val64 FP.Core.dconst1) = false := by
        rw [FP.Core.sgn_bits n1]
        decide
      have v0 : FP.Core.zval FP.Core.b64 (FP.Core.val64 FP.Core.dconst0) = 0 := by
        unfold FP.Core.zval
        rw [FP.Core.zmag_bits n0, FP.Core.sgn_bits n0]
        have e : FP.Core.dconst0.toNat % 2 ^ 63 = 0 := by decide
        rw [e, FP.Core.unitsOf_zero]
        decide
      have vq : FP.Core.zval FP.Core.b64 (FP.Core.val64 (FP.Core.ddiv (FP.Core.i2d (sevN f 6).1) (FP.Core.i2d (sevN f 6).2))) = ((FP.Core.zmag FP.Core.b64 (FP.Core.val64 (FP.Core.ddiv (FP.Core.i2d (sevN f 6).1) (FP.Core.i2d (sevN f 6).2))) : Nat) : Int) := by
        unfold FP.Core.zval
        rw [q2]
        unfold FP.Core.signed
        simp
      have v1 : FP.Core.zval FP.Core.b64 (FP.Core.val64 FP.Core.dconst1) = ((FP.Core.zmag FP.Core.b64 (FP.Core.val64 FP.Core.dconst1) : Nat) : Int) := by
        unfold FP.Core.zval
        rw [s1]
        unfold FP.Core.signed
        simp
      constructor
      · have e := fr_cmp q1 n0
        rw [v0, vq] at e
        exact (congrArg (fun z => ¬ Op.cmpValue z CmpOp.l < 0) e).mpr (fr_ge (Int.natCast_nonneg _))
      · have e := fr_cmp q1 n1
        rw [v1, vq] at e
        exact (congrArg (fun z => ¬ 0 < Op.cmpValue z CmpOp.g) e).mpr (fr_le (Int.ofNat_le.mpr q3))
