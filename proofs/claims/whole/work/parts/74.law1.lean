/-! THE LAW: class and reference keep step -/
/-- after n calls the class at y and the reference at x stand for one state -/
def lI (n : Nat) (I : jI) (P : jP) (y x : Nat) : Prop := ∃ (q t : Nat) (pst : Nat → sF) (ch : Nat → Nat), cR I P y (I (x + 1)) q pst t ch ∧ mP P x ∧ I x 3 = nI q ∧ I x 5 = nI t ∧ (∀ i, i < q → ∀ k, k < 210 → I (x + 3) (210 * i + k) = pst i k) ∧ (∀ j, j < t → I (x + 4) j = nI (ch j)) ∧ sB n (I (x + 1)) ∧ ∀ i, i < q → sB n (pst i)
theorem mP.ag {P P' : jP} {x : Nat} (h : mP P x) (e : P' x = P x) : mP P' x := by
  obtain ⟨a1, a2, a3, a4, a5, a6⟩ := h
  exact ⟨by rw [e]; exact a1, by rw [e]; exact a2, by rw [e]; exact a3, by rw [e]; exact a4, by rw [e]; exact a5, by rw [e]; exact a6⟩
theorem lg_eq (a : Int64) : lg_cmp a a = 0 := by
  unfold lg_cmp
  simp
/-- what a call leaves for the comparison -/
def lE (n i : Nat) (r : Int32) (o y x : Nat) (P1 : jP) (L1 : jL) (v v2 : Option Value) (I2 : jI) (P2 : jP) (L2 : jL) : Prop := lI (i + 1) I2 P2 y x ∧ v = some (.int (nI n)) ∧ P2 = P1 ∧ L2 = L1 ∧ ∃ r2, v2 = some (.int r2) ∧ I2 x 6 = nI n ∧ (n = 0 → r2 = r ∧ L1 o 0 = r.toInt64)
theorem jstL_s {L : jL} {o : Nat} {v : Int64} : jstL L o 0 v o 0 = v := by
  unfold jstL
  rw [va_up_s]
  exact if_pos rfl
theorem lE_do {I I1 I2 : jI} {P P1 P2 : jP} {L L1 L2 : jL} {y x o i q t : Nat} {pst : Nat → sF} {ch : Nat → Nat} {S : Nat × Int32 × sF} {v v2 : Option Value} (hyx : y + 366 ≤ x) (hP : mP P x) (h3 : I x 3 = nI q) (h5 : I x 5 = nI t) (hpa : ∀ i, i < q → ∀ k, k < 210 → I (x + 3) (210 * i + k) = pst i k) (htx : ∀ j, j < t → I (x + 4) j = nI (ch j)) (hb1 : sB i (I (x + 1))) (hb2 : ∀ j, j < q → sB i (pst j)) (hq6 : q ≤ 6)
    (w : wQ I P L y o S.1 S.2.1 (fun I' P' => cR I' P' y S.2.2 (min q 5 + 1) (spush (I (x + 1)) q pst) t ch) (fun I' P' => cR I' P' y (I (x + 1)) q pst t ch) v I1 P1 L1) (d : mDo I1 P1 L1 x S v2 I2 P2 L2) (hB : S.1 = 0 → sB (i + 1) S.2.2) : lE S.1 i S.2.1 o y x P1 L1 v v2 I2 P2 L2 := by
  obtain ⟨rfl, f1, f2, w0, w1⟩ := w
  obtain ⟨eP, eL, r, rfl, h6, g1, g2, g3, g4, g5⟩ := d
  subst eP
  subst eL
  have ex : ∀ b, x ≤ b → I1 b = I b := fun b hb => f1 b (by omega)
  have hP2 : mP P2 x := hP.ag (f2 x (by omega))
  have keep : ∀ b, y ≤ b → b < y + 366 → I2 b = I1 b := fun b b1 b2 => g1 b (by omega)
  refine ⟨?_, rfl, rfl, rfl, r, rfl, h6, fun h0 => ⟨(g4 h0).1, by rw [(w0 h0).2]; exact jstL_s⟩⟩
  by_cases h0 : S.1 = 0
  · obtain ⟨-, e1, q', p1, p2, p3, p4, p5⟩ := g4 h0
    have eq : q' = q := by
      rw [ex x (Nat.le_refl _), h3] at p1
      exact ((nI_eq (by omega) (by omega)).mp p1).symm
    subst eq
    refine ⟨min q' 5 + 1, t, spush (I (x + 1)) q' pst, ch, ?_, hP2, p3, ?_, fun i hi k hk => ?_, fun j hj => ?_, by rw [e1]; exact hB h0, fun j hj => ?_⟩
    · rw [e1]
      exact (w0 h0).1.keep keep rfl
    · rw [g2, ex x (Nat.le_refl _)]; exact h5
    · unfold spush
      by_cases c : i = min q' 5
      · rw [if_pos c, c, p4 k hk, ex _ (by omega)]
      · rw [if_neg c, p5 i (by omega) k hk, ex _ (by omega)]
        exact hpa _ (by omega) k hk
    · rw [g3, ex _ (by omega)]; exact htx j hj
    · unfold spush
      by_cases c : j = min q' 5
      · rw [if_pos c]; exact sB_mono hb1 (by omega)
      · rw [if_neg c]; exact sB_mono (hb2 _ (by omega)) (by omega)
  · obtain ⟨e1, e2, e3⟩ := g5 h0
    have ea : I2 (x + 1) = I (x + 1) := e1.trans (ex _ (by omega))
    refine ⟨q, t, pst, ch, ?_, hP2, ?_, ?_, fun i hi k hk => ?_, fun j hj => ?_, by rw [ea]; exact sB_mono hb1 (by omega), fun j hj => sB_mono (hb2 j hj) (by omega)⟩
    · rw [ea]
      exact (w1 h0).1.keep keep rfl
    · rw [e2, ex x (Nat.le_refl _)]; exact h3
    · rw [g2, ex x (Nat.le_refl _)]; exact h5
    · rw [e3, ex _ (by omega)]; exact hpa i hi k hk
    · rw [g3, ex _ (by omega)]; exact htx j hj
theorem lE_qu {I I1 I2 : jI} {P P1 P2 : jP} {L L1 L2 : jL} {y x o i q t : Nat} {pst : Nat → sF} {ch : Nat → Nat} {S : Nat × Int32} {v v2 : Option Value} (hyx : y + 366 ≤ x) (hP : mP P x) (h3 : I x 3 = nI q) (h5 : I x 5 = nI t) (hpa : ∀ i, i < q → ∀ k, k < 210 → I (x + 3) (210 * i + k) = pst i k) (htx : ∀ j, j < t → I (x + 4) j = nI (ch j)) (hb1 : sB i (I (x + 1))) (hb2 : ∀ j, j < q → sB i (pst j))
    (w : wQ I P L y o S.1 S.2 (fun I' P' => cR I' P' y (I (x + 1)) q pst t ch) (fun I' P' => cR I' P' y (I (x + 1)) q pst t ch) v I1 P1 L1) (d : mQu I1 P1 L1 x S v2 I2 P2 L2) : lE S.1 i S.2 o y x P1 L1 v v2 I2 P2 L2 := by
  obtain ⟨rfl, f1, f2, w0, w1⟩ := w
  obtain ⟨eP, eL, r, rfl, h6, g4, g1, e1, e2, e4, e3, e5⟩ := d
  subst eP
  subst eL
  have ex : ∀ b, x ≤ b → I1 b = I b := fun b hb => f1 b (by omega)
  have hP2 : mP P2 x := hP.ag (f2 x (by omega))
  have keep : ∀ b, y ≤ b → b < y + 366 → I2 b = I1 b := fun b b1 b2 => g1 b (by omega)
  have R1 : cR I1 P2 y (I (x + 1)) q pst t ch := by
    by_cases h0 : S.1 = 0
    · exact (w0 h0).1
    · exact (w1 h0).1
  have ea : I2 (x + 1) = I (x + 1) := e1.trans (ex _ (by omega))
  refine ⟨⟨q, t, pst, ch, by rw [ea]; exact R1.keep keep rfl, hP2, ?_, ?_, fun i hi k hk => ?_, fun j hj => ?_, by rw [ea]; exact sB_mono hb1 (by omega), fun j hj => sB_mono (hb2 j hj) (by omega)⟩, rfl, rfl, rfl, r, rfl, h6, fun h0 => ⟨g4 h0, by rw [(w0 h0).2]; exact jstL_s⟩⟩
  · rw [e3, ex x (Nat.le_refl _)]; exact h3
  · rw [e5, ex x (Nat.le_refl _)]; exact h5
  · rw [e2, ex _ (by omega)]; exact hpa i hi k hk
  · rw [e4, ex _ (by omega)]; exact htx j hj
theorem lE_take {I I1 I2 : jI} {P P1 P2 : jP} {L L1 L2 : jL} {y x o i q t : Nat} {pst : Nat → sF} {ch : Nat → Nat} {S : Nat × Int32 × sF} {v v2 : Option Value} (hyx : y + 366 ≤ x) (hP : mP P x) (h3 : I x 3 = nI q) (h5 : I x 5 = nI t) (hpa : ∀ i, i < q → ∀ k, k < 210 → I (x + 3) (210 * i + k) = pst i k) (htx : ∀ j, j < t → I (x + 4) j = nI (ch j)) (hb1 : sB i (I (x + 1))) (hb2 : ∀ j, j < q → sB i (pst j)) (hq6 : q ≤ 6)
    (w : wQ I P L y o S.1 S.2.1 (fun I' P' => cR I' P' y S.2.2 (min q 5 + 1) (spush (I (x + 1)) q pst) 0 ch) (fun I' P' => cR I' P' y (I (x + 1)) q pst t ch) v I1 P1 L1) (d : mTk I1 P1 L1 x S v2 I2 P2 L2) (hB : S.1 = 0 → sB (i + 1) S.2.2) : lE S.1 i S.2.1 o y x P1 L1 v v2 I2 P2 L2 := by
  obtain ⟨rfl, f1, f2, w0, w1⟩ := w
  obtain ⟨eP, eL, r, rfl, h6, g1, g3, g4, g5⟩ := d
  subst eP
  subst eL
  have ex : ∀ b, x ≤ b → I1 b = I b := fun b hb => f1 b (by omega)
  have hP2 : mP P2 x := hP.ag (f2 x (by omega))
  have keep : ∀ b, y ≤ b → b < y + 366 → I2 b = I1 b := fun b b1 b2 => g1 b (by omega)
  refine ⟨?_, rfl, rfl, rfl, r, rfl, h6, fun h0 => ⟨(g4 h0).1, by rw [(w0 h0).2]; exact jstL_s⟩⟩
  by_cases h0 : S.1 = 0
  · obtain ⟨-, e1, ⟨q', p1, p2, p3, p4, p5⟩, g2⟩ := g4 h0
    have eq : q' = q := by
      rw [ex x (Nat.le_refl _), h3] at p1
      exact ((nI_eq (by omega) (by omega)).mp p1).symm
    subst eq
    refine ⟨min q' 5 + 1, 0, spush (I (x + 1)) q' pst, ch, ?_, hP2, p3, g2, fun i hi k hk => ?_, fun j hj => absurd hj (Nat.not_lt_zero j), by rw [e1]; exact hB h0, fun j hj => ?_⟩
    · rw [e1]
      exact (w0 h0).1.keep keep rfl
    · unfold spush
      by_cases c : i = min q' 5
      · rw [if_pos c, c, p4 k hk, ex _ (by omega)]
      · rw [if_neg c, p5 i (by omega) k hk, ex _ (by omega)]
        exact hpa _ (by omega) k hk
    · unfold spush
      by_cases c : j = min q' 5
      · rw [if_pos c]; exact sB_mono hb1 (by omega)
      · rw [if_neg c]; exact sB_mono (hb2 _ (by omega)) (by omega)
  · obtain ⟨e1, e2, e3, g2⟩ := g5 h0
    have ea : I2 (x + 1) = I (x + 1) := e1.trans (ex _ (by omega))
    refine ⟨q, t, pst, ch, ?_, hP2, ?_, ?_, fun i hi k hk => ?_, fun j hj => ?_, by rw [ea]; exact sB_mono hb1 (by omega), fun j hj => sB_mono (hb2 j hj) (by omega)⟩
    · rw [ea]
      exact (w1 h0).1.keep keep rfl
    · rw [e2, ex x (Nat.le_refl _)]; exact h3
    · rw [g2, ex x (Nat.le_refl _)]; exact h5
    · rw [e3, ex _ (by omega)]; exact hpa i hi k hk
    · rw [g3, ex _ (by omega)]; exact htx j hj
theorem lE_undo {I I1 I2 : jI} {P P1 P2 : jP} {L L1 L2 : jL} {y x o i q t : Nat} {pst : Nat → sF} {ch : Nat → Nat} {v v2 : Option Value} (hyx : y + 366 ≤ x) (hP : mP P x) (h3 : I x 3 = nI q) (h5 : I x 5 = nI t) (hpa : ∀ i, i < q → ∀ k, k < 210 → I (x + 3) (210 * i + k) = pst i k) (htx : ∀ j, j < t → I (x + 4) j = nI (ch j)) (hb1 : sB i (I (x + 1))) (hb2 : ∀ j, j < q → sB i (pst j)) (hq6 : q ≤ 6) (hK : ∀ j, j < q → sI (pst j))
    (w : wQ I P L y o (if q = 0 then 1 else 0) (nI (q - 1)) (fun I' P' => cR I' P' y (pst (q - 1)) (q - 1) pst t ch) (fun I' P' => cR I' P' y (I (x + 1)) q pst t ch) v I1 P1 L1) (d : mUn I1 P1 L1 x q v2 I2 P2 L2) : lE (if q = 0 then 1 else 0) i (nI (q - 1)) o y x P1 L1 v v2 I2 P2 L2 := by
  obtain ⟨rfl, f1, f2, w0, w1⟩ := w
  obtain ⟨eP, eL, r, rfl, h6, g1, g2, g3, g4, g5⟩ := d
  subst eP
  subst eL
  have ex : ∀ b, x ≤ b → I1 b = I b := fun b hb => f1 b (by omega)
  have hP2 : mP P2 x := hP.ag (f2 x (by omega))
  have keep : ∀ b, y ≤ b → b < y + 366 → I2 b = I1 b := fun b b1 b2 => g1 b (by omega)
  by_cases h0 : q = 0
  · have ea : I2 (x + 1) = I (x + 1) := (g5 h0).trans (ex _ (by omega))
    have hn : (if q = 0 then 1 else 0) ≠ 0 := by rw [if_pos h0]; decide
    refine ⟨⟨q, t, pst, ch, by rw [ea]; exact (w1 hn).1.keep keep rfl, hP2, ?_, ?_, fun i hi => absurd hi (by omega), fun j hj => ?_, by rw [ea]; exact sB_mono hb1 (by omega), fun j hj => absurd hj (by omega)⟩, rfl, rfl, rfl, r, rfl, h6, fun z => absurd z hn⟩
    · rw [g3, h0]
    · rw [g2, ex x (Nat.le_refl _)]; exact h5
    · rw [g1 _ (by omega), ex _ (by omega)]; exact htx j hj
  · have hn : (if q = 0 then 1 else 0) = 0 := if_neg h0
    obtain ⟨er, e1⟩ := g4 h0
    have ea : ∀ k, k < 210 → I2 (x + 1) k = pst (q - 1) k := fun k hk => by rw [e1 k hk, ex _ (by omega)]; exact hpa _ (by omega) k hk
    refine ⟨⟨q - 1, t, pst, ch, ((w0 hn).1.cong ea (fun _ _ _ _ => rfl)).keep keep rfl, hP2, g3, ?_, fun i hi k hk => ?_, fun j hj => ?_, sB_mono (sB_cong ea (hK _ (by omega)).m (hb2 _ (by omega))) (by omega), fun j hj => sB_mono (hb2 j (by omega)) (by omega)⟩, rfl, rfl, rfl, r, rfl, h6, fun _ => ⟨er, by rw [(w0 hn).2]; exact jstL_s⟩⟩
    · rw [g2, ex x (Nat.le_refl _)]; exact h5
    · rw [g1 _ (by omega), ex _ (by omega)]; exact hpa i (by omega) k hk
    · rw [g1 _ (by omega), ex _ (by omega)]; exact htx j hj
theorem lE_app {I I1 I2 : jI} {P P1 P2 : jP} {L L1 L2 : jL} {y x o i q t : Nat} {pst : Nat → sF} {ch : Nat → Nat} {cv : Int32} {v v2 : Option Value} (hyx : y + 366 ≤ x) (hP : mP P x) (h3 : I x 3 = nI q) (h5 : I x 5 = nI t) (hpa : ∀ i, i < q → ∀ k, k < 210 → I (x + 3) (210 * i + k) = pst i k) (htx : ∀ j, j < t → I (x + 4) j = nI (ch j)) (hb1 : sB i (I (x + 1))) (hb2 : ∀ j, j < q → sB i (pst j))
    (w : wQ I P L y o (sapp t cv).1 (sapp t cv).2 (fun I' P' => cR I' P' y (I (x + 1)) q pst (t + 1) (fun j => if j = t then sW cv else ch j)) (fun I' P' => cR I' P' y (I (x + 1)) q pst t ch) v I1 P1 L1) (d : mAp I1 P1 L1 x t cv v2 I2 P2 L2) : lE (sapp t cv).1 i (sapp t cv).2 o y x P1 L1 v v2 I2 P2 L2 := by
  obtain ⟨rfl, f1, f2, w0, w1⟩ := w
  obtain ⟨eP, eL, d⟩ := d
  subst eP
  subst eL
  have ex : ∀ b, x ≤ b → I1 b = I b := fun b hb => f1 b (by omega)
  have hP2 : mP P2 x := hP.ag (f2 x (by omega))
  have no : ∀ k, k ≠ 0 → (sapp t cv).1 = k → v2 = some (.int (nI 0)) → I2 = jst (jst I1 x 6 (nI 0)) x 6 (nI k) → lE (sapp t cv).1 i (sapp t cv).2 o y x P2 L2 (some (.int (nI (sapp t cv).1))) v2 I2 P2 L2 := by
    intro k hk e ev eI
    have hn : (sapp t cv).1 ≠ 0 := by rw [e]; exact hk
    have e9 : ∀ b, b ≠ x → I2 b = I1 b := fun b hb => by rw [eI, jst_ne hb, jst_ne hb]
    have e8 : ∀ j, j ≠ 6 → I2 x j = I1 x j := fun j hj => by rw [eI, jst_eq, upd_n hj, jst_eq, upd_n hj]
    have ea : I2 (x + 1) = I (x + 1) := (e9 _ (by omega)).trans (ex _ (by omega))
    refine ⟨⟨q, t, pst, ch, by rw [ea]; exact (w1 hn).1.keep (fun b b1 b2 => e9 b (by omega)) rfl, hP2, ?_, ?_, fun i hi k hk => ?_, fun j hj => ?_, by rw [ea]; exact sB_mono hb1 (by omega), fun j hj => sB_mono (hb2 j hj) (by omega)⟩, rfl, rfl, rfl, nI 0, ev, ?_, fun z => absurd z hn⟩
    · rw [e8 3 (by decide), ex x (Nat.le_refl _)]; exact h3
    · rw [e8 5 (by decide), ex x (Nat.le_refl _)]; exact h5
    · rw [e9 _ (by omega), ex _ (by omega)]; exact hpa i hi k hk
    · rw [e9 _ (by omega), ex _ (by omega)]; exact htx j hj
    · rw [eI, jst_eq, upd_s, e]
  by_cases c1 : nI 33 ≤ cv ∧ cv ≤ nI 126
  · rw [if_pos c1] at d
    by_cases c2 : t = 60
    · rw [if_pos c2] at d
      exact no 2 (by decide) (by unfold sapp; rw [if_pos c1, if_pos c2]) d.1 d.2
    · rw [if_neg c2] at d
      obtain ⟨ev, eI⟩ := d
      have e : sapp t cv = (0, nI (t + 1)) := by unfold sapp; rw [if_pos c1, if_neg c2]
      have hn : (sapp t cv).1 = 0 := by rw [e]
      have e9 : ∀ b, b ≠ x → b ≠ x + 4 → I2 b = I1 b := fun b h1 h2 => by rw [eI, jst_ne h1, jst_ne h2, jst_ne h1]
      have e8 : ∀ j, j ≠ 5 → I2 x j = jst I1 x 6 (nI 0) x j := fun j hj => by rw [eI, jst_eq, upd_n hj, jst_ne (by omega)]
      have e7 : I2 (x + 4) = upd (I1 (x + 4)) t cv := by rw [eI, jst_ne (by omega), jst_eq, jst_ne (by omega)]
      have ea : I2 (x + 1) = I (x + 1) := (e9 _ (by omega) (by omega)).trans (ex _ (by omega))
      refine ⟨⟨q, t + 1, pst, fun j => if j = t then sW cv else ch j, by rw [ea]; exact (w0 hn).1.keep (fun b b1 b2 => e9 b (by omega) (by omega)) rfl, hP2, ?_, ?_, fun i hi k hk => ?_, fun j hj => ?_, by rw [ea]; exact sB_mono hb1 (by omega), fun j hj => sB_mono (hb2 j hj) (by omega)⟩, rfl, rfl, rfl, nI (t + 1), ev, ?_, fun _ => ⟨by rw [e], by rw [(w0 hn).2]; exact jstL_s⟩⟩
      · rw [e8 3 (by decide), jst_eq, upd_n (by decide), ex x (Nat.le_refl _)]; exact h3
      · rw [eI, jst_eq, upd_s]
      · rw [e9 _ (by omega) (by omega), ex _ (by omega)]; exact hpa i hi k hk
      · rw [e7]
        show _ = nI (if j = t then sW cv else ch j)
        by_cases c3 : j = t
        · rw [if_pos c3, c3, upd_s]
          obtain ⟨w3, hw3, rfl⟩ := in_N (n := 126) (by decide) ⟨Int32.le_trans (by decide : nI 0 ≤ nI 33) c1.1, c1.2⟩
          rw [sW_N (by omega)]
        · rw [if_neg c3, upd_n c3, ex _ (by omega)]; exact htx j (by omega)
      · rw [e8 6 (by decide), jst_eq, upd_s, e]
  · rw [if_neg c1] at d
    exact no 1 (by decide) (by unfold sapp; rw [if_neg c1]) d.1 d.2
