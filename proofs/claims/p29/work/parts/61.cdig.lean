def cQF (I : jI) (P : jP) (y : Nat) (I' : jI) (P' : jP) : Prop := (∀ b, (b < y + 46 ∨ y + 91 ≤ b) → b ≠ y + 95 → b ≠ y + 7 → I' b = I b) ∧ hFP P (y + 46) P' ∧ cT P' y
theorem cM.keep {I I' : jI} {P P' : jP} {y : Nat} {f : sF} (M : cM I P y f) (hm : smany f ≤ 10) (K : ∀ b, y + 1 ≤ b → b < y + 46 → b ≠ y + 7 → I' b = I b) (e : P' (y + 3) = P (y + 3)) : cM I' P' y f := by
  obtain ⟨og, H, G⟩ := M
  exact ⟨og, H.keep hm G.lt (fun b h1 h2 h3 => K b (by omega) (by omega) (by omega)), G.ag e⟩
theorem cQF.M {I I' : jI} {P P' : jP} {y : Nat} {f : sF} (F : cQF I P y I' P') (M : cM I P y f) (hm : smany f ≤ 10) : cM I' P' y f := M.keep hm (fun b h1 h2 h3 => F.1 b (by omega) (by omega) h3) (F.2.1 _ (by omega))
theorem cQF.tr {I I1 I2 : jI} {P P1 P2 : jP} {y : Nat} (F : cQF I P y I1 P1) (F2 : cQF I1 P1 y I2 P2) : cQF I P y I2 P2 := ⟨fun b h1 h2 h3 => (F2.1 b h1 h2 h3).trans (F.1 b h1 h2 h3), F.2.1.tr F2.2.1, F2.2.2⟩
theorem cQF.rf {I : jI} {P : jP} {y : Nat} (U : cT P y) : cQF I P y I P := ⟨fun _ _ _ _ => rfl, hFP.rf, U⟩
