/-! FACTS of a state that the property's look rests on -/
theorem aT_M {n : Nat} (hn : n ≤ 36) : 9768600 * n < 2 ^ 31 := Nat.lt_of_le_of_lt (Nat.mul_le_mul_left 9768600 hn) (by decide)
theorem fx_w {n w : Nat} {f : sF} (a : aT n f) (hn : n ≤ 36) (hw : w < 6) : f (18 + 12 * w + 6) ≤ f (18 + 12 * w + 5) ∧ 0 ≤ f (18 + 12 * w + 3) ∧ f (18 + 12 * w + 3) ≤ f (18 + 12 * w + 7) ∧ 0 ≤ f (18 + 12 * w + 4) := by
  have hM := aT_M hn
  obtain ⟨wo, fa, de, bo, ⟨e1, e2, e3, e4⟩, b1, b2, b3, b4⟩ := a.2.2.1.1 w hw
  have c1 := Nat.lt_of_le_of_lt b3 hM
  have c2 := Nat.lt_of_le_of_lt b4 hM
  obtain ⟨E, p, dn, lt, g1, ⟨g2, g3, g4⟩, g5, g6, g7, g8⟩ := a.2.2.1.2.1
  have c3 := Nat.lt_of_le_of_lt g8 hM
  have hE : E w ≤ p := by
    rcases (by omega : w = 0 ∨ w = 1 ∨ w = 2 ∨ w = 3 ∨ w = 4 ∨ w = 5) with rfl | rfl | rfl | rfl | rfl | rfl <;> omega
  rw [e1, e2, e3, e4, g1 w hw]
  exact ⟨(nI_leI (by omega) c1).mpr b1, nI_pos' (by omega), (nI_leI (by omega) c2).mpr b2, nI_pos' (by omega)⟩
theorem fx_he {n : Nat} {f : sF} (a : aT n f) (hn : n ≤ 36) : ∀ w, w < 6 → 0 ≤ f (18 + 12 * w + 4) := fun w hw => (fx_w a hn hw).2.2.2
theorem fx_paid {n : Nat} {f : sF} (a : aT n f) (hn : n ≤ 36) : ssum (fun w => f (18 + 12 * w + 4)) 6 ≤ f 9 ∧ f 8 ≤ f 7 := by
  have hM := aT_M hn
  obtain ⟨E, p, dn, lt, g1, ⟨g2, g3, g4⟩, g5, g6, g7, g8⟩ := a.2.2.1.2.1
  have c3 := Nat.lt_of_le_of_lt g8 hM
  have c4 := Nat.lt_of_le_of_lt g7 hM
  rw [ssum_6 g1, g2, g3, g4]
  exact ⟨(nI_leI (by omega) c3).mpr g5, (nI_leI (by omega) c4).mpr g6⟩
theorem fx_next {n w : Nat} {f : sF} (a : aT n f) (hn : n ≤ 36) (hI : sI f) (hw : w < 6) :
    (f (18 + 12 * w + 0) = nI 0 ∧ snextK f w 1 = nI 1 ∧ snextK f w 0 = -1 ∧ f (18 + 12 * w + 1) = nI 0 ∧ f (18 + 12 * w + 2) = nI 0) ∨
    (∃ v, (40 ≤ v ∧ v < 2 ^ 31) ∧ f (18 + 12 * w + 0) = nI v ∧ snextK f w 1 = nI 2 ∧ snextK f w 0 = -1) ∨
    ∃ v o nu, (40 ≤ v ∧ v < 2 ^ 31) ∧ f (18 + 12 * w + 0) = nI v ∧ (snextK f w 1 = nI 0 ∨ snextK f w 1 = nI 3) ∧ o < smany f ∧ nu < 2 ^ 31 ∧ f (90 + 12 * o + 0) = nI nu ∧ snextK f w 0 = nI nu ∧ f (90 + 12 * o + 2) ≤ f (18 + 12 * w + 0) := by
  have e1 : snextK f w 1 = snext1 f w := rfl
  have e0 : snextK f w 0 = snext0 f w := rfl
  rw [e1, e0]
  rcases hI.2.1.2.2.1 w hw with h | h
  · have hz : f (18 + 12 * w + 0) = 0 := h.trans nI_0
    have hc : snch f w = none := by unfold snch; rw [if_pos hz]
    obtain ⟨l1, l2⟩ := a.2.2.1.2.2.2.2 w hw h
    refine Or.inl ⟨h, ?_, ?_, l1, l2⟩
    · unfold snext1; rw [hc]; dsimp only; rw [if_pos hz]
    · unfold snext0; rw [hc]
  · obtain ⟨v, v1, v2⟩ := nI_of (x := f (18 + 12 * w + 0)) (by
      have h9 : nI 0 ≤ f (18 + 12 * w + 0) := Int32.le_trans (by decide) h
      rw [nI_0] at h9
      exact i32_nlt.mpr h9)
    have hv : 40 ≤ v := by
      rw [v2] at h
      exact (nI_leI (by decide) v1).mp h
    have hnz : ¬ f (18 + 12 * w + 0) = 0 := by rw [v2]; exact nI_ne0 (by omega) v1
    have hc : snch f w = schos f w := by unfold snch; rw [if_neg hnz]
    refine Or.inr ?_
    cases hq : schos f w with
    | none =>
      rw [hq] at hc
      refine Or.inl ⟨v, ⟨hv, v1⟩, v2, ?_, ?_⟩
      · unfold snext1; rw [hc]; dsimp only; rw [if_neg hnz]
      · unfold snext0; rw [hc]
    | some o =>
      rw [hq] at hc
      obtain ⟨o1, o2⟩ := schosN_lt hq
      obtain ⟨⟨n0, m1, m2, m3⟩, -⟩ := a.2.2.1.2.2.2.1
      obtain ⟨nu, du, ⟨q1, q2⟩, q3, q4⟩ := m3 o o1
      refine Or.inr ⟨v, o, nu, ⟨hv, v1⟩, v2, ?_, o1, by omega, q1, ?_, o2⟩
      · unfold snext1; rw [hc]; dsimp only
        split
        · exact Or.inl rfl
        · exact Or.inr rfl
      · unfold snext0; rw [hc]; exact q1
/-- an order is found by its number -/
theorem fx_place {n o : Nat} {f : sF} (a : aT n f) (ho : o < smany f) : splace f (f (90 + 12 * o + 0)) = some o := by
  cases hq : splace f (f (90 + 12 * o + 0)) with
  | none =>
    have h1 := sfst_none hq o ho
    rw [decide_eq_false_iff_not] at h1
    exact absurd rfl h1
  | some i =>
    obtain ⟨i1, i2⟩ := sfst_lt hq
    have h2 := of_decide_eq_true i2
    rw [a.2.2.1.2.2.2.1.2.2 i o i1 ho h2]
theorem fx_num {n i j : Nat} {f : sF} (a : aT n f) (hi : i < smany f) (hj : j < smany f) (h : f (90 + 12 * i + 0) = f (90 + 12 * j + 0)) : i = j := a.2.2.1.2.2.2.1.2.2 i j hi hj h
theorem fx_sort {n i j : Nat} {f : sF} (a : aT n f) (hi : i < j) (hj : j < smany f) : f (90 + 12 * i + 5) < f (90 + 12 * j + 5) ∨ f (90 + 12 * i + 5) = f (90 + 12 * j + 5) ∧ f (90 + 12 * i + 0) < f (90 + 12 * j + 0) := a.2.2.1.2.2.2.1.2.1 i j hi hj
/-- the whole is no more than the price of what is good -/
theorem swhole_le {f : sF} {o P l t s : Nat} (hp : f (90 + 12 * o + 4) = nI P) (hP : P ≤ 99) (hl : l ≤ 200) (ht : slate f o = nI t) (ht2 : t ≤ 10000) (hs : f 2 = nI s) (hs2 : s ≤ 50) : ∃ W, W ≤ l * P ∧ swhole f o (nI l) = nI W := by
  have h1 : P * l ≤ 99 * 200 := Nat.mul_le_mul hP hl
  have h2 : P * l * t ≤ 99 * 200 * 10000 := Nat.mul_le_mul h1 ht2
  have h3 : P * l * t * s ≤ 99 * 200 * 10000 * 50 := Nat.mul_le_mul h2 hs2
  have e : sless f o (nI l) = lN (P * l * t * s / 100) := by
    unfold sless
    rw [hp, ht, hs, nI_l (by omega), nI_l (by omega), nI_l (by omega), nI_l (by omega), lN_mul, lN_mul, lN_mul]
    exact pk_lDiv (by omega) (by decide) (by decide)
  unfold swhole
  rw [e, hp, nI_l (by omega), nI_l (by omega), lN_mul, Nat.mul_comm l P]
  generalize P * l * t * s = X at h3
  generalize P * l = Y at h1
  by_cases hc : X / 100 ≤ Y
  · rw [if_pos ((pk_lLE (by omega) (by omega)).mpr hc), lN_sub hc, lN_i]
    exact ⟨_, Nat.sub_le _ _, rfl⟩
  · rw [if_neg (fun z => hc ((pk_lLE (by omega) (by omega)).mp z))]
    exact ⟨0, Nat.zero_le _, rfl⟩
theorem fx_good {o : Nat} {f : sF} (hI : sI f) (ho : o < smany f) : ∃ g len pr, sgood f o = nI g ∧ f (90 + 12 * o + 3) = nI len ∧ f (90 + 12 * o + 4) = nI pr ∧ g < len ∧ len ≤ 200 ∧ pr ≤ 99 := by
  obtain ⟨b1, b2, b3, b4, b5, b6, b7⟩ := (hI.2.2 o ho).1
  exact ⟨sGs f o, sLn f o, sPr f o, (sIb_good (hI.2.2 o ho).1).1, b2, b3, (hI.2.2 o ho).2, b5, b4⟩
/-- what all would be due is no more than that -/
theorem fx_due {n o : Nat} {f : sF} (a : aT n f) (hI : sI f) (ho : o < smany f) : 0 ≤ ssum (fun w => sdueN f o w) 6 ∧ ssum (fun w => sdueN f o w) 6 ≤ sgood f o * f (90 + 12 * o + 4) := by
  obtain ⟨g, len, pr, e1, e2, e3, h1, h2, h3⟩ := fx_good hI ho
  have hgp : g * pr ≤ 200 * 99 := Nat.mul_le_mul (by omega) h3
  obtain ⟨D, h9, s1, s2, s3, c⟩ := a.1
  obtain ⟨⟨vw, vw1, vw2⟩, vd, vd1, vd2⟩ := c.2.2 o ho
  obtain ⟨s, t1, t2⟩ := c.2.1.2
  obtain ⟨t, u1, u2⟩ := slate_b c.2.1.1 (by omega) vd2 vd1
  obtain ⟨W, W1, W2⟩ := swhole_le (l := g) e3 h3 (by omega) u2 u1 t2 t1
  have key : ∃ W, W ≤ g * pr ∧ ssum (fun w => sdueN f o w) 6 = nI W := by
    by_cases hg : g = 0
    · subst hg
      have z : ∀ w, w < 6 → sdueN f o w = nI ((fun _ => 0 : Nat → Nat) w) := fun w hw => by
        have hz : sgood f o = 0 := e1.trans nI_0
        have hd : ∀ v, sdues f o (swhole f o (sgood f o)) (sgood f o) 6 (fun _ => nI 0) v = nI 0 := fun v => by
          unfold sdues
          split
          · unfold sdue
            rw [if_pos hz]
          · rfl
        unfold sdueN sshares
        rw [hd, if_pos hz, nI_add]
        by_cases c9 : w = smost f o 6
        · rw [← c9, upd_s]
        · rw [upd_n c9, hd]
      exact ⟨0, Nat.zero_le _, (ssum_6 z)⟩
    · refine ⟨W, W1, ?_⟩
      have hne : ¬ sgood f o = 0 := by rw [e1]; exact nI_ne0 (by omega) (by omega)
      have := sh_sum (f := f) (o := o) (whole := swhole f o (sgood f o)) (len := sgood f o) (du := fun _ => nI 0) hne
      rw [e1, W2] at this
      show ssum (sshares f o (swhole f o (sgood f o)) (sgood f o) (fun _ => nI 0)) 6 = nI W
      rw [e1, W2]
      exact this
  obtain ⟨X, x1, x2⟩ := key
  rw [x2, e1, e3, pk_mul]
  exact ⟨nI_pos' (by omega), (nI_leI (by omega) (by omega)).mpr x1⟩
