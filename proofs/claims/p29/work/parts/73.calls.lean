/-! STATES up to equality on 210 places; bounds after n calls; preserved by each call -/
theorem sE_I {f g : sF} (E : ∀ k, k < 210 → g k = f k) (h : sI f) : sI g := by
  have hm := h.1.2.1
  refine sI_of h (sE_OK (fun k hk => (E k hk).symm) h.1) (sV_of h.2.1 (E 0 (by decide)) (E 3 (by decide)) (fun w hw => E _ (by omega)) ⟨E 10 (by decide), E 11 (by decide), fun w hw => ⟨E _ (by omega), E _ (by omega)⟩⟩) (E 5 (by decide)) (fun q k hq hk => E _ (by omega))
theorem cR.cong {I : jI} {P : jP} {y : Nat} {f g : sF} {q : Nat} {pst pst' : Nat → sF} {t : Nat} {ch : Nat → Nat} (R : cR I P y f q pst t ch) (E : ∀ k, k < 210 → g k = f k) (E2 : ∀ i, i < q → ∀ k, k < 210 → pst' i k = pst i k) : cR I P y g q pst' t ch := by
  obtain ⟨og, H, G⟩ := R.M
  obtain ⟨sg, w1, w2, w3⟩ := R.W
  refine ⟨R.T, ⟨og, H.cong R.V.m (fun k hk _ _ => E k hk), G⟩, sE_I E R.V, R.U, ⟨sg, w1, w2, fun i hi => ?_⟩, fun i hi => sE_I (E2 i hi) (R.K i hi), R.hq, R.q6, R.B⟩
  obtain ⟨o2, a1, a2⟩ := w3 i hi
  exact ⟨o2, a1, fun hq => (a2 hq).cong (R.K i hq).m (fun k hk _ _ => E2 i hq k hk)⟩
theorem cR.keep {I I' : jI} {P P' : jP} {y : Nat} {f : sF} {q : Nat} {pst : Nat → sF} {t : Nat} {ch : Nat → Nat} (R : cR I P y f q pst t ch) (F : ∀ b, y ≤ b → b < y + 366 → I' b = I b) (G : P' = P) : cR I' P' y f q pst t ch := by
  subst G
  exact ⟨R.T, R.M.ag R.V.m (fun b b1 b2 => F b (by omega) (by omega)) rfl, R.V, R.U, R.W.ag (fun i hi => (R.K i hi).m) (fun b b1 b2 => F b (by omega) b2) (fun _ _ _ => rfl), R.K, (congrFun (F y (by omega) (by omega)) 6).trans R.hq, R.q6, R.B.ag (congrFun (F y (by omega) (by omega)) 7) (F _ (by omega) (by omega))⟩
theorem cR.chars {I : jI} {P : jP} {y : Nat} {f : sF} {q : Nat} {pst : Nat → sF} {t : Nat} {ch ch' : Nat → Nat} (R : cR I P y f q pst t ch) (E : ∀ j, j < t → ch' j = ch j) : cR I P y f q pst t ch' :=
  ⟨R.T, R.M, R.V, R.U, R.W, R.K, R.hq, R.q6, ⟨R.B.1, R.B.2.1, fun j hj => by rw [E j hj]; exact R.B.2.2 j hj⟩⟩
/-- after n calls -/
def sB (n : Nat) (f : sF) : Prop := ∃ D h, D ≤ 10 * n ∧ D + smany f ≤ 10 * n + 10 ∧ h ≤ 9999 ∧ sC D (fun _ => 200 * h) h f
theorem sB_of {n D h : Nat} {K : Nat → Nat} {g : sF} (hD : D ≤ 10 * (n + 1)) (hm : smany g ≤ 10) (hh : h ≤ 9999) (a : sC D K h g) (hK : ∀ w, w < 6 → K w ≤ 200 * h) : sB (n + 1) g := ⟨D, h, hD, by omega, hh, a.mono (Nat.le_refl _) hK⟩
theorem sB_mono {n m1 : Nat} {f : sF} (h : sB n f) (hn : n ≤ m1) : sB m1 f := by
  obtain ⟨D, h1, a1, a2, a3, a4⟩ := h
  exact ⟨D, h1, by omega, by omega, a3, a4⟩
theorem sB_he {n : Nat} {f : sF} (h : sB n f) (hn : n ≤ 600) : ∀ w, w < 6 → 0 ≤ f (18 + 12 * w + 4) := by
  obtain ⟨D, h1, a1, a2, a3, a4⟩ := h
  intro w hw
  obtain ⟨⟨e, e1, e2⟩, -⟩ := a4.1 w hw
  rw [e2]
  exact nI_pos' (by omega)
theorem sB_cong {n : Nat} {f g : sF} (E : ∀ k, k < 210 → g k = f k) (hm : smany f ≤ 10) (h : sB n f) : sB n g := by
  obtain ⟨D, h1, a1, a2, a3, a4⟩ := h
  have em : smany g = smany f := by unfold smany; rw [E 5 (by decide)]
  exact ⟨D, h1, a1, by rw [em]; exact a2, a3, a4.same (fun w hw => ⟨E _ (by omega), E _ (by omega)⟩) (E 4 (by decide)) (E 2 (by decide)) em (fun o ho => ⟨E _ (by omega), E _ (by omega)⟩)⟩
theorem sB_0 : sB 0 srow := by
  refine ⟨0, 0, Nat.le_refl _, by rw [smany_srow]; decide, by decide, fun w hw => ⟨⟨0, Nat.le_refl _, srow_0 (by omega)⟩, 0, Nat.le_refl _, srow_0 (by omega)⟩, ⟨srow_0 (by decide), 5, by decide, rfl⟩, fun o ho => by rw [smany_srow] at ho; exact absurd ho (Nat.not_lt_zero o)⟩
/-- only places that the bounds don't speak of change -/
theorem sB_same {n : Nat} {f g : sF} (h : sB n f) (E : ∀ w, w < 6 → g (18 + 12 * w + 4) = f (18 + 12 * w + 4) ∧ g (18 + 12 * w + 3) = f (18 + 12 * w + 3)) (e4 : g 4 = f 4) (e2 : g 2 = f 2) (e5 : g 5 = f 5) (eo : ∀ o, g (90 + 12 * o + 2) = f (90 + 12 * o + 2) ∧ g (90 + 12 * o + 5) = f (90 + 12 * o + 5)) : sB (n + 1) g := by
  obtain ⟨D, h1, a1, a2, a3, a4⟩ := h
  have em : smany g = smany f := by unfold smany; rw [e5]
  exact ⟨D, h1, by omega, by rw [em]; omega, a3, a4.same E e4 e2 em (fun o _ => eo o)⟩
theorem sB_loom {n : Nat} {f : sF} {wv wd sp ca : Int32} (h : sB n f) (hS : (sloom f wv wd sp ca).1 = 0) : sB (n + 1) (sloom f wv wd sp ca).2.2 := by
  unfold sloom at hS ⊢
  split at hS
  · rename_i c1
    obtain ⟨w, hw, rfl⟩ := in_N (by decide) c1
    split at hS
    · rename_i c2
      rw [if_pos c1, if_pos c2, sW_N (by omega)]
      have n1 : ∀ k, k ≠ 18 + 12 * w + 0 → k ≠ 18 + 12 * w + 1 → k ≠ 18 + 12 * w + 2 → upd (upd (upd f (18 + 12 * w + 0) wd) (18 + 12 * w + 1) (if wd = 0 then nI 0 else sp)) (18 + 12 * w + 2) (if wd = 0 then nI 0 else ca) k = f k := fun k h1 h2 h3 => by rw [upd_n h3, upd_n h2, upd_n h1]
      exact sB_same h (fun v hv => ⟨n1 _ (by omega) (by omega) (by omega), n1 _ (by omega) (by omega) (by omega)⟩) (n1 4 (by omega) (by omega) (by omega)) (n1 2 (by omega) (by omega) (by omega)) (n1 5 (by omega) (by omega) (by omega)) (fun o => ⟨n1 _ (by omega) (by omega) (by omega), n1 _ (by omega) (by omega) (by omega)⟩)
    · cases hS
  · cases hS
theorem sB_yu {n k : Nat} {f : sF} {v : Int32} (h : sB n f) (hk : (14 ≤ k ∧ k < 18) ∨ ∃ w c, w < 6 ∧ c < 4 ∧ k = 18 + 12 * w + (8 + c)) : sB (n + 1) (upd f k v) := by
  have n1 : ∀ w i, w < 6 → i < 8 → 18 + 12 * w + i ≠ k := by
    intro w i hw hi
    rcases hk with z | ⟨w2, c2, z1, z2, rfl⟩ <;> omega
  have n2 : ∀ j, j < 14 → j ≠ k := by
    intro j hj
    rcases hk with z | ⟨w2, c2, z1, z2, rfl⟩ <;> omega
  have n3 : ∀ q i, i < 12 → 90 + 12 * q + i ≠ k := by
    intro q i hi
    rcases hk with z | ⟨w2, c2, z1, z2, rfl⟩ <;> omega
  exact sB_same h (fun v hv => ⟨upd_n (n1 v 4 hv (by decide)), upd_n (n1 v 3 hv (by decide))⟩) (upd_n (n2 4 (by decide))) (upd_n (n2 2 (by decide))) (upd_n (n2 5 (by decide))) (fun o => ⟨upd_n (n3 o 2 (by decide)), upd_n (n3 o 5 (by decide))⟩)
theorem sB_yarn {n : Nat} {f : sF} {wv cv g : Int32} (h : sB n f) (hS : (syarn f wv cv g).1 = 0) : sB (n + 1) (syarn f wv cv g).2.2 := by
  unfold syarn at hS ⊢
  split at hS
  · rename_i c1
    obtain ⟨w, hw, rfl⟩ := in_N (by decide) c1.1
    obtain ⟨k, hk, rfl⟩ := in_N (by decide) c1.2
    split at hS
    · rename_i c2
      split at hS
      · rename_i c3
        rw [if_pos c1, if_pos c2, if_pos c3, sW_N (by omega), sW_N (by omega)]
        exact sB_yu h (Or.inr ⟨w, k, by omega, by omega, rfl⟩)
      · cases hS
    · cases hS
  · cases hS
theorem sB_store {n : Nat} {f : sF} {cv g : Int32} (h : sB n f) (hS : (sstore f cv g).1 = 0) : sB (n + 1) (sstore f cv g).2.2 := by
  unfold sstore at hS ⊢
  split at hS
  · rename_i c1
    obtain ⟨k, hk, rfl⟩ := in_N (by decide) c1
    split at hS
    · rename_i c2
      split at hS
      · rename_i c3
        rw [if_pos c1, if_pos c2, if_pos c3, sW_N (by omega)]
        exact sB_yu h (Or.inl (by omega))
      · cases hS
    · cases hS
  · cases hS
theorem sB_give {n : Nat} {f : sF} {wv ov cv g : Int32} (h : sB n f) (hS : (sgive f wv ov cv g).1 = 0) : sB (n + 1) (sgive f wv ov cv g).2.2 := by
  unfold sgive at hS ⊢
  split at hS
  · rename_i c1
    obtain ⟨w, hw, rfl⟩ := in_N (by decide) c1.1
    obtain ⟨v, hv, rfl⟩ := in_N (by decide) c1.2.1
    obtain ⟨k, hk, rfl⟩ := in_N (by decide) c1.2.2
    split at hS
    · rename_i c2
      split at hS
      · rename_i c3
        rw [if_pos c1, if_pos c2, if_pos c3, sW_N (by omega), sW_N (by omega), sW_N (by omega)]
        have n1 : ∀ j, j ≠ 18 + 12 * w + (8 + k) → j ≠ 18 + 12 * v + (8 + k) → upd (upd f (18 + 12 * w + (8 + k)) (f (18 + 12 * w + (8 + k)) + -g)) (18 + 12 * v + (8 + k)) (f (18 + 12 * v + (8 + k)) + g) j = f j := fun j h1 h2 => by rw [upd_n h2, upd_n h1]
        exact sB_same h (fun u hu => ⟨n1 _ (by omega) (by omega), n1 _ (by omega) (by omega)⟩) (n1 4 (by omega) (by omega)) (n1 2 (by omega) (by omega)) (n1 5 (by omega) (by omega)) (fun o => ⟨n1 _ (by omega) (by omega), n1 _ (by omega) (by omega)⟩)
      · cases hS
    · cases hS
  · cases hS
theorem sB_set {n : Nat} {f : sF} {sv v : Int32} (h : sB n f) (hS : (sset f sv v).1 = 0) : sB (n + 1) (sset f sv v).2.2 := by
  unfold sset at hS ⊢
  split at hS
  · rename_i c1
    obtain ⟨k, hk, rfl⟩ := in_N (by decide) c1
    split at hS
    · rename_i c2
      rw [if_pos c1, if_pos c2, sW_N (by omega)]
      show sB (n + 1) (upd f k v)
      obtain ⟨D, h1, a1, a2, a3, a4⟩ := h
      have n1 : ∀ j, 4 ≤ j → upd f k v j = f j := fun j hj => upd_n (by omega)
      have em : smany (upd f k v) = smany f := smany_u (by omega)
      refine ⟨D, h1, by omega, by rw [em]; omega, a3, fun w hw => by rw [n1 _ (by omega), n1 _ (by omega)]; exact a4.1 w hw, ⟨by rw [n1 4 (by decide)]; exact a4.2.1.1, ?_⟩, fun o ho => by rw [em] at ho; rw [n1 _ (by omega), n1 _ (by omega)]; exact a4.2.2 o ho⟩
      by_cases c : k = 2
      · subst c
        obtain ⟨s, hs, rfl⟩ := in_N (n := 50) (by decide) ⟨c2.1, c2.2⟩
        exact ⟨s, hs, upd_s⟩
      · rw [upd_n (by omega)]; exact a4.2.1.2
    · cases hS
  · cases hS
theorem sC_comes {D h : Nat} {K : Nat → Nat} {f : sF} {cv len pr : Int32} {wd du : Nat} (a : sC D K h f) (h5 : f 5 = nI (smany f)) (hk9 : smany f ≤ 10) (hw : wd ≤ 200) (hd : du ≤ 9999) : sC D K h (scomes f cv (nI wd) len pr (nI du)) := by
  have e5 := scomes_m (cv := cv) (wd := nI wd) (len := len) (pr := pr) (due := nI du) h5 hk9
  have hpos := spos_le (f := f) (due := nI du) (smany f)
  have eN : ∀ k, k < 90 → k ≠ 5 → k ≠ 6 → scomes f cv (nI wd) len pr (nI du) k = f k := fun k a b c => scomes_n a b c
  refine ⟨fun w hw => by rw [eN _ (by omega) (by omega) (by omega), eN _ (by omega) (by omega) (by omega)]; exact a.1 w hw, by rw [eN 4 (by decide) (by decide) (by decide), eN 2 (by decide) (by decide) (by decide)]; exact a.2.1, fun o ho => ?_⟩
  rw [e5] at ho
  by_cases h1 : o < spos f (nI du) (smany f)
  · rw [scomes_lo h1 (by decide), scomes_lo h1 (by decide)]
    exact a.2.2 o (by omega)
  · by_cases h2 : o = spos f (nI du) (smany f)
    · rw [h2, scomes_at (by decide), scomes_at (by decide)]
      exact ⟨⟨wd, hw, rfl⟩, du, hd, rfl⟩
    · have e : ∀ k, k < 12 → scomes f cv (nI wd) len pr (nI du) (90 + 12 * o + k) = f (90 + 12 * (o - 1) + k) := fun k hk => by
        have := scomes_hi (f := f) (cv := cv) (wd := nI wd) (len := len) (pr := pr) (due := nI du) (o := o - 1) (k := k) (by omega) (by omega) hk
        rwa [show o - 1 + 1 = o by omega] at this
      rw [e 2 (by decide), e 5 (by decide)]
      exact a.2.2 (o - 1) (by omega)
theorem sB_order {n : Nat} {f : sF} {cv wd len pr due : Int32} (h : sB n f) (hI : sI f) (hS : (sorder f cv wd len pr due).1 = 0) : sB (n + 1) (sorder f cv wd len pr due).2.2 := by
  unfold sorder at hS ⊢
  split at hS
  · rename_i c1
    split at hS
    · rename_i c2
      split at hS
      · rename_i c3
        rw [if_pos c1, if_pos c2, if_pos c3]
        obtain ⟨w0, hw0, rfl⟩ := in_N (n := 200) (by decide) ⟨Int32.le_trans (by decide : nI 0 ≤ nI 40) c2.1.1, c2.1.2⟩
        obtain ⟨d0, hd0, rfl⟩ := in_N (by decide) c2.2.2.2
        obtain ⟨D, h1, a1, a2, a3, a4⟩ := h
        have hm := hI.1.2.1
        have hne : smany f ≠ 10 := fun z => c3 (by rw [hI.1.1, z])
        have e5 := scomes_m (cv := cv) (wd := nI w0) (len := len) (pr := pr) (due := nI d0) hI.1.1 hm
        exact ⟨D, h1, by omega, by rw [e5]; omega, a3, sC_comes a4 hI.1.1 hm hw0 hd0⟩
      · cases hS
    · cases hS
  · cases hS
theorem sB_cancel {n : Nat} {f : sF} {num : Int32} (h : sB n f) (hI : sI f) (hS : (scancel f num).1 = 0) : sB (n + 1) (scancel f num).2.2 := by
  unfold scancel at hS ⊢
  cases hq : splace f num with
  | none => rw [hq] at hS; cases hS
  | some o =>
    have ho := (sfst_lt hq).1
    obtain ⟨D, h1, a1, a2, a3, a4⟩ := h
    have hm := sgoes_m hI.1.1 hI.1.2.1 ho
    have hk := hI.1.2.1
    exact ⟨D, h1, by omega, by show D + smany (sgoes f o) ≤ _; omega, a3, sC_goes a4 hI.1.1 hI.1.2.1 ho⟩
theorem sB_pass {n : Nat} {f : sF} {hv : Int32} (h : sB n f) (hI : sI f) (hS : (spass f hv).1 = 0) : sB (n + 1) (spass f hv).2.2 := by
  unfold spass at hS ⊢
  split at hS
  · rename_i c1
    obtain ⟨k, hk, rfl⟩ := in_N1 (by decide) c1
    split at hS
    · rename_i c2
      rw [if_pos c1, if_pos c2, sW_N (by omega)]
      obtain ⟨D, h1, a1, a2, a3, a4⟩ := h
      rw [a4.2.1.1, nI_add] at c2
      have hb := (nI_leI (by omega) (by decide)).mp c2
      obtain ⟨D', e1, b1⟩ := sC_hours a4 hI k hb (fun v hv => by show 200 * h1 + 180 * k + 360 < 2 ^ 31; omega)
      have hk1 := hI.1.2.1
      have hk2 := (shours_OK hI.1 k).2.1
      refine sB_of (D := D') (h := h1 + k) (by omega) hk2 hb b1 (fun w hw => ?_)
      show 200 * h1 + 180 * k ≤ 200 * (h1 + k)
      omega
    · cases hS
  · cases hS
