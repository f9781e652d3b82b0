/-! CALLS: what the property needs after n calls; each call of the law keeps it -/
def aS (f : sF) : Prop := ∀ k, k < 4 → ∃ v, v ≤ 50 ∧ f k = nI v
def aT (n : Nat) (f : sF) : Prop := sB n f ∧ (∃ h, h ≤ 9 * n ∧ f 4 = nI h) ∧ aI (9768600 * n) (800 * n) n f ∧ aS f
/-- an answer that is not negative -/
def aA (r : Int32) : Prop := ∃ v : Nat, v < 2 ^ 31 ∧ r = nI v
theorem aA_n {v : Nat} (h : v < 2 ^ 31) : aA (nI v) := ⟨v, h, rfl⟩
theorem aS.same {f g : sF} (a : aS f) (E : ∀ k, k < 4 → g k = f k) : aS g := fun k hk => by rw [E k hk]; exact a k hk
theorem aI.up {M B N M' B' N' : Nat} {f : sF} (a : aI M B N f) (hM : M ≤ M') (hB : B ≤ B') (hN : N ≤ N') : aI M' B' N' f := ⟨a.1.same hM (fun _ _ _ _ => rfl), a.2.1.same hM (fun _ _ => rfl) (fun _ _ => rfl), a.2.2.1.same hB (fun _ _ _ _ => rfl) (fun _ _ => rfl), a.2.2.2.1.same hN rfl rfl (fun _ _ _ _ => rfl), a.2.2.2.2⟩
theorem aT_mono {n m1 : Nat} {f : sF} (a : aT n f) (h : n ≤ m1) : aT m1 f := by
  obtain ⟨a1, ⟨h1, h2, h3⟩, a3, a4⟩ := a
  exact ⟨sB_mono a1 h, ⟨h1, by omega, h3⟩, a3.up (Nat.mul_le_mul_left _ h) (Nat.mul_le_mul_left _ h) h, a4⟩
theorem aT_0 : aT 0 srow := by
  have z : ∀ k, 4 ≤ k → srow k = nI 0 := fun k h => srow_0 h
  refine ⟨sB_0, ⟨0, Nat.le_refl _, z 4 (by decide)⟩, ⟨fun w hw => ⟨0, 0, 0, 0, ⟨z _ (by omega), z _ (by omega), z _ (by omega), z _ (by omega)⟩, Nat.le_refl _, Nat.le_refl _, Nat.le_refl _, Nat.le_refl _⟩, ⟨fun _ => 0, 0, 0, 0, fun w hw => z _ (by omega), ⟨z 9 (by decide), z 7 (by decide), z 8 (by decide)⟩, Nat.le_refl _, Nat.le_refl _, Nat.le_refl _, Nat.le_refl _⟩, ⟨fun w c hw hc => ⟨0, by decide, z _ (by omega)⟩, fun c hc => ⟨0, Nat.le_refl _, z _ (by omega)⟩⟩, ⟨⟨0, Nat.le_refl _, z 6 (by decide), fun o ho => by rw [smany_srow] at ho; exact absurd ho (Nat.not_lt_zero o)⟩, fun i j _ hj => by rw [smany_srow] at hj; exact absurd hj (Nat.not_lt_zero j), fun i j hi => by rw [smany_srow] at hi; exact absurd hi (Nat.not_lt_zero i)⟩, fun w hw _ => ⟨z _ (by omega), z _ (by omega)⟩⟩, fun k hk => ?_⟩
  rcases (by omega : k = 0 ∨ k = 1 ∨ k = 2 ∨ k = 3) with rfl | rfl | rfl | rfl
  · exact ⟨0, by decide, rfl⟩
  · exact ⟨1, by decide, rfl⟩
  · exact ⟨5, by decide, rfl⟩
  · exact ⟨1, by decide, rfl⟩
theorem aT_cong {n : Nat} {f g : sF} (E : ∀ k, k < 210 → g k = f k) (hm : smany f ≤ 10) (a : aT n f) : aT n g := by
  obtain ⟨a1, ⟨h1, h2, h3⟩, ⟨b1, b2, b3, b4, b5⟩, a4⟩ := a
  have em : smany g = smany f := by unfold smany; rw [E 5 (by decide)]
  exact ⟨sB_cong E hm a1, ⟨h1, h2, by rw [E 4 (by decide)]; exact h3⟩, ⟨b1.same (Nat.le_refl _) (fun w k hw _ => E _ (by omega)), b2.same (Nat.le_refl _) (fun w hw => E _ (by omega)) (fun k _ => E _ (by omega)), b3.same (Nat.le_refl _) (fun w c hw hc => E _ (by omega)) (fun c hc => E _ (by omega)), b4.same (Nat.le_refl _) (E 6 (by decide)) em (fun o k ho _ => E _ (by omega)), b5.same (fun w k hw _ => E _ (by omega))⟩, a4.same (fun k _ => E k (by omega))⟩
/-- what only bounds speak of goes on -/
theorem aI_next {n : Nat} {f : sF} (a : aI (9768600 * n) (800 * n) n f) : aI (9768600 * (n + 1)) (800 * (n + 1)) (n + 1) f := a.up (Nat.mul_le_mul_left _ (Nat.le_succ n)) (Nat.mul_le_mul_left _ (Nat.le_succ n)) (Nat.le_succ n)
theorem aT_loom {n : Nat} {f : sF} {wv wd sp ca : Int32} (a : aT n f) (hI : sI f) (hS : (sloom f wv wd sp ca).1 = 0) : aT (n + 1) (sloom f wv wd sp ca).2.2 ∧ aA (sloom f wv wd sp ca).2.1 ∧ yT (sloom f wv wd sp ca).2.2 = yT f := by
  have hB := sB_loom a.1 hS
  unfold sloom at hS hB ⊢
  split at hS
  · rename_i c1
    obtain ⟨w, hw, rfl⟩ := in_N (by decide) c1
    split at hS
    · rename_i c2
      rw [if_pos c1, if_pos c2, sW_N (by omega)] at hB ⊢
      dsimp only at hB ⊢
      have hm := hI.m
      have n1 : ∀ k, k ≠ 18 + 12 * w + 0 → k ≠ 18 + 12 * w + 1 → k ≠ 18 + 12 * w + 2 → upd (upd (upd f (18 + 12 * w + 0) wd) (18 + 12 * w + 1) (if wd = 0 then nI 0 else sp)) (18 + 12 * w + 2) (if wd = 0 then nI 0 else ca) k = f k := fun k h1 h2 h3 => by rw [upd_n h3, upd_n h2, upd_n h1]
      obtain ⟨-, ⟨h1, h2, h3⟩, b, a4⟩ := a
      obtain ⟨b1, b2, b3, b4, b5⟩ := aI_next b
      refine ⟨⟨hB, ⟨h1, by omega, by rw [n1 4 (by omega) (by omega) (by omega)]; exact h3⟩, ⟨b1.same (Nat.le_refl _) (fun v k hv hk => n1 _ (by omega) (by omega) (by omega)), b2.same (Nat.le_refl _) (fun v hv => n1 _ (by omega) (by omega) (by omega)) (fun k _ => n1 _ (by omega) (by omega) (by omega)), b3.same (Nat.le_refl _) (fun v c hv hc => n1 _ (by omega) (by omega) (by omega)) (fun c hc => n1 _ (by omega) (by omega) (by omega)), b4.same (Nat.le_refl _) (n1 6 (by omega) (by omega) (by omega)) (by unfold smany; rw [n1 5 (by omega) (by omega) (by omega)]) (fun o k ho _ => n1 _ (by omega) (by omega) (by omega)), fun v hv hz => ?_⟩, a4.same (fun k _ => n1 _ (by omega) (by omega) (by omega))⟩, ?_, yT_same (fun c hc => n1 _ (by omega) (by omega) (by omega)) (fun v c hv hc => n1 _ (by omega) (by omega) (by omega)) (n1 12 (by omega) (by omega) (by omega))⟩
      · by_cases e : v = w
        · subst e
          rw [upd_n (by omega), upd_n (by omega), upd_s] at hz
          have hz0 : wd = 0 := by rw [hz, nI_0]
          rw [upd_n (by omega), upd_s, upd_s, if_pos hz0, if_pos hz0]
          exact ⟨rfl, rfl⟩
        · rw [n1 _ (by omega) (by omega) (by omega)] at hz
          rw [n1 _ (by omega) (by omega) (by omega), n1 _ (by omega) (by omega) (by omega)]
          exact b5 v hv hz
      · show aA (f (18 + 12 * w + 0))
        rcases hI.2.1.2.2.1 w (by omega) with h | h
        · rw [h]; exact aA_n (by decide)
        · obtain ⟨v, v1, v2⟩ := nI_of (x := f (18 + 12 * w + 0)) (by
            have h9 : nI 0 ≤ f (18 + 12 * w + 0) := Int32.le_trans (by decide) h
            rw [nI_0] at h9
            exact i32_nlt.mpr h9)
          exact ⟨v, by omega, v2⟩
    · cases hS
  · cases hS
/-- one place of the yarn changes, within its bounds -/
theorem aT_yu {n k v : Nat} {f : sF} (a : aT n f) (hm : smany f ≤ 10) (hk : (14 ≤ k ∧ k < 18 ∧ v ≤ 800 * (n + 1)) ∨ (∃ w c, w < 6 ∧ c < 4 ∧ k = 18 + 12 * w + (8 + c)) ∧ v ≤ 9999) : aT (n + 1) (upd f k (nI v)) := by
  have hk2 : (14 ≤ k ∧ k < 18) ∨ ∃ w c, w < 6 ∧ c < 4 ∧ k = 18 + 12 * w + (8 + c) := by
    rcases hk with z | z
    · exact Or.inl ⟨z.1, z.2.1⟩
    · exact Or.inr z.1
  have hB := sB_yu (v := nI v) a.1 hk2
  have nw : ∀ w i, w < 6 → i < 8 → 18 + 12 * w + i ≠ k := by
    intro w i hw hi
    rcases hk2 with z | ⟨w2, c2, z1, z2, rfl⟩ <;> omega
  have ns : ∀ j, j < 14 → j ≠ k := by
    intro j hj
    rcases hk2 with z | ⟨w2, c2, z1, z2, rfl⟩ <;> omega
  have no : ∀ q i, i < 12 → 90 + 12 * q + i ≠ k := by
    intro q i hi
    rcases hk2 with z | ⟨w2, c2, z1, z2, rfl⟩ <;> omega
  obtain ⟨-, ⟨h1, h2, h3⟩, b, a4⟩ := a
  obtain ⟨b1, b2, b3, b4, b5⟩ := aI_next b
  refine ⟨hB, ⟨h1, by omega, by rw [upd_n (ns 4 (by decide))]; exact h3⟩, ⟨b1.same (Nat.le_refl _) (fun w i hw hi => upd_n (nw w i hw (by omega))), b2.same (Nat.le_refl _) (fun w hw => upd_n (nw w 4 hw (by decide))) (fun i hi => upd_n (ns i (by omega))), ⟨fun w c hw hc => ?_, fun c hc => ?_⟩, b4.same (Nat.le_refl _) (upd_n (ns 6 (by decide))) (smany_u (ns 5 (by decide))) (fun o i _ hi => upd_n (no o i (by omega))), b5.same (fun w i hw hi => upd_n (nw w i hw (by omega)))⟩, a4.same (fun i hi => upd_n (ns i (by omega)))⟩
  · by_cases e : 18 + 12 * w + (8 + c) = k
    · rw [e, upd_s]
      exact ⟨v, by rcases hk with z | z <;> omega, rfl⟩
    · rw [upd_n e]
      exact b3.1 w c hw hc
  · by_cases e : 14 + c = k
    · rw [e, upd_s]
      refine ⟨v, ?_, rfl⟩
      rcases hk with z | ⟨⟨w2, c2, z1, z2, z3⟩, z4⟩ <;> omega
    · rw [upd_n e]
      exact b3.2 c hc
theorem aT_yarn {n : Nat} {f : sF} {wv cv g : Int32} (a : aT n f) (hI : sI f) (hS : (syarn f wv cv g).1 = 0) : aT (n + 1) (syarn f wv cv g).2.2 ∧ aA (syarn f wv cv g).2.1 := by
  unfold syarn at hS ⊢
  split at hS
  · rename_i c1
    obtain ⟨w, hw, rfl⟩ := in_N (by decide) c1.1
    obtain ⟨k, hk, rfl⟩ := in_N (by decide) c1.2
    split at hS
    · rename_i c2
      split at hS
      · rename_i c3
        rw [if_pos c1, if_pos c2, if_pos c3, sW_N (by omega), sW_N (by omega)]
        rw [sW_N (by omega), sW_N (by omega)] at c3
        obtain ⟨v, hv, ev⟩ := in_N (by decide) c3
        rw [ev]
        exact ⟨aT_yu a hI.m (Or.inr ⟨⟨w, k, by omega, by omega, rfl⟩, hv⟩), aA_n (by omega)⟩
      · cases hS
    · cases hS
  · cases hS
/-- the store takes it always -/
theorem aT_store {n c g : Nat} {f : sF} (a : aT n f) (hn : n < 36) (hI : sI f) (hc : c < 4) (hg : g < 800) : (sstore f (nI c) (nI (1 + g))).1 = 0 ∧ aT (n + 1) (sstore f (nI c) (nI (1 + g))).2.2 ∧ aA (sstore f (nI c) (nI (1 + g))).2.1 := by
  obtain ⟨s0, q1, q2⟩ := a.2.2.1.2.2.1.2 c hc
  unfold sstore
  rw [if_pos (nI_inn (w := c) (n := 3) (by decide) (by omega)), if_pos ⟨(nI_leI (by decide) (by omega)).mpr (by omega), (nI_leI (by omega) (by decide)).mpr (by omega)⟩, sW_N (by omega), q2, nI_add]
  have e9 : (99999 : Int32) = nI 99999 := rfl
  rw [e9, if_pos ((nI_leI (by omega) (by decide)).mpr (by omega))]
  refine ⟨rfl, aT_yu a hI.m (Or.inl ⟨by omega, by omega, by omega⟩), aA_n (by omega)⟩
theorem aT_give {n : Nat} {f : sF} {wv ov cv g : Int32} (a : aT n f) (hI : sI f) (hS : (sgive f wv ov cv g).1 = 0) : aT (n + 1) (sgive f wv ov cv g).2.2 ∧ aA (sgive f wv ov cv g).2.1 ∧ yT (sgive f wv ov cv g).2.2 = yT f := by
  have hB := sB_give a.1 hS
  unfold sgive at hS hB ⊢
  split at hS
  · rename_i c1
    obtain ⟨w, hw, rfl⟩ := in_N (by decide) c1.1
    obtain ⟨v, hv, rfl⟩ := in_N (by decide) c1.2.1
    obtain ⟨k, hk, rfl⟩ := in_N (by decide) c1.2.2
    split at hS
    · rename_i c2
      split at hS
      · rename_i c3
        rw [if_pos c1, if_pos c2, if_pos c3, sW_N (by omega), sW_N (by omega), sW_N (by omega)] at hB ⊢
        dsimp only at hB ⊢
        rw [sW_N (by omega), sW_N (by omega), sW_N (by omega)] at c3
        have hne : w ≠ v := fun z => c2.1 (by rw [z])
        have hyt := yT_give (f := f) (g := g) (show w < 6 by omega) (show v < 6 by omega) (show k < 4 by omega) hne
        obtain ⟨g0, hg0, rfl⟩ := in_N (n := 9999) (by decide) ⟨Int32.le_trans (by decide : nI 0 ≤ nI 1) c2.2.1, c2.2.2⟩
        obtain ⟨-, ⟨h1, h2, h3⟩, b, a4⟩ := a
        obtain ⟨b1, b2, b3, b4, b5⟩ := aI_next b
        obtain ⟨x, x1, x2⟩ := b3.1 w k (by omega) (by omega)
        obtain ⟨y, y1, y2⟩ := b3.1 v k (by omega) (by omega)
        have hm := hI.m
        have n1 : ∀ j, j ≠ 18 + 12 * w + (8 + k) → j ≠ 18 + 12 * v + (8 + k) → upd (upd f (18 + 12 * w + (8 + k)) (f (18 + 12 * w + (8 + k)) + -nI g0)) (18 + 12 * v + (8 + k)) (f (18 + 12 * v + (8 + k)) + nI g0) j = f j := fun j h1 h2 => by rw [upd_n h2, upd_n h1]
        rw [x2] at c3
        have c4 := (nI_leI (by omega) (by omega)).mp c3.1
        have c5 := c3.2
        rw [y2, nI_add] at c5
        have c6 := (nI_leI (by omega) (by decide)).mp c5
        refine ⟨⟨hB, ⟨h1, by omega, by rw [n1 4 (by omega) (by omega)]; exact h3⟩, ⟨b1.same (Nat.le_refl _) (fun u i hu hi => n1 _ (by omega) (by omega)), b2.same (Nat.le_refl _) (fun u hu => n1 _ (by omega) (by omega)) (fun i hi => n1 _ (by omega) (by omega)), ⟨fun u c hu hc => ?_, fun c hc => by rw [n1 _ (by omega) (by omega)]; exact b3.2 c hc⟩, b4.same (Nat.le_refl _) (n1 6 (by omega) (by omega)) (by unfold smany; rw [n1 5 (by omega) (by omega)]) (fun o i ho hi => n1 _ (by omega) (by omega)), b5.same (fun u i hu hi => n1 _ (by omega) (by omega))⟩, a4.same (fun i hi => n1 _ (by omega) (by omega))⟩, ?_, hyt⟩
        · by_cases e1 : 18 + 12 * u + (8 + c) = 18 + 12 * v + (8 + k)
          · rw [e1, upd_s, y2, nI_add]
            exact ⟨_, c6, rfl⟩
          · rw [upd_n e1]
            by_cases e2 : 18 + 12 * u + (8 + c) = 18 + 12 * w + (8 + k)
            · rw [e2, upd_s, x2, ← Int32.sub_eq_add_neg, pk_sub c4]
              exact ⟨_, by omega, rfl⟩
            · rw [upd_n e2]
              exact b3.1 u c hu hc
        · show aA (f (18 + 12 * v + (8 + k)) + nI g0)
          rw [y2, nI_add]
          exact aA_n (by omega)
      · cases hS
    · cases hS
  · cases hS
theorem aT_order {n : Nat} {f : sF} {cv wd len pr due : Int32} (a : aT n f) (hn : n < 36) (hI : sI f) (hS : (sorder f cv wd len pr due).1 = 0) : aT (n + 1) (sorder f cv wd len pr due).2.2 ∧ aA (sorder f cv wd len pr due).2.1 ∧ yT (sorder f cv wd len pr due).2.2 = yT f := by
  have hB := sB_order a.1 hI hS
  unfold sorder at hS hB ⊢
  split at hS
  · rename_i c1
    split at hS
    · rename_i c2
      split at hS
      · rename_i c3
        rw [if_pos c1, if_pos c2, if_pos c3] at hB ⊢
        dsimp only at hB ⊢
        obtain ⟨d0, hd0, rfl⟩ := in_N (by decide) c2.2.2.2
        obtain ⟨-, ⟨h1, h2, h3⟩, b, a4⟩ := a
        have b4' := aO_comes (cv := cv) (wd := wd) (len := len) (pr := pr) b.2.2.2.1 (by omega) hI.1.1 hI.m hd0
        obtain ⟨⟨n0, m1, m2, -⟩, -⟩ := b.2.2.2.1
        obtain ⟨b1, b2, b3, b4, b5⟩ := aI_next b
        have hm := hI.m
        have n1 : ∀ k, k < 90 → k ≠ 5 → k ≠ 6 → scomes f cv wd len pr (nI d0) k = f k := fun k x1 x2 x3 => scomes_n x1 x2 x3
        refine ⟨⟨hB, ⟨h1, by omega, by rw [n1 4 (by decide) (by decide) (by decide)]; exact h3⟩, ⟨b1.same (Nat.le_refl _) (fun u i hu hi => n1 _ (by omega) (by omega) (by omega)), b2.same (Nat.le_refl _) (fun u hu => n1 _ (by omega) (by omega) (by omega)) (fun i hi => n1 _ (by omega) (by omega) (by omega)), b3.same (Nat.le_refl _) (fun u c hu hc => n1 _ (by omega) (by omega) (by omega)) (fun c hc => n1 _ (by omega) (by omega) (by omega)), b4', b5.same (fun u i hu hi => n1 _ (by omega) (by omega) (by omega))⟩, a4.same (fun i hi => n1 _ (by omega) (by omega) (by omega))⟩, ?_, yT_same (fun c hc => n1 _ (by omega) (by omega) (by omega)) (fun v c hv hc => n1 _ (by omega) (by omega) (by omega)) (n1 12 (by omega) (by omega) (by omega))⟩
        show aA (f 6)
        rw [m2]
        exact aA_n (by omega)
      · cases hS
    · cases hS
  · cases hS
theorem aT_cancel {n : Nat} {f : sF} {num : Int32} (a : aT n f) (hI : sI f) (hS : (scancel f num).1 = 0) : aT (n + 1) (scancel f num).2.2 ∧ aA (scancel f num).2.1 ∧ yT (scancel f num).2.2 = yT f := by
  have hB := sB_cancel a.1 hI hS
  unfold scancel at hS hB ⊢
  cases hq : splace f num with
  | none => rw [hq] at hS; cases hS
  | some o =>
    rw [hq] at hB
    have ho := (sfst_lt hq).1
    have hm := hI.m
    obtain ⟨-, ⟨h1, h2, h3⟩, b, a4⟩ := a
    obtain ⟨b1, b2, b3, b4, b5⟩ := aI_next b
    have n1 : ∀ k, k < 90 → k ≠ 5 → sgoes f o k = f k := fun k x1 x2 => sgoes_n x1 x2
    refine ⟨⟨hB, ⟨h1, by omega, (n1 4 (by decide) (by decide)).trans h3⟩, ⟨b1.same (Nat.le_refl _) (fun u i hu hi => n1 _ (by omega) (by omega)), b2.same (Nat.le_refl _) (fun u hu => n1 _ (by omega) (by omega)) (fun i hi => n1 _ (by omega) (by omega)), b3.same (Nat.le_refl _) (fun u c hu hc => n1 _ (by omega) (by omega)) (fun c hc => n1 _ (by omega) (by omega)), aO_goes b4 hI.1.1 hm ho, b5.same (fun u i hu hi => n1 _ (by omega) (by omega))⟩, a4.same (fun i hi => n1 _ (by omega) (by omega))⟩, ?_, yT_same (fun c hc => n1 _ (by omega) (by omega)) (fun v c hv hc => n1 _ (by omega) (by omega)) (n1 12 (by omega) (by omega))⟩
    obtain ⟨g1, g2⟩ := sIb_good (hI.2.2 o ho).1
    show aA (sgood f o)
    rw [g1]
    exact aA_n (by omega)
theorem aT_set {n k v : Nat} {f : sF} (a : aT n f) (hI : sI f) (hk : k < 4) (hS : (sset f (nI k) (nI v)).1 = 0) (hv : v < 10) : aT (n + 1) (sset f (nI k) (nI v)).2.2 ∧ aA (sset f (nI k) (nI v)).2.1 ∧ yT (sset f (nI k) (nI v)).2.2 = yT f := by
  have hB := sB_set a.1 hS
  unfold sset at hS hB ⊢
  split at hS
  · rename_i c1
    split at hS
    · rename_i c2
      rw [if_pos c1, if_pos c2, sW_N (by omega)] at hB ⊢
      dsimp only at hB ⊢
      have hm := hI.m
      have n1 : ∀ j, 4 ≤ j → upd f k (nI v) j = f j := fun j hj => upd_n (by omega)
      obtain ⟨-, ⟨h1, h2, h3⟩, b, a4⟩ := a
      obtain ⟨b1, b2, b3, b4, b5⟩ := aI_next b
      refine ⟨⟨hB, ⟨h1, by omega, by rw [n1 4 (by decide)]; exact h3⟩, ⟨b1.same (Nat.le_refl _) (fun u i hu hi => n1 _ (by omega)), b2.same (Nat.le_refl _) (fun u hu => n1 _ (by omega)) (fun i hi => n1 _ (by omega)), b3.same (Nat.le_refl _) (fun u c hu hc => n1 _ (by omega)) (fun c hc => n1 _ (by omega)), b4.same (Nat.le_refl _) (n1 6 (by decide)) (smany_u (by omega)) (fun o i ho hi => n1 _ (by omega)), b5.same (fun u i hu hi => n1 _ (by omega))⟩, fun i hi => ?_⟩, ?_, yT_same (fun c hc => n1 _ (by omega)) (fun u c hu hc => n1 _ (by omega)) (n1 12 (by omega))⟩
      · by_cases e : i = k
        · rw [e, upd_s]
          exact ⟨v, by omega, rfl⟩
        · rw [upd_n e]
          exact a4 i hi
      · obtain ⟨u, u1, u2⟩ := a4 k hk
        show aA (f k)
        rw [u2]
        exact aA_n (by omega)
    · cases hS
  · cases hS
theorem aT_pass {n k : Nat} {f : sF} (a : aT n f) (hn : n < 36) (hI : sI f) (hk : 1 ≤ k ∧ k ≤ 9) : (spass f (nI k)).1 = 0 ∧ aT (n + 1) (spass f (nI k)).2.2 ∧ aA (spass f (nI k)).2.1 ∧ yT (spass f (nI k)).2.2 = yT f ∧ (spass f (nI k)).2.2 7 = f 7 + (spass f (nI k)).2.1 := by
  obtain ⟨sb, ⟨h1, h2, h3⟩, b, a4⟩ := a
  have hS : (spass f (nI k)).1 = 0 := by
    unfold spass
    rw [if_pos ⟨(nI_leI (by decide) (by omega)).mpr hk.1, (nI_leI (by omega) (by decide)).mpr (by omega)⟩, h3, nI_add, if_pos ((nI_leI (by omega) (by decide)).mpr (by omega))]
  have hB := sB_pass sb hI hS
  have e : spass f (nI k) = (0, shours f k 7 - f 7, shours f k) := by
    unfold spass
    rw [if_pos ⟨(nI_leI (by decide) (by omega)).mpr hk.1, (nI_leI (by omega) (by decide)).mpr (by omega)⟩, h3, nI_add, if_pos ((nI_leI (by omega) (by decide)).mpr (by omega)), sW_N (by omega)]
  rw [e] at hB ⊢
  obtain ⟨D, h9, s1, s2, s3, c⟩ := sb
  have hh : h9 = h1 := (nI_eq (by omega) (by omega)).mp (c.2.1.1.symm.trans h3)
  subst hh
  have hMx : 9768600 * n + 1085400 * k < 2 ^ 31 := by
    have h10 : 9768600 * n ≤ 9768600 * 35 := Nat.mul_le_mul_left _ (by omega)
    have h11 : 1085400 * k ≤ 1085400 * 9 := Nat.mul_le_mul_left _ hk.2
    exact Nat.lt_of_le_of_lt (Nat.add_le_add h10 h11) (by decide)
  obtain ⟨x1, r1⟩ := aI_hours (by omega) b c hI k (by omega) hMx (fun v hv => by show 200 * h9 + 180 * k + 360 < 2 ^ 31; omega)
  obtain ⟨D2, e2, c2⟩ := sC_hours c hI k (by omega) (fun v hv => by show 200 * h9 + 180 * k + 360 < 2 ^ 31; omega)
  have hMy : 9768600 * n + 1085400 * k ≤ 9768600 * (n + 1) := by
    have h11 : 1085400 * k ≤ 1085400 * 9 := Nat.mul_le_mul_left _ hk.2
    exact Nat.le_trans (Nat.add_le_add_left h11 _) (Nat.le_of_eq (Nat.mul_succ 9768600 n).symm)
  refine ⟨rfl, ⟨hB, ⟨h9 + k, by omega, c2.2.1.1⟩, x1.up hMy (Nat.mul_le_mul_left _ (Nat.le_succ n)) (Nat.le_succ n), a4.same r1.2.1⟩, ?_, r1.1, i32_r7 _ _⟩
  obtain ⟨E, p, dn, lt, -, ⟨-, d3, -⟩, -, -, d7, -⟩ := b.2.1
  obtain ⟨E', p', dn', lt', -, ⟨-, g3, -⟩, -, -, g7, -⟩ := x1.2.1
  have hle := r1.2.2
  have hMz : 9768600 * n < 2 ^ 31 := Nat.lt_of_le_of_lt (Nat.le_add_right _ _) hMx
  show aA (shours f k 7 - f 7)
  rw [g3, d3] at hle ⊢
  rw [sW_N (Nat.lt_of_le_of_lt d7 hMz), sW_N (Nat.lt_of_le_of_lt g7 hMx)] at hle
  rw [pk_sub hle]
  exact aA_n (Nat.lt_of_le_of_lt (Nat.sub_le _ _) (Nat.lt_of_le_of_lt g7 hMx))
