/-- the same state, in its 210 places -/
def sE (f g : sF) : Prop := ∀ k, k < 210 → f k = g k
theorem sE.rf {f : sF} : sE f f := fun _ _ => rfl
theorem sE.sy {f g : sF} (h : sE f g) : sE g f := fun k hk => (h k hk).symm
theorem sE.tr {f g h : sF} (a : sE f g) (b : sE g h) : sE f h := fun k hk => (a k hk).trans (b k hk)
theorem sE.up {f g : sF} {k : Nat} {v v' : Int32} (h : sE f g) (hv : v = v') : sE (upd f k v) (upd g k v') := by
  intro j hj
  simp only [upd]
  rw [hv, h j hj]
theorem sE_many {f g : sF} (h : sE f g) : smany f = smany g := by unfold smany; rw [h 5 (by decide)]
theorem sE_col {f g : sF} {o : Nat} (h : sE f g) (ho : o < 10) : scol f o = scol g o := by unfold scol; rw [h _ (by omega)]
theorem sE_spd {f g : sF} {w : Nat} (h : sE f g) (hw : w < 6) : sspd f w = sspd g w := by unfold sspd; rw [h _ (by omega)]
theorem sE_OK {f g : sF} (h : sE f g) (hf : sOK f) : sOK g := by
  have hk := hf.2.1
  exact sOK_of hf (h 5 (by decide)).symm (fun o ho => (h _ (by omega)).symm) (fun w hw => (h _ (by omega)).symm)
theorem sE_grams {f g : sF} {o : Nat} (h : sE f g) (ho : o < 10) : sgrams f o = sgrams g o := by unfold sgrams; rw [h _ (by omega)]
theorem ssum_c {p q : Nat → Int32} : ∀ {n : Nat}, (∀ w, w < n → p w = q w) → ssum p n = ssum q n := by
  intro n
  induction n with
  | zero => intro _; rfl
  | succ n ih => intro h; show ssum p n + p n = ssum q n + q n; rw [ih (fun w hw => h w (by omega)), h n (by omega)]
theorem sE_good {f g : sF} {o : Nat} (h : sE f g) (ho : o < 10) : sgood f o = sgood g o := ssum_c (fun w hw => h _ (by omega))
theorem sfst_c {p q : Nat → Bool} : ∀ {n : Nat}, (∀ i, i < n → p i = q i) → sfst p n = sfst q n := by
  intro n
  induction n with
  | zero => intro _; rfl
  | succ n ih => intro h; unfold sfst; rw [ih (fun i hi => h i (by omega)), h n (by omega)]
theorem sE_place {f g : sF} {num : Int32} (h : sE f g) (hk : smany f ≤ 10) : splace f num = splace g num := by
  unfold splace
  rw [sE_many h]
  exact sfst_c (fun i hi => by have := sE_many h; rw [h _ (by omega)])
theorem sE_worth {f g : sF} {o : Nat} (h : sE f g) (ho : o < 10) : sworth f o = sworth g o := by
  unfold sworth
  rw [h 0 (by decide), h (90 + 12 * o + 2) (by omega), h (90 + 12 * o + 4) (by omega)]
theorem sE_chosN {f g : sF} {w : Nat} (h : sE f g) (hw : w < 6) : ∀ n, n ≤ 10 → schosN f w n = schosN g w n := by
  intro n
  induction n with
  | zero => intro _; rfl
  | succ n ih =>
    intro hn
    have e := ih (by omega)
    cases hq : schosN f w n with
    | none => rw [schosN_n hq, schosN_n (e.symm.trans hq), h (90 + 12 * n + 2) (by omega), h (18 + 12 * w + 0) (by omega)]
    | some q =>
      have hq1 := (schosN_lt hq).1
      rw [schosN_s hq, schosN_s (e.symm.trans hq), h (90 + 12 * n + 2) (by omega), h (18 + 12 * w + 0) (by omega), sE_worth h (show q < 10 by omega), sE_worth h (show n < 10 by omega)]
theorem sE_chos {f g : sF} {w : Nat} (h : sE f g) (hk : smany f ≤ 10) (hw : w < 6) : schos f w = schos g w := by
  unfold schos
  rw [← sE_many h]
  exact sE_chosN h hw _ hk
theorem sE_late {f g : sF} {o : Nat} (h : sE f g) (ho : o < 10) : slate f o = slate g o := by unfold slate; rw [h 4 (by decide), h (90 + 12 * o + 5) (by omega)]
theorem sE_whole {f g : sF} {o : Nat} {len : Int32} (h : sE f g) (ho : o < 10) : swhole f o len = swhole g o len := by
  unfold swhole sless
  rw [h (90 + 12 * o + 4) (by omega), h 2 (by decide), sE_late h ho]
theorem sE_due {f g : sF} {o w : Nat} {whole len : Int32} (h : sE f g) (ho : o < 10) (hw : w < 6) : sdue f o whole len w = sdue g o whole len w := by
  unfold sdue; rw [h _ (by omega)]
theorem sE_left {f g : sF} {o : Nat} {whole len : Int32} (h : sE f g) (ho : o < 10) : ∀ n, n ≤ 6 → sleft f o whole len n = sleft g o whole len n := by
  intro n
  induction n with
  | zero => intro _; rfl
  | succ n ih => intro hn; show sleft f o whole len n - _ = sleft g o whole len n - _; rw [ih (by omega), sE_due h ho (by omega)]
theorem sE_most {f g : sF} {o : Nat} (h : sE f g) (ho : o < 10) : ∀ n, n ≤ 6 → smost f o n = smost g o n := by
  intro n
  induction n with
  | zero => intro _; rfl
  | succ n ih =>
    intro hn
    have e := ih (by omega)
    have hl := smost_le g o n
    unfold smost
    rw [e, h (90 + 12 * o + (6 + n)) (by omega), h (90 + 12 * o + (6 + smost g o n)) (by omega)]
theorem sE_shares {f g : sF} {o w : Nat} {whole len : Int32} {du : Nat → Int32} (h : sE f g) (ho : o < 10) (hw : w < 6) : sshares f o whole len du w = sshares g o whole len du w := by
  have hl := smost_le g o 6
  unfold sshares
  rw [sE_most h ho 6 (Nat.le_refl 6), sE_left h ho 6 (Nat.le_refl 6)]
  simp only [upd]
  rw [sdues_w (f := f) (show smost g o 6 < 6 by omega), sdues_w (f := g) (show smost g o 6 < 6 by omega), sdues_w (f := f) hw, sdues_w (f := g) hw, sE_due h ho (show smost g o 6 < 6 by omega), sE_due h ho hw]
theorem sE_duR {f g : sF} {o w : Nat} (h : sE f g) (ho : o < 10) (hw : w < 6) : sduR f o w = sduR g o w := by
  unfold sduR
  rw [sE_whole h ho, h (90 + 12 * o + 3) (by omega)]
  exact sE_shares h ho hw
theorem sE_pay1 {f g : sF} {du : Nat → Int32} {w : Nat} (h : sE f g) (hw : w < 6) : sE (spay1 f du w) (spay1 g du w) := by
  unfold spay1
  rw [h 3 (by decide), h (18 + 12 * w + 3) (by omega)]
  refine (h.up rfl).up ?_
  rw [(h.up rfl) (18 + 12 * w + 4) (by omega), (h.up rfl) 3 (by decide)]
theorem sE_payN {f g : sF} {du : Nat → Int32} (h : sE f g) : ∀ n, n ≤ 6 → sE (spayN f du n) (spayN g du n) := by
  intro n
  induction n with
  | zero => intro _; exact h
  | succ n ih => intro hn; exact sE_pay1 (ih (by omega)) (by omega)
theorem sE_goes {f g : sF} {o : Nat} (h : sE f g) (hk : smany f ≤ 10) : sE (sgoes f o) (sgoes g o) := by
  intro k hk2
  unfold sgoes
  have hm := sE_many h
  rw [← hm]
  by_cases h1 : 90 + 12 * o ≤ k ∧ k < 90 + 12 * (smany f - 1)
  · rw [if_pos h1, if_pos h1]; exact h _ (by omega)
  · rw [if_neg h1, if_neg h1]; exact (h.up (by rw [h 5 (by decide)])) k hk2
theorem sE_paysA {f g : sF} {o : Nat} {du : Nat → Int32} (h : sE f g) (ho : o < 10) : sE (spaysA f o du) (spaysA g o du) := by
  have h0 := sE_payN (du := du) h 6 (Nat.le_refl 6)
  unfold spaysA
  have h1 := h0.up (k := 7) (show spayN f du 6 7 + nI 1 = spayN g du 6 7 + nI 1 by rw [h0 7 (by decide)])
  have h2 := h1.up (k := 8) (show upd (spayN f du 6) 7 (spayN f du 6 7 + nI 1) 8 + (if slate (upd (spayN f du 6) 7 (spayN f du 6 7 + nI 1)) o ≤ 0 then nI 0 else nI 1) = upd (spayN g du 6) 7 (spayN g du 6 7 + nI 1) 8 + (if slate (upd (spayN g du 6) 7 (spayN g du 6 7 + nI 1)) o ≤ 0 then nI 0 else nI 1) by rw [h1 8 (by decide), sE_late h1 ho])
  refine h2.up ?_
  rw [h2 9 (by decide), sE_whole h ho, h (90 + 12 * o + 3) (by omega)]
theorem sE_paysF {f g : sF} {o : Nat} (h : sE f g) (ho : o < 10) (hk : smany f ≤ 10) : sE (spaysF f o) (spaysF g o) := by
  unfold spaysF
  rw [spays_c (f := g) (du := sduR g o) (du' := sduR f o) (fun w hw => (sE_duR h ho hw).symm), spays_A, spays_A]
  refine sE_goes (sE_paysA h ho) ?_
  unfold smany at hk ⊢
  rw [spaysA_k (by decide) (by decide) (by decide) (fun w hw => ⟨by omega, by omega⟩)]
  exact hk
theorem sE_take {f g : sF} {w o : Nat} (h : sE f g) (hw : w < 6) (ho : o < 10) (hc : scol f o < 4) : (stake f w o = none ∧ stake g w o = none) ∨ ∃ f1 g1, stake f w o = some f1 ∧ stake g w o = some g1 ∧ sE f1 g1 := by
  unfold stake
  rw [← sE_grams h ho, ← sE_col h ho, ← h (18 + 12 * w + (8 + scol f o)) (by omega), ← h 1 (by decide), ← h (14 + scol f o) (by omega)]
  split
  · refine Or.inr ⟨_, _, rfl, rfl, ?_⟩
    refine (h.up rfl).up ?_
    rw [(h.up rfl) 12 (by decide)]
  · split
    · refine Or.inr ⟨_, _, rfl, rfl, ?_⟩
      have h1 := h.up (k := 14 + scol f o) (v := f (14 + scol f o) - sgrams f o) rfl
      have h2 := h1.up (k := 18 + 12 * w + 3) (show upd f (14 + scol f o) (f (14 + scol f o) - sgrams f o) (18 + 12 * w + 3) + sgrams f o = upd g (14 + scol f o) (f (14 + scol f o) - sgrams f o) (18 + 12 * w + 3) + sgrams f o by rw [h1 _ (by omega)])
      have h3 := h2.up (k := 18 + 12 * w + 7) (show _ + sgrams f o = _ + sgrams f o from congrArg (· + sgrams f o) (h2 (18 + 12 * w + 7) (by omega)))
      exact h3.up (congrArg (· + sgrams f o) (h3 12 (by decide)))
    · exact Or.inl ⟨rfl, rfl⟩
theorem sE_make {f g : sF} {w o : Nat} (h : sE f g) (hw : w < 6) (ho : o < 10) : sE (smake f w o) (smake g w o) := by
  have h1 := h.up (k := 18 + 12 * w + 5) (show f (18 + 12 * w + 5) + nI 1 = g (18 + 12 * w + 5) + nI 1 by rw [h _ (by omega)])
  have h2 := h1.up (k := 10) (congrArg (· + nI 1) (h1 10 (by decide)))
  unfold smake
  dsimp only
  rw [h2 (18 + 12 * w + 2) (by omega), h2 (18 + 12 * w + 5) (by omega)]
  split
  · have h3 := h2.up (k := 18 + 12 * w + 6) (congrArg (· + nI 1) (h2 (18 + 12 * w + 6) (by omega)))
    exact h3.up (congrArg (· + nI 1) (h3 11 (by decide)))
  · exact h2.up (congrArg (· + nI 1) (h2 (90 + 12 * o + 6 + w) (by omega)))
theorem sE_wv {w o : Nat} (hw : w < 6) : ∀ (r : Nat) (f g : sF), sE f g → sOK f → o < smany f → sE (swv w o r f).1 (swv w o r g).1 ∧ (swv w o r f).2 = (swv w o r g).2 := by
  intro r
  induction r with
  | zero => intro f g h _ _; exact ⟨h, rfl⟩
  | succ r ih =>
    intro f g h hok ho
    have hk := hok.2.1
    rcases sE_take h hw (show o < 10 by omega) (hok.2.2.1 o ho).2 with ⟨e1, e2⟩ | ⟨f1, g1, e1, e2, h1⟩
    · rw [swv_none e1, swv_none e2]; exact ⟨h, rfl⟩
    · obtain ⟨b1, b2⟩ := stake_OK hok hw ho e1
      obtain ⟨b3, b4⟩ := smake_OK b1 hw (by rw [b2]; exact ho)
      have h2 := sE_make h1 hw (show o < 10 by omega)
      have eg := sE_good h2 (show o < 10 by omega)
      have el := h2 (90 + 12 * o + 3) (by omega)
      by_cases hd : sgood (smake f1 w o) o = smake f1 w o (90 + 12 * o + 3)
      · rw [swv_done e1 hd, swv_done e2 (by rw [← eg, ← el]; exact hd)]
        exact ⟨sE_paysF h2 (by omega) b3.2.1, rfl⟩
      · rw [swv_more e1 hd, swv_more e2 (by rw [← eg, ← el]; exact hd)]
        obtain ⟨i1, i2⟩ := ih _ _ h2 b3 (by rw [b4, b2]; exact ho)
        exact ⟨i1, by rw [i2]⟩
theorem sE_weave {f g : sF} {w : Nat} (h : sE f g) (hok : sOK f) (hw : w < 6) : sE (sweave f w) (sweave g w) := by
  have hk := hok.2.1
  have h1 : sE (sweaves f w).1 (sweaves g w).1 ∧ (sweaves f w).2 = (sweaves g w).2 := by
    unfold sweaves
    rw [← sE_chos h hk hw, ← sE_spd h hw]
    cases hq : schos f w with
    | none => exact ⟨h, rfl⟩
    | some o => exact sE_wv hw _ _ _ h hok (schosN_lt hq).1
  unfold sweave
  rw [h1.2]
  exact h1.1.up (by rw [h1.1 13 (by decide)])
theorem sE_hourN {f g : sF} (h : sE f g) (hok : sOK f) : ∀ n, n ≤ 6 → sE (shourN f n) (shourN g n) := by
  intro n
  induction n with
  | zero => intro _; exact h
  | succ n ih =>
    intro hn
    have e := ih (by omega)
    unfold shourN
    rw [e (18 + 12 * n + 0) (by omega)]
    split
    · exact sE_weave e (shourN_OK hok n (by omega)) (by omega)
    · exact e
theorem sE_hour {f g : sF} (h : sE f g) (hok : sOK f) : sE (shour f) (shour g) := by
  have h1 := sE_hourN h hok 6 (Nat.le_refl 6)
  exact h1.up (congrArg (· + nI 1) (h1 4 (by decide)))
theorem sE_hours {f g : sF} (h : sE f g) (hok : sOK f) : ∀ n, sE (shours f n) (shours g n) := by
  intro n
  induction n with
  | zero => exact h
  | succ n ih => exact sE_hour ih (shours_OK hok n)
theorem sE_debts {f g : sF} (h : sE f g) : sdebts f = sdebts g := ssum_c (fun w hw => h _ (by omega))
theorem sE_cpy {f g : sF} : sE (cpy f g 0 0 210) g := fun k hk => by have := cpy_in (g := f) (h := g) (b := 0) (c := 0) hk; rwa [Nat.zero_add] at this
