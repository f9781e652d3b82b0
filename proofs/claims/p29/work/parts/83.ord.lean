/-! ORDERS stand by their due hours and numbers; all of it kept through an hour -/
def aO (N : Nat) (f : sF) : Prop := (∃ n0, n0 ≤ N ∧ f 6 = nI n0 ∧ ∀ o, o < smany f → ∃ nu du, (f (90 + 12 * o + 0) = nI nu ∧ f (90 + 12 * o + 5) = nI du) ∧ nu < n0 ∧ du ≤ 9999) ∧ (∀ i j, i < j → j < smany f → f (90 + 12 * i + 5) < f (90 + 12 * j + 5) ∨ f (90 + 12 * i + 5) = f (90 + 12 * j + 5) ∧ f (90 + 12 * i + 0) < f (90 + 12 * j + 0)) ∧ ∀ i j, i < smany f → j < smany f → f (90 + 12 * i + 0) = f (90 + 12 * j + 0) → i = j
theorem aO.same {N N' : Nat} {f g : sF} (a : aO N f) (hN : N ≤ N') (e6 : g 6 = f 6) (em : smany g = smany f) (E : ∀ o k, o < smany f → k = 0 ∨ k = 5 → g (90 + 12 * o + k) = f (90 + 12 * o + k)) : aO N' g := by
  obtain ⟨⟨n0, a1, a2, a3⟩, a4, a5⟩ := a
  refine ⟨⟨n0, by omega, e6.trans a2, fun o ho => ?_⟩, fun i j hij hj => ?_, fun i j hi hj h => ?_⟩
  · rw [em] at ho
    rw [E o 0 ho (by omega), E o 5 ho (by omega)]
    exact a3 o ho
  · rw [em] at hj
    rw [E i 0 (by omega) (by omega), E i 5 (by omega) (by omega), E j 0 hj (by omega), E j 5 hj (by omega)]
    exact a4 i j hij hj
  · rw [em] at hi hj
    rw [E i 0 hi (by omega), E j 0 hj (by omega)] at h
    exact a5 i j hi hj h
theorem sgoes_row {f : sF} {o q k : Nat} (hq : q + 1 < smany f) (hk : k < 12) : sgoes f o (90 + 12 * q + k) = f (90 + 12 * (if o ≤ q then q + 1 else q) + k) := by
  by_cases c : o ≤ q
  · rw [if_pos c]
    unfold sgoes
    rw [if_pos (by omega)]
    exact congrArg f (by omega)
  · rw [if_neg c]
    unfold sgoes
    rw [if_neg (by omega), upd_n (by omega)]
theorem aO_goes {N o : Nat} {f : sF} (a : aO N f) (h5 : f 5 = nI (smany f)) (hk : smany f ≤ 10) (ho : o < smany f) : aO N (sgoes f o) := by
  have hm := sgoes_m h5 hk ho
  obtain ⟨⟨n0, a1, a2, a3⟩, a4, a5⟩ := a
  have r : ∀ q, q < smany (sgoes f o) → (if o ≤ q then q + 1 else q) < smany f := fun q hq => by split <;> omega
  refine ⟨⟨n0, a1, by rw [sgoes_n (by decide) (by decide)]; exact a2, fun q hq => ?_⟩, fun i j hij hj => ?_, fun i j hi hj h => ?_⟩
  · rw [sgoes_row (by omega) (by decide), sgoes_row (by omega) (by decide)]
    exact a3 _ (r q hq)
  · rw [sgoes_row (by omega) (by decide), sgoes_row (by omega) (by decide), sgoes_row (by omega) (by decide), sgoes_row (by omega) (by decide)]
    exact a4 _ _ (by split <;> split <;> omega) (r j hj)
  · rw [sgoes_row (by omega) (by decide), sgoes_row (by omega) (by decide)] at h
    have h2 := a5 _ _ (r i hi) (r j hj) h
    revert h2
    split <;> split <;> omega
theorem spos_hi {f : sF} {due : Int32} : ∀ n i, spos f due n ≤ i → i < n → ¬ f (90 + 12 * i + 5) ≤ due := by
  intro n
  induction n with
  | zero => intro i _ h; exact absurd h (Nat.not_lt_zero i)
  | succ n ih =>
    intro i h1 h2
    unfold spos at h1
    split at h1
    · omega
    · rename_i c
      by_cases e : i = n
      · rw [e]; exact c
      · exact ih i h1 (by omega)
theorem spos_lo {f : sF} {due : Int32} : ∀ n, spos f due n ≠ 0 → f (90 + 12 * (spos f due n - 1) + 5) ≤ due := by
  intro n
  induction n with
  | zero => intro h; exact absurd rfl h
  | succ n ih =>
    intro h
    unfold spos at h ⊢
    split
    · rename_i c
      rw [Nat.add_sub_cancel]
      exact c
    · rename_i c
      rw [if_neg c] at h
      exact ih h
theorem aO_comes {N : Nat} {f : sF} {cv wd len pr : Int32} {du : Nat} (a : aO N f) (hN : N + 1 < 2 ^ 31) (h5 : f 5 = nI (smany f)) (hk : smany f ≤ 10) (hd : du ≤ 9999) : aO (N + 1) (scomes f cv wd len pr (nI du)) := by
  obtain ⟨⟨n0, a1, a2, a3⟩, a4, a5⟩ := a
  have e5 := scomes_m (cv := cv) (wd := wd) (len := len) (pr := pr) (due := nI du) h5 hk
  have hpos := spos_le (f := f) (due := nI du) (smany f)
  have lo : ∀ o k, o < spos f (nI du) (smany f) → k < 12 → scomes f cv wd len pr (nI du) (90 + 12 * o + k) = f (90 + 12 * o + k) := fun o k h1 h2 => scomes_lo h1 h2
  have at_ : ∀ o k, o = spos f (nI du) (smany f) → k < 12 → scomes f cv wd len pr (nI du) (90 + 12 * o + k) = snew f cv wd len pr (nI du) k := fun o k h1 h2 => by rw [h1]; exact scomes_at h2
  have hi : ∀ o k, spos f (nI du) (smany f) < o → o < smany f + 1 → k < 12 → scomes f cv wd len pr (nI du) (90 + 12 * o + k) = f (90 + 12 * (o - 1) + k) := fun o k h1 h2 h3 => by
    have := scomes_hi (f := f) (cv := cv) (wd := wd) (len := len) (pr := pr) (due := nI du) (o := o - 1) (k := k) (by omega) (by omega) h3
    rwa [show o - 1 + 1 = o by omega] at this
  have n0e : snew f cv wd len pr (nI du) 0 = nI n0 := a2
  have n5e : snew f cv wd len pr (nI du) 5 = nI du := rfl
  have big : ∀ i, i < smany f → f (90 + 12 * i + 0) < nI n0 := fun i hi => by
    obtain ⟨nu, d0, ⟨q1, q2⟩, q3, q4⟩ := a3 i hi
    rw [q1]
    exact (nI_ltI (by omega) (by omega)).mpr q3
  have nne : ∀ i, i < smany f → f (90 + 12 * i + 0) ≠ nI n0 := fun i hi z => by
    have h9 := big i hi
    rw [z, i32_lt] at h9
    omega
  have below : ∀ i, i < spos f (nI du) (smany f) → f (90 + 12 * i + 5) ≤ nI du := fun i hi => by
    have h1 := spos_lo (f := f) (due := nI du) (smany f) (by omega)
    by_cases e : i = spos f (nI du) (smany f) - 1
    · rw [e]; exact h1
    · rcases a4 i (spos f (nI du) (smany f) - 1) (by omega) (by omega) with h2 | ⟨h2, -⟩
      · rw [i32_lt] at h2
        rw [i32_le] at h1 ⊢
        omega
      · rw [h2]; exact h1
  have above : ∀ i, spos f (nI du) (smany f) ≤ i → i < smany f → nI du < f (90 + 12 * i + 5) := fun i h1 h2 => i32_nle.mp (spos_hi _ i h1 h2)
  have lt_of : ∀ x y : Int32, x ≤ y → x < y ∨ x = y := fun x y h => by
    by_cases c : x < y
    · exact Or.inl c
    · refine Or.inr (Int32.toInt_inj.mp ?_)
      rw [i32_le] at h
      rw [i32_lt] at c
      omega
  refine ⟨⟨n0 + 1, by omega, by rw [scomes_6, a2, nI_add], fun o ho => ?_⟩, fun i j hij hj => ?_, fun i j hi' hj' h => ?_⟩
  · rw [e5] at ho
    by_cases c1 : o < spos f (nI du) (smany f)
    · rw [lo o 0 c1 (by decide), lo o 5 c1 (by decide)]
      obtain ⟨nu, d0, q1, q3, q4⟩ := a3 o (by omega)
      exact ⟨nu, d0, q1, by omega, q4⟩
    · by_cases c2 : o = spos f (nI du) (smany f)
      · rw [at_ o 0 c2 (by decide), at_ o 5 c2 (by decide)]
        exact ⟨n0, du, ⟨n0e, n5e⟩, by omega, hd⟩
      · rw [hi o 0 (by omega) ho (by decide), hi o 5 (by omega) ho (by decide)]
        obtain ⟨nu, d0, q1, q3, q4⟩ := a3 (o - 1) (by omega)
        exact ⟨nu, d0, q1, by omega, q4⟩
  · rw [e5] at hj
    by_cases j1 : j < spos f (nI du) (smany f)
    · rw [lo i 0 (by omega) (by decide), lo i 5 (by omega) (by decide), lo j 0 j1 (by decide), lo j 5 j1 (by decide)]
      exact a4 i j hij (by omega)
    · by_cases j2 : j = spos f (nI du) (smany f)
      · rw [lo i 0 (by omega) (by decide), lo i 5 (by omega) (by decide), at_ j 0 j2 (by decide), at_ j 5 j2 (by decide), n0e, n5e]
        rcases lt_of _ _ (below i (by omega)) with h | h
        · exact Or.inl h
        · exact Or.inr ⟨h, big i (by omega)⟩
      · rw [hi j 0 (by omega) hj (by decide), hi j 5 (by omega) hj (by decide)]
        by_cases i1 : i < spos f (nI du) (smany f)
        · rw [lo i 0 i1 (by decide), lo i 5 i1 (by decide)]
          exact a4 i (j - 1) (by omega) (by omega)
        · by_cases i2 : i = spos f (nI du) (smany f)
          · rw [at_ i 0 i2 (by decide), at_ i 5 i2 (by decide), n0e, n5e]
            exact Or.inl (above (j - 1) (by omega) (by omega))
          · rw [hi i 0 (by omega) (by omega) (by decide), hi i 5 (by omega) (by omega) (by decide)]
            exact a4 (i - 1) (j - 1) (by omega) (by omega)
  · rw [e5] at hi' hj'
    have val : ∀ o, o < smany f + 1 → (o = spos f (nI du) (smany f) ∧ scomes f cv wd len pr (nI du) (90 + 12 * o + 0) = nI n0) ∨ ∃ q, q < smany f ∧ o = (if q < spos f (nI du) (smany f) then q else q + 1) ∧ scomes f cv wd len pr (nI du) (90 + 12 * o + 0) = f (90 + 12 * q + 0) := fun o ho => by
      by_cases c1 : o < spos f (nI du) (smany f)
      · exact Or.inr ⟨o, by omega, by rw [if_pos c1], lo o 0 c1 (by decide)⟩
      · by_cases c2 : o = spos f (nI du) (smany f)
        · exact Or.inl ⟨c2, by rw [at_ o 0 c2 (by decide)]; exact n0e⟩
        · exact Or.inr ⟨o - 1, by omega, by rw [if_neg (by omega)]; omega, hi o 0 (by omega) ho (by decide)⟩
    rcases val i hi' with ⟨x1, x2⟩ | ⟨q, x1, x2, x3⟩
    · rcases val j hj' with ⟨y1, y2⟩ | ⟨r, y1, y2, y3⟩
      · omega
      · rw [x2, y3] at h
        exact absurd h.symm (nne r y1)
    · rcases val j hj' with ⟨y1, y2⟩ | ⟨r, y1, y2, y3⟩
      · rw [x3, y2] at h
        exact absurd h (nne q x1)
      · rw [x3, y3] at h
        have := a5 q r x1 y1 h
        subst this
        rw [x2, y2]
/-- all that the property needs -/
def aI (M B N : Nat) (f : sF) : Prop := aW M f ∧ aP M f ∧ aY B f ∧ aO N f ∧ aL f
/-- from a state to a later one in the same call: yarn, settings, orders done -/
def aR (f g : sF) : Prop := yT g = yT f ∧ (∀ k, k < 4 → g k = f k) ∧ sW (f 7) ≤ sW (g 7)
theorem aR.rf {f : sF} : aR f f := ⟨rfl, fun _ _ => rfl, Nat.le_refl _⟩
theorem aR.tr {f g h : sF} (a : aR f g) (b : aR g h) : aR f h := ⟨b.1.trans a.1, fun k hk => (b.2.1 k hk).trans (a.2.1 k hk), Nat.le_trans a.2.2 b.2.2⟩
theorem aI.mono {M M' B N : Nat} {f : sF} (a : aI M B N f) (h : M ≤ M') : aI M' B N f := ⟨a.1.same h (fun _ _ _ _ => rfl), a.2.1.same h (fun _ _ => rfl) (fun _ _ => rfl), a.2.2.1, a.2.2.2.1, a.2.2.2.2⟩
/-- only places that it doesn't speak of change -/
theorem aI_un {M B N k : Nat} {f : sF} {v : Int32} (a : aI M B N f) (hm : smany f ≤ 10) (hk : k = 4 ∨ k = 13) : aI M B N (upd f k v) ∧ aR f (upd f k v) := by
  have n1 : ∀ j, j ≠ 4 → j ≠ 13 → upd f k v j = f j := fun j h1 h2 => upd_n (by omega)
  refine ⟨⟨a.1.same (Nat.le_refl _) (fun w i _ _ => n1 _ (by omega) (by omega)), a.2.1.same (Nat.le_refl _) (fun w _ => n1 _ (by omega) (by omega)) (fun i _ => n1 _ (by omega) (by omega)), a.2.2.1.same (Nat.le_refl _) (fun w c _ _ => n1 _ (by omega) (by omega)) (fun c _ => n1 _ (by omega) (by omega)), a.2.2.2.1.same (Nat.le_refl _) (n1 6 (by decide) (by decide)) (smany_u (by omega)) (fun o i _ _ => n1 _ (by omega) (by omega)), a.2.2.2.2.same (fun w i _ _ => n1 _ (by omega) (by omega))⟩, yT_same (fun c _ => n1 _ (by omega) (by omega)) (fun w c _ _ => n1 _ (by omega) (by omega)) (n1 12 (by decide) (by decide)), fun i hi => n1 i (by omega) (by omega), ?_⟩
  rw [n1 7 (by decide) (by decide)]
  exact Nat.le_refl _
theorem sC_grams {D h o : Nat} {K : Nat → Nat} {f : sF} (c : sC D K h f) (ho : o < smany f) : ∃ g, g ≤ 20 ∧ sgrams f o = nI g := by
  obtain ⟨⟨vw, vw1, vw2⟩, -⟩ := c.2.2 o ho
  refine ⟨(vw + 9) / 10, by omega, ?_⟩
  unfold sgrams
  rw [vw2, nI_add, pk_div (by omega) (by decide) (by decide)]
theorem aI_take {M B N D h w o : Nat} {K : Nat → Nat} {f f1 : sF} (a : aI M B N f) (c : sC D K h f) (hB : B < 2 ^ 31) (hI : sI f) (hw : w < 6) (ho : o < smany f) (ht : stake f w o = some f1) : aI (M + 20) B N f1 ∧ aR f f1 := by
  obtain ⟨g, hg, eg⟩ := sC_grams c ho
  have hc := (hI.1.2.2.1 o ho).2
  have em := (stake_OK hI.1 hw ho ht).2
  have hm := hI.1.2.1
  have n1 : ∀ k, k ≠ 12 → ¬ (14 ≤ k ∧ k < 18) → k ≠ 18 + 12 * w + 3 → k ≠ 18 + 12 * w + 7 → ¬ (18 + 12 * w + 8 ≤ k ∧ k < 18 + 12 * w + 12) → f1 k = f k := fun k h1 h2 h3 h4 h5 => stake_kk hc hw ht h1 h2 h3 h4 h5
  refine ⟨⟨aW_take a.1 hI hw ho eg hg ht, a.2.1.same (by omega) (fun v hv => n1 _ (by omega) (by omega) (by omega) (by omega) (by omega)) (fun i _ => n1 _ (by omega) (by omega) (by omega) (by omega) (by omega)), aY_take a.2.2.1 hB hI hw ho eg hg ht, a.2.2.2.1.same (Nat.le_refl _) (n1 6 (by decide) (by omega) (by omega) (by omega) (by omega)) em (fun o i _ _ => n1 _ (by omega) (by omega) (by omega) (by omega) (by omega)), a.2.2.2.2.same (fun v i _ _ => n1 _ (by omega) (by omega) (by omega) (by omega) (by omega))⟩, yT_take hc hw ht, fun i hi => n1 i (by omega) (by omega) (by omega) (by omega) (by omega), ?_⟩
  rw [n1 7 (by decide) (by omega) (by omega) (by omega) (by omega)]
  exact Nat.le_refl _
theorem aI_make {M B N w o : Nat} {f : sF} (a : aI M B N f) (hI : sI f) (hw : w < 6) (ho : o < smany f) : aI (M + 1) B N (smake f w o) ∧ aR f (smake f w o) := by
  have em := (smake_I hI hw ho).1
  have hm := hI.1.2.1
  have n1 : ∀ k, k ≠ 10 → k ≠ 11 → k ≠ 18 + 12 * w + 5 → k ≠ 18 + 12 * w + 6 → k ≠ 90 + 12 * o + 6 + w → smake f w o k = f k := fun k h1 h2 h3 h4 h5 => smake_k h1 h2 h3 h4 h5
  refine ⟨⟨aW_make a.1 hw, a.2.1.same (by omega) (fun v hv => n1 _ (by omega) (by omega) (by omega) (by omega) (by omega)) (fun i _ => n1 _ (by omega) (by omega) (by omega) (by omega) (by omega)), a.2.2.1.same (Nat.le_refl _) (fun v c _ _ => n1 _ (by omega) (by omega) (by omega) (by omega) (by omega)) (fun c _ => n1 _ (by omega) (by omega) (by omega) (by omega) (by omega)), a.2.2.2.1.same (Nat.le_refl _) (n1 6 (by omega) (by omega) (by omega) (by omega) (by omega)) em (fun q i _ _ => n1 _ (by omega) (by omega) (by omega) (by omega) (by omega)), a.2.2.2.2.same (fun v i _ _ => n1 _ (by omega) (by omega) (by omega) (by omega) (by omega))⟩, yT_same (fun c _ => n1 _ (by omega) (by omega) (by omega) (by omega) (by omega)) (fun v c _ _ => n1 _ (by omega) (by omega) (by omega) (by omega) (by omega)) (n1 12 (by omega) (by omega) (by omega) (by omega) (by omega)), fun i hi => n1 i (by omega) (by omega) (by omega) (by omega) (by omega), ?_⟩
  rw [n1 7 (by omega) (by omega) (by omega) (by omega) (by omega)]
  exact Nat.le_refl _
theorem aI_pay {M B N D h o : Nat} {K : Nat → Nat} {f : sF} (a : aI M B N f) (hM : M + 20000 < 2 ^ 31) (c : sC D K h f) (hh : h ≤ 10000) (hK : ∀ w, w < 6 → K w < 2 ^ 31) (J : sJ f o) (ho : o < smany f) (hl1 : 1 ≤ sLn f o) : aI (M + 20000) B N (spaysF f o) ∧ aR f (spaysF f o) := by
  have hm := J.1.2.1
  obtain ⟨q1, q2⟩ := spaysA_OK (o := o) (du := sduR f o) J.1
  obtain ⟨p1, p2⟩ := aP_pay a.2.1 hM c hh hK J ho hl1
  have n1 : ∀ k, k < 90 → k ≠ 5 → k ≠ 7 → k ≠ 8 → k ≠ 9 → (∀ w, w < 6 → k ≠ 18 + 12 * w + 3 ∧ k ≠ 18 + 12 * w + 4) → spaysF f o k = f k := fun k h1 h5 h7 h8 h9 h => spaysF_k h1 h5 h7 h8 h9 h
  have nA : ∀ k, k ≠ 7 → k ≠ 8 → k ≠ 9 → (∀ w, w < 6 → k ≠ 18 + 12 * w + 3 ∧ k ≠ 18 + 12 * w + 4) → spaysA f o (sduR f o) k = f k := fun k h7 h8 h9 h => spaysA_k h7 h8 h9 h
  have oA : aO N (spaysA f o (sduR f o)) := a.2.2.2.1.same (Nat.le_refl _) (nA 6 (by decide) (by decide) (by decide) (fun w _ => ⟨by omega, by omega⟩)) q2 (fun q i hq _ => nA _ (by omega) (by omega) (by omega) (fun w _ => ⟨by omega, by omega⟩))
  have oG : aO N (spaysF f o) := by
    unfold spaysF
    rw [spays_A]
    exact aO_goes oA q1.1 q1.2.1 (by rw [q2]; exact ho)
  refine ⟨⟨(aW_pay a.1 (by omega) c hh hK J ho hl1).same (by omega) (fun _ _ _ _ => rfl), p1, a.2.2.1.same (Nat.le_refl _) (fun v c hv hc => n1 _ (by omega) (by omega) (by omega) (by omega) (by omega) (fun w _ => ⟨by omega, by omega⟩)) (fun c hc => n1 _ (by omega) (by omega) (by omega) (by omega) (by omega) (fun w _ => ⟨by omega, by omega⟩)), oG, a.2.2.2.2.same (fun v i hv hi => n1 _ (by omega) (by omega) (by omega) (by omega) (by omega) (fun w _ => ⟨by omega, by omega⟩))⟩, yT_same (fun c hc => n1 _ (by omega) (by omega) (by omega) (by omega) (by omega) (fun w _ => ⟨by omega, by omega⟩)) (fun v c hv hc => n1 _ (by omega) (by omega) (by omega) (by omega) (by omega) (fun w _ => ⟨by omega, by omega⟩)) (n1 12 (by omega) (by omega) (by omega) (by omega) (by omega) (fun w _ => ⟨by omega, by omega⟩)), fun i hi => n1 i (by omega) (by omega) (by omega) (by omega) (by omega) (fun w _ => ⟨by omega, by omega⟩), p2⟩
set_option maxRecDepth 8000 in
theorem aI_wv {w o h B N : Nat} (hw : w < 6) (hh : h ≤ 10000) (hB : B < 2 ^ 31) : ∀ (r : Nat) (f : sF) (D M : Nat) (K : Nat → Nat), aI M B N f → sC D K h f → sI f → o < smany f → M + 20100 * r < 2 ^ 31 → (∀ v, v < 6 → K v + 20 * r < 2 ^ 31) → aI (M + 20100 * r) B N (swv w o r f).1 ∧ aR f (swv w o r f).1 := by
  intro r
  induction r with
  | zero =>
    intro f D M K a c hI ho hM hK
    exact ⟨a.mono (by omega), aR.rf⟩
  | succ r ih =>
    intro f D M K a c hI ho hM hK
    have hMb : M + 20 + 1 + 20000 < 2 ^ 31 := Nat.lt_of_le_of_lt (show M + 20 + 1 + 20000 ≤ M + 20100 * (r + 1) by omega) hM
    cases ht : stake f w o with
    | none =>
      rw [swv_none ht]
      exact ⟨a.mono (by omega), aR.rf⟩
    | some f1 =>
      obtain ⟨b1, b2⟩ := stake_I hI hw ho ht
      have c1 := sC_take c hI hw ho (by have := hK w hw; omega) ht
      obtain ⟨x1, r1⟩ := aI_take a c hB hI hw ho ht
      have ho1 : o < smany f1 := by rw [b2]; exact ho
      have c2 := sC_make c1 b1 hw ho1
      obtain ⟨x2, r2⟩ := aI_make x1 b1 hw ho1
      have em := (smake_I b1 hw ho1).1
      have hln : 1 ≤ sLn (smake f1 w o) o := by
        have e3 : smake f1 w o (90 + 12 * o + 3) = f1 (90 + 12 * o + 3) := smake_k (by omega) (by omega) (by omega) (by omega) (by omega)
        unfold sLn
        rw [e3]
        have := (b1.2.2 o ho1).2
        unfold sLn at this
        omega
      have hK1 : ∀ v, v < 6 → (if v = w then K v + 20 else K v) < 2 ^ 31 := fun v hv => by have := hK v hv; split <;> omega
      by_cases hd : sgood (smake f1 w o) o = smake f1 w o (90 + 12 * o + 3)
      · rw [swv_done ht hd]
        have J := ((smake_IJ b1 hw ho1).resolve_right (fun z => z.1 hd)).2
        obtain ⟨x3, r3⟩ := aI_pay x2 hMb c2 hh hK1 J (by rw [em]; exact ho1) hln
        exact ⟨x3.mono (by omega), (r1.tr r2).tr r3⟩
      · rw [swv_more ht hd]
        have I2 := ((smake_IJ b1 hw ho1).resolve_left (fun z => hd z.1)).2
        obtain ⟨x3, r3⟩ := ih (smake f1 w o) D _ _ x2 c2 I2 (by rw [em]; exact ho1) (by omega) (fun v hv => by have := hK v hv; show (if v = w then K v + 20 else K v) + 20 * r < _; split <;> omega)
        exact ⟨x3.mono (by omega), (r1.tr r2).tr r3⟩
theorem aI_weave {w h D M B N : Nat} {K : Nat → Nat} {f : sF} (hw : w < 6) (hh : h ≤ 10000) (hB : B < 2 ^ 31) (a : aI M B N f) (c : sC D K h f) (hI : sI f) (hM : M + 180900 < 2 ^ 31) (hK : ∀ v, v < 6 → K v + 180 < 2 ^ 31) : aI (M + 180900) B N (sweave f w) ∧ aR f (sweave f w) := by
  have hs := (hI.1.2.2.2 w hw).2
  have h1 : aI (M + 180900) B N (sweaves f w).1 ∧ aR f (sweaves f w).1 := by
    unfold sweaves
    cases hq : schos f w with
    | none => exact ⟨a.mono (by omega), aR.rf⟩
    | some o =>
      obtain ⟨x1, r1⟩ := aI_wv hw hh hB (sspd f w) f D M K a c hI (schosN_lt hq).1 (by omega) (fun v hv => by have := hK v hv; omega)
      exact ⟨x1.mono (by omega), r1⟩
  have h2 := aI_un (k := 13) (v := (sweaves f w).1 13 + (if (sweaves f w).2 = 0 then nI 1 else nI 0)) h1.1 (sweaves_I hw hI).m (Or.inr rfl)
  exact ⟨h2.1, h1.2.tr h2.2⟩
theorem aI_hourN {h D M B N : Nat} {K : Nat → Nat} {f : sF} (hh : h ≤ 10000) (hB : B < 2 ^ 31) (a : aI M B N f) (c : sC D K h f) (hI : sI f) (hM : M + 1085400 < 2 ^ 31) (hK : ∀ v, v < 6 → K v + 360 < 2 ^ 31) : ∀ n, n ≤ 6 → aI (M + 180900 * n) B N (shourN f n) ∧ aR f (shourN f n) := by
  intro n
  induction n with
  | zero => intro _; exact ⟨a, aR.rf⟩
  | succ n ih =>
    intro hn
    obtain ⟨x1, r1⟩ := ih (by omega)
    obtain ⟨D1, e1, c1⟩ := sC_hourN hh c hI hK n (by omega)
    have hI1 := shourN_I hI n (by omega)
    unfold shourN
    split
    · obtain ⟨x2, r2⟩ := aI_weave (w := n) (by omega) hh hB x1 c1 hI1 (by omega) (fun v hv => by
        have := hK v hv
        show (if v < n then K v + 180 else K v) + 180 < _
        split <;> omega)
      exact ⟨x2.mono (by omega), r1.tr r2⟩
    · exact ⟨x1.mono (by omega), r1⟩
theorem aI_hour {h D M B N : Nat} {K : Nat → Nat} {f : sF} (hh : h ≤ 10000) (hB : B < 2 ^ 31) (a : aI M B N f) (c : sC D K h f) (hI : sI f) (hM : M + 1085400 < 2 ^ 31) (hK : ∀ v, v < 6 → K v + 360 < 2 ^ 31) : aI (M + 1085400) B N (shour f) ∧ aR f (shour f) := by
  obtain ⟨x1, r1⟩ := aI_hourN hh hB a c hI hM hK 6 (Nat.le_refl 6)
  have h2 := aI_un (k := 4) (v := shourN f 6 4 + nI 1) x1 (shourN_I hI 6 (Nat.le_refl 6)).m (Or.inl rfl)
  exact ⟨h2.1.mono (by omega), r1.tr h2.2⟩
set_option maxRecDepth 8000 in
theorem aI_hours {h D M B N : Nat} {K : Nat → Nat} {f : sF} (hB : B < 2 ^ 31) (a : aI M B N f) (c : sC D K h f) (hI : sI f) : ∀ n, h + n ≤ 9999 → M + 1085400 * n < 2 ^ 31 → (∀ v, v < 6 → K v + 180 * n + 360 < 2 ^ 31) → aI (M + 1085400 * n) B N (shours f n) ∧ aR f (shours f n) := by
  intro n
  induction n with
  | zero => intro _ _ _; exact ⟨a, aR.rf⟩
  | succ n ih =>
    intro hn hM hK
    have hMb : M + 1085400 * n + 1085400 < 2 ^ 31 := Nat.lt_of_le_of_lt (show M + 1085400 * n + 1085400 ≤ M + 1085400 * (n + 1) by omega) hM
    have hhb : h + n ≤ 10000 := by omega
    have hKb : ∀ v, v < 6 → K v + 180 * n + 360 < 2 ^ 31 := fun v hv => by have := hK v hv; omega
    obtain ⟨x1, r1⟩ := ih (by omega) (by omega) (fun v hv => by have := hK v hv; omega)
    obtain ⟨D1, e1, c1⟩ := sC_hours c hI n (by omega) (fun v hv => by have := hK v hv; omega)
    obtain ⟨x2, r2⟩ := aI_hour hhb hB x1 c1 (shours_I hI n) hMb hKb
    exact ⟨x2.mono (by omega), r1.tr r2⟩
