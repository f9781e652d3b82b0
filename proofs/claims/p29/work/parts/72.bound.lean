/-! BOUNDS: what was earned stays small and not negative -/
theorem slate_b {f : sF} {o h v : Nat} (h4 : f 4 = nI h) (hh : h ≤ 10000) (hv : f (90 + 12 * o + 5) = nI v) (hv2 : v ≤ 9999) : ∃ t, t ≤ 10000 ∧ slate f o = nI t := by
  unfold slate
  rw [h4, hv]
  by_cases c : h ≤ v
  · rw [if_pos ((nI_leI (by omega) (by omega)).mpr c)]
    exact ⟨0, by decide, rfl⟩
  · rw [if_neg (fun z => c ((nI_leI (by omega) (by omega)).mp z)), pk_sub (by omega)]
    exact ⟨_, by omega, rfl⟩
theorem swhole_b {f : sF} {o P l t s : Nat} (hp : f (90 + 12 * o + 4) = nI P) (hP : P ≤ 99) (hl : l ≤ 200) (ht : slate f o = nI t) (ht2 : t ≤ 10000) (hs : f 2 = nI s) (hs2 : s ≤ 50) : ∃ W, W ≤ 19800 ∧ swhole f o (nI l) = nI W := by
  have h1 : P * l ≤ 99 * 200 := Nat.mul_le_mul hP hl
  have h2 : P * l * t ≤ 99 * 200 * 10000 := Nat.mul_le_mul h1 ht2
  have h3 : P * l * t * s ≤ 99 * 200 * 10000 * 50 := Nat.mul_le_mul h2 hs2
  have e : sless f o (nI l) = lN (P * l * t * s / 100) := by
    unfold sless
    rw [hp, ht, hs, nI_l (by omega), nI_l (by omega), nI_l (by omega), nI_l (by omega), lN_mul, lN_mul, lN_mul]
    exact pk_lDiv (by omega) (by decide) (by decide)
  unfold swhole
  rw [e, hp, nI_l (by omega), nI_l (by omega), lN_mul]
  generalize P * l * t * s = X at h3
  generalize P * l = Y at h1
  by_cases hc : X / 100 ≤ Y
  · rw [if_pos ((pk_lLE (by omega) (by omega)).mpr hc), lN_sub hc, lN_i]
    exact ⟨_, by omega, rfl⟩
  · rw [if_neg (fun z => hc ((pk_lLE (by omega) (by omega)).mp z))]
    exact ⟨0, by decide, rfl⟩
theorem sdue_b {f : sF} {o W l w g : Nat} (hW : W ≤ 19800) (l1 : 1 ≤ l) (l2 : l ≤ 200) (hg : f (90 + 12 * o + (6 + w)) = nI g) (hg2 : g ≤ 200) : sdue f o (nI W) (nI l) w = nI (W * g / l) := by
  have h1 : W * g ≤ 19800 * 200 := Nat.mul_le_mul hW hg2
  unfold sdue
  rw [if_neg (nI_ne0 (by omega) (by omega)), hg, pk_mul, pk_div (by omega) (by omega) (by omega)]
theorem du_b {f : sF} {o l W : Nat} (hw0 : swhole f o (nI l) = nI W) (hW : W ≤ 19800) (hl : f (90 + 12 * o + 3) = nI l) (l1 : 1 ≤ l) (l2 : l ≤ 200) (hg : ∀ w, w < 6 → f (90 + 12 * o + (6 + w)) = nI (sGd f o w)) (hs : sGs f o = l) : ∀ w, w < 6 → ∃ x, x ≤ 19800 ∧ sduR f o w = nI x := by
  have hs2 : sGd f o 0 + sGd f o 1 + sGd f o 2 + sGd f o 3 + sGd f o 4 + sGd f o 5 = l := hs
  have gb : ∀ w, w < 6 → sGd f o w ≤ 200 := by
    intro w hw
    rcases (by omega : w = 0 ∨ w = 1 ∨ w = 2 ∨ w = 3 ∨ w = 4 ∨ w = 5) with rfl | rfl | rfl | rfl | rfl | rfl <;> omega
  obtain ⟨X, hd, hx⟩ : ∃ X : Nat → Nat, (∀ w, w < 6 → sdue f o (nI W) (nI l) w = nI (X w)) ∧ ∀ w, X w * l ≤ W * sGd f o w := ⟨fun w => W * sGd f o w / l, fun w hw => sdue_b hW l1 l2 (hg w hw) (gb w hw), fun w => Nat.div_mul_le_self _ _⟩
  have hsum : X 0 + X 1 + X 2 + X 3 + X 4 + X 5 ≤ W := by
    refine Nat.le_of_mul_le_mul_right (c := l) ?_ (by omega)
    rw [Nat.add_mul, Nat.add_mul, Nat.add_mul, Nat.add_mul, Nat.add_mul]
    have e : W * l = W * sGd f o 0 + W * sGd f o 1 + W * sGd f o 2 + W * sGd f o 3 + W * sGd f o 4 + W * sGd f o 5 := by
      rw [← hs2, Nat.mul_add, Nat.mul_add, Nat.mul_add, Nat.mul_add, Nat.mul_add]
    rw [e]
    have a0 := hx 0
    have a1 := hx 1
    have a2 := hx 2
    have a3 := hx 3
    have a4 := hx 4
    have a5 := hx 5
    omega
  have h0 := hd 0 (by decide)
  have h1 := hd 1 (by decide)
  have h2 := hd 2 (by decide)
  have h3 := hd 3 (by decide)
  have h4 := hd 4 (by decide)
  have h5 := hd 5 (by decide)
  have hleft : sleft f o (nI W) (nI l) 6 = nI (W - X 0 - X 1 - X 2 - X 3 - X 4 - X 5) := by
    show nI W - sdue f o (nI W) (nI l) 0 - sdue f o (nI W) (nI l) 1 - sdue f o (nI W) (nI l) 2 - sdue f o (nI W) (nI l) 3 - sdue f o (nI W) (nI l) 4 - sdue f o (nI W) (nI l) 5 = _
    rw [h0, h1, h2, h3, h4, h5, pk_sub (by omega), pk_sub (by omega), pk_sub (by omega), pk_sub (by omega), pk_sub (by omega), pk_sub (by omega)]
  have hm := smost_le f o 6
  intro w hw
  have hxw : X w ≤ X 0 + X 1 + X 2 + X 3 + X 4 + X 5 := by
    rcases (by omega : w = 0 ∨ w = 1 ∨ w = 2 ∨ w = 3 ∨ w = 4 ∨ w = 5) with rfl | rfl | rfl | rfl | rfl | rfl <;> omega
  unfold sduR sshares
  rw [hl, hw0]
  by_cases c : w = smost f o 6
  · rw [← c, upd_s, sdues_w hw, hd w hw, if_neg (nI_ne0 (by omega) (by omega)), hleft, nI_add]
    exact ⟨_, by omega, rfl⟩
  · rw [upd_n c, sdues_w hw, hd w hw]
    exact ⟨_, by omega, rfl⟩
theorem spay1_b {f : sF} {du : Nat → Int32} {w d e x : Nat} (h3 : f (18 + 12 * w + 3) = nI d) (h4 : f (18 + 12 * w + 4) = nI e) (hd : d < 2 ^ 31) (hx : du w = nI x) (hxb : x ≤ 19800) (hf : 0 ≤ f 3) : ∃ d' e', d' ≤ d ∧ e' ≤ e + x ∧ spay1 f du w (18 + 12 * w + 3) = nI d' ∧ spay1 f du w (18 + 12 * w + 4) = nI e' := by
  obtain ⟨s, hs, es⟩ := nI_of (x := f 3) (i32_nlt.mpr hf)
  have hg : ∃ gg, gg ≤ d ∧ gg * s ≤ x ∧ (if f 3 = 0 then f (18 + 12 * w + 3) else if du w / f 3 ≤ f (18 + 12 * w + 3) then du w / f 3 else f (18 + 12 * w + 3)) = nI gg := by
    rw [h3, hx, es]
    by_cases c : s = 0
    · subst c
      exact ⟨d, Nat.le_refl _, by omega, if_pos rfl⟩
    · rw [if_neg (nI_ne0 (by omega) hs), pk_div (by omega) (by omega) hs]
      have hq : x / s ≤ x := Nat.div_le_self _ _
      have hq2 : x / s < 2 ^ 31 := Nat.lt_of_le_of_lt hq (by omega)
      by_cases c2 : x / s ≤ d
      · rw [if_pos ((nI_leI hq2 hd).mpr c2)]
        exact ⟨_, c2, Nat.div_mul_le_self _ _, rfl⟩
      · rw [if_neg (fun z => c2 ((nI_leI hq2 hd).mp z))]
        exact ⟨d, Nat.le_refl _, Nat.le_trans (Nat.mul_le_mul_right s (Nat.le_of_lt (Nat.not_le.mp c2))) (Nat.div_mul_le_self _ _), rfl⟩
  obtain ⟨gg, g1, g2, g3⟩ := hg
  refine ⟨d - gg, e + (x - gg * s), by omega, by omega, ?_, ?_⟩
  · unfold spay1
    rw [g3, upd_n (by omega), upd_s, h3, ← Int32.sub_eq_add_neg, pk_sub g1]
  · unfold spay1
    rw [g3, upd_s, upd_n (by omega), upd_n (by omega), h4, hx, es, pk_mul, pk_sub g2, nI_add]
/-- earned at most 20000 for each order that was done, debts K, hours h -/
def sC (D : Nat) (K : Nat → Nat) (h : Nat) (f : sF) : Prop :=
  (∀ w, w < 6 → (∃ e, e ≤ 20000 * D ∧ f (18 + 12 * w + 4) = nI e) ∧ ∃ d, d ≤ K w ∧ f (18 + 12 * w + 3) = nI d) ∧ (f 4 = nI h ∧ ∃ s, s ≤ 50 ∧ f 2 = nI s) ∧
  ∀ o, o < smany f → (∃ v, v ≤ 200 ∧ f (90 + 12 * o + 2) = nI v) ∧ ∃ v, v ≤ 9999 ∧ f (90 + 12 * o + 5) = nI v
theorem sC.mono {D D' h : Nat} {K K' : Nat → Nat} {f : sF} (a : sC D K h f) (hD : D ≤ D') (hK : ∀ w, w < 6 → K w ≤ K' w) : sC D' K' h f := by
  refine ⟨fun w hw => ?_, a.2⟩
  obtain ⟨⟨e, e1, e2⟩, d, d1, d2⟩ := a.1 w hw
  exact ⟨⟨e, Nat.le_trans e1 (Nat.mul_le_mul_left _ hD), e2⟩, d, Nat.le_trans d1 (hK w hw), d2⟩
theorem sC.same {D h : Nat} {K : Nat → Nat} {f g : sF} (a : sC D K h f) (E : ∀ w, w < 6 → g (18 + 12 * w + 4) = f (18 + 12 * w + 4) ∧ g (18 + 12 * w + 3) = f (18 + 12 * w + 3)) (e4 : g 4 = f 4) (e2 : g 2 = f 2) (em : smany g = smany f) (eo : ∀ o, o < smany f → g (90 + 12 * o + 2) = f (90 + 12 * o + 2) ∧ g (90 + 12 * o + 5) = f (90 + 12 * o + 5)) : sC D K h g := by
  refine ⟨fun w hw => by rw [(E w hw).1, (E w hw).2]; exact a.1 w hw, by rw [e4, e2]; exact a.2.1, fun o ho => ?_⟩
  rw [em] at ho
  rw [(eo o ho).1, (eo o ho).2]
  exact a.2.2 o ho
theorem sC_payN {D h : Nat} {K : Nat → Nat} {f : sF} {du : Nat → Int32} (a : sC D K h f) (hK : ∀ w, w < 6 → K w < 2 ^ 31) (hf : 0 ≤ f 3) (hdu : ∀ w, w < 6 → ∃ x, x ≤ 19800 ∧ du w = nI x) : ∀ n, n ≤ 6 → ∀ w, w < 6 → (∃ e, e ≤ 20000 * D + 19800 * (if w < n then 1 else 0) ∧ spayN f du n (18 + 12 * w + 4) = nI e) ∧ ∃ d, d ≤ K w ∧ spayN f du n (18 + 12 * w + 3) = nI d := by
  intro n
  induction n with
  | zero =>
    intro _ w hw
    obtain ⟨⟨e, e1, e2⟩, d⟩ := a.1 w hw
    exact ⟨⟨e, by omega, e2⟩, d⟩
  | succ n ih =>
    intro hn w hw
    obtain ⟨⟨e, e1, e2⟩, d, d1, d2⟩ := ih (by omega) w hw
    show (∃ e, e ≤ _ ∧ spay1 (spayN f du n) du n (18 + 12 * w + 4) = nI e) ∧ ∃ d, d ≤ K w ∧ spay1 (spayN f du n) du n (18 + 12 * w + 3) = nI d
    by_cases c : w = n
    · subst c
      obtain ⟨x, x1, x2⟩ := hdu w hw
      have hk := hK w hw
      obtain ⟨d', e', q1, q2, q3, q4⟩ := spay1_b d2 e2 (by omega) x2 x1 (by rw [spayN_k (fun v hv => ⟨by omega, by omega⟩)]; exact hf)
      rw [if_neg (Nat.lt_irrefl w)] at e1
      rw [if_pos (Nat.lt_succ_self w)]
      exact ⟨⟨e', by omega, q4⟩, d', by omega, q3⟩
    · rw [spay1_k (by omega) (by omega), spay1_k (by omega) (by omega)]
      refine ⟨⟨e, ?_, e2⟩, d, d1, d2⟩
      by_cases c2 : w < n
      · rw [if_pos c2] at e1
        rw [if_pos (by omega)]; exact e1
      · rw [if_neg c2] at e1
        rw [if_neg (by omega)]; exact e1
theorem sgoes_m {f : sF} {o : Nat} (h5 : f 5 = nI (smany f)) (hk : smany f ≤ 10) (ho : o < smany f) : smany (sgoes f o) + 1 = smany f := by
  have e : sgoes f o 5 = nI (smany f - 1) := by
    unfold sgoes
    rw [if_neg (by omega), upd_s, h5, pk_sub (by omega)]
  have e2 : smany (sgoes f o) = smany f - 1 := by
    show (sgoes f o 5).toNatClampNeg = _
    rw [e, nI_clamp (by omega)]
  omega
theorem sC_goes {D h : Nat} {K : Nat → Nat} {f : sF} {o : Nat} (a : sC D K h f) (h5 : f 5 = nI (smany f)) (hk : smany f ≤ 10) (ho : o < smany f) : sC D K h (sgoes f o) := by
  have hm := sgoes_m h5 hk ho
  have n1 : ∀ k, k < 90 → k ≠ 5 → sgoes f o k = f k := fun k h1 h2 => by
    unfold sgoes
    rw [if_neg (by omega), upd_n h2]
  refine ⟨fun w hw => by rw [n1 _ (by omega) (by omega), n1 _ (by omega) (by omega)]; exact a.1 w hw, by rw [n1 4 (by decide) (by decide), n1 2 (by decide) (by decide)]; exact a.2.1, fun q hq => ?_⟩
  by_cases c : o ≤ q
  · have e : ∀ k, k < 12 → sgoes f o (90 + 12 * q + k) = f (90 + 12 * (q + 1) + k) := fun k hk2 => by
      unfold sgoes
      rw [if_pos (by omega)]
      exact congrArg f (by omega)
    rw [e 2 (by decide), e 5 (by decide)]
    exact a.2.2 (q + 1) (by omega)
  · have e : ∀ k, k < 12 → sgoes f o (90 + 12 * q + k) = f (90 + 12 * q + k) := fun k hk2 => by
      unfold sgoes
      rw [if_neg (by omega), upd_n (by omega)]
    rw [e 2 (by decide), e 5 (by decide)]
    exact a.2.2 q (by omega)
theorem sC_pay {D h : Nat} {K : Nat → Nat} {f : sF} {o : Nat} (a : sC D K h f) (hh : h ≤ 10000) (hK : ∀ w, w < 6 → K w < 2 ^ 31) (J : sJ f o) (ho : o < smany f) (hl1 : 1 ≤ sLn f o) : sC (D + 1) K h (spaysF f o) ∧ smany (spaysF f o) + 1 = smany f := by
  obtain ⟨b1, b2, b3, b4, b5, b6, b7⟩ := J.2.2.1 o ho
  obtain ⟨⟨vw, vw1, vw2⟩, vd, vd1, vd2⟩ := a.2.2 o ho
  obtain ⟨s, s1, s2⟩ := a.2.1.2
  obtain ⟨t, t1, t2⟩ := slate_b a.2.1.1 hh vd2 vd1
  obtain ⟨W, W1, W2⟩ := swhole_b b3 b4 b5 t2 t1 s2 s1
  have hdu := du_b W2 W1 b2 hl1 b5 b1 J.2.2.2.2
  have hN := sC_payN a hK J.2.1.2.1 hdu 6 (Nat.le_refl 6)
  obtain ⟨q1, q2⟩ := spaysA_OK (o := o) (du := sduR f o) J.1
  have eA : ∀ k, k ≠ 7 → k ≠ 8 → k ≠ 9 → spaysA f o (sduR f o) k = spayN f (sduR f o) 6 k := fun k h7 h8 h9 => by unfold spaysA; rw [upd_n h9, upd_n h8, upd_n h7]
  have eB : ∀ k, k ≠ 7 → k ≠ 8 → k ≠ 9 → (∀ w, w < 6 → k ≠ 18 + 12 * w + 3 ∧ k ≠ 18 + 12 * w + 4) → spaysA f o (sduR f o) k = f k := fun k h7 h8 h9 h => spaysA_k h7 h8 h9 h
  have hA : sC (D + 1) K h (spaysA f o (sduR f o)) := by
    refine ⟨fun w hw => ?_, ?_, fun q hq => ?_⟩
    · rw [eA _ (by omega) (by omega) (by omega), eA _ (by omega) (by omega) (by omega)]
      obtain ⟨⟨e, e1, e2⟩, d⟩ := hN w hw
      rw [if_pos hw] at e1
      exact ⟨⟨e, by omega, e2⟩, d⟩
    · rw [eB 4 (by decide) (by decide) (by decide) (fun w hw => ⟨by omega, by omega⟩), eB 2 (by decide) (by decide) (by decide) (fun w hw => ⟨by omega, by omega⟩)]
      exact a.2.1
    · rw [q2] at hq
      rw [eB _ (by omega) (by omega) (by omega) (fun w hw => ⟨by omega, by omega⟩), eB _ (by omega) (by omega) (by omega) (fun w hw => ⟨by omega, by omega⟩)]
      exact a.2.2 q hq
  have hg := sC_goes hA q1.1 q1.2.1 (o := o) (by rw [q2]; exact ho)
  have hm := sgoes_m q1.1 q1.2.1 (o := o) (by rw [q2]; exact ho)
  rw [q2] at hm
  exact ⟨hg, hm⟩
theorem sC_take {D h w o : Nat} {K : Nat → Nat} {f f1 : sF} (a : sC D K h f) (hI : sI f) (hw : w < 6) (ho : o < smany f) (hK : K w + 20 < 2 ^ 31) (ht : stake f w o = some f1) : sC D (fun v => if v = w then K v + 20 else K v) h f1 := by
  have hc := (hI.1.2.2.1 o ho).2
  have hm := hI.1.2.1
  have em := (stake_OK hI.1 hw ho ht).2
  have nk : ∀ k, k ≠ 12 → k ≠ 14 + scol f o → k ≠ 18 + 12 * w + 3 → k ≠ 18 + 12 * w + 7 → k ≠ 18 + 12 * w + (8 + scol f o) → f1 k = f k := fun k h1 h2 h3 h4 h5 => stake_k ht h1 h2 h3 h4 h5
  obtain ⟨⟨vw, vw1, vw2⟩, -⟩ := a.2.2 o ho
  have eg : sgrams f o = nI ((vw + 9) / 10) := by
    unfold sgrams
    rw [vw2, nI_add, pk_div (by omega) (by decide) (by decide)]
  refine ⟨fun v hv => ⟨?_, ?_⟩, ?_, fun q hq => ?_⟩
  · rw [nk _ (by omega) (by omega) (by omega) (by omega) (by omega)]
    exact (a.1 v hv).1
  · obtain ⟨d, d1, d2⟩ := (a.1 v hv).2
    show ∃ d, d ≤ (if v = w then K v + 20 else K v) ∧ _
    by_cases c : v = w
    · subst c
      rw [if_pos rfl]
      unfold stake at ht
      split at ht
      · cases ht
        refine ⟨d, by omega, ?_⟩
        rw [upd_n (by omega), upd_n (by omega)]
        exact d2
      · split at ht
        · cases ht
          refine ⟨d + (vw + 9) / 10, by omega, ?_⟩
          rw [upd_n (by omega), upd_n (by omega), upd_s, upd_n (by omega), d2, eg, nI_add]
        · cases ht
    · rw [if_neg c, nk _ (by omega) (by omega) (by omega) (by omega) (by omega)]
      exact ⟨d, d1, d2⟩
  · rw [nk 4 (by decide) (by omega) (by omega) (by omega) (by omega), nk 2 (by decide) (by omega) (by omega) (by omega) (by omega)]
    exact a.2.1
  · rw [em] at hq
    rw [nk _ (by omega) (by omega) (by omega) (by omega) (by omega), nk _ (by omega) (by omega) (by omega) (by omega) (by omega)]
    exact a.2.2 q hq
theorem sC_make {D h w o : Nat} {K : Nat → Nat} {f : sF} (a : sC D K h f) (hI : sI f) (hw : w < 6) (ho : o < smany f) : sC D K h (smake f w o) :=
  a.same (fun v hv => ⟨smake_k (by omega) (by omega) (by omega) (by omega) (by omega), smake_k (by omega) (by omega) (by omega) (by omega) (by omega)⟩) (smake_k (by omega) (by omega) (by omega) (by omega) (by omega)) (smake_k (by omega) (by omega) (by omega) (by omega) (by omega)) (smake_I hI hw ho).1 (fun q hq => ⟨smake_k (by omega) (by omega) (by omega) (by omega) (by omega), smake_k (by omega) (by omega) (by omega) (by omega) (by omega)⟩)
theorem sC_wv {w o h : Nat} (hw : w < 6) (hh : h ≤ 10000) : ∀ (r : Nat) (f : sF) (D : Nat) (K : Nat → Nat), sC D K h f → sI f → o < smany f → (∀ v, v < 6 → K v + 20 * r < 2 ^ 31) → ∃ D', D' + smany (swv w o r f).1 = D + smany f ∧ sC D' (fun v => if v = w then K v + 20 * r else K v) h (swv w o r f).1 := by
  intro r
  induction r with
  | zero =>
    intro f D K a hI ho hK
    exact ⟨D, rfl, a.mono (Nat.le_refl _) (fun v _ => by split <;> omega)⟩
  | succ r ih =>
    intro f D K a hI ho hK
    cases ht : stake f w o with
    | none =>
      rw [swv_none ht]
      exact ⟨D, rfl, a.mono (Nat.le_refl _) (fun v _ => by split <;> omega)⟩
    | some f1 =>
      obtain ⟨b1, b2⟩ := stake_I hI hw ho ht
      have a1 := sC_take a hI hw ho (by have := hK w hw; omega) ht
      have ho1 : o < smany f1 := by rw [b2]; exact ho
      have a2 := sC_make a1 b1 hw ho1
      have em := (smake_I b1 hw ho1).1
      have hln : 1 ≤ sLn (smake f1 w o) o := by
        have e3 : smake f1 w o (90 + 12 * o + 3) = f1 (90 + 12 * o + 3) := smake_k (by omega) (by omega) (by omega) (by omega) (by omega)
        unfold sLn
        rw [e3]
        have := (b1.2.2 o ho1).2
        unfold sLn at this
        omega
      by_cases hd : sgood (smake f1 w o) o = smake f1 w o (90 + 12 * o + 3)
      · rw [swv_done ht hd]
        have J := ((smake_IJ b1 hw ho1).resolve_right (fun z => z.1 hd)).2
        obtain ⟨c1, c2⟩ := sC_pay a2 hh (fun v hv => by have := hK v hv; show (if v = w then K v + 20 else K v) < _; split <;> omega) J (by rw [em]; exact ho1) hln
        refine ⟨D + 1, ?_, c1.mono (Nat.le_refl _) (fun v _ => ?_)⟩
        · show D + 1 + smany (spaysF (smake f1 w o) o) = _
          omega
        · show (if v = w then K v + 20 else K v) ≤ (if v = w then K v + 20 * (r + 1) else K v)
          split <;> omega
      · rw [swv_more ht hd]
        have I2 := ((smake_IJ b1 hw ho1).resolve_left (fun z => hd z.1)).2
        obtain ⟨D', e1, c1⟩ := ih (smake f1 w o) D _ a2 I2 (by rw [em]; exact ho1) (fun v hv => by have := hK v hv; show (if v = w then K v + 20 else K v) + 20 * r < _; split <;> omega)
        refine ⟨D', ?_, c1.mono (Nat.le_refl _) (fun v _ => ?_)⟩
        · show D' + smany (swv w o r (smake f1 w o)).1 = _
          omega
        · show (if v = w then (if v = w then K v + 20 else K v) + 20 * r else (if v = w then K v + 20 else K v)) ≤ (if v = w then K v + 20 * (r + 1) else K v)
          by_cases c : v = w
          · rw [if_pos c, if_pos c, if_pos c]; omega
          · rw [if_neg c, if_neg c, if_neg c]; exact Nat.le_refl _
theorem sC_weave {w h D : Nat} {K : Nat → Nat} {f : sF} (hw : w < 6) (hh : h ≤ 10000) (a : sC D K h f) (hI : sI f) (hK : ∀ v, v < 6 → K v + 180 < 2 ^ 31) : ∃ D', D' + smany (sweave f w) = D + smany f ∧ sC D' (fun v => if v = w then K v + 180 else K v) h (sweave f w) := by
  have hs := (hI.1.2.2.2 w hw).2
  have h1 : ∃ D', D' + smany (sweaves f w).1 = D + smany f ∧ sC D' (fun v => if v = w then K v + 180 else K v) h (sweaves f w).1 := by
    unfold sweaves
    cases hq : schos f w with
    | none => exact ⟨D, rfl, a.mono (Nat.le_refl _) (fun v _ => by split <;> omega)⟩
    | some o =>
      obtain ⟨D', e1, c1⟩ := sC_wv hw hh (sspd f w) f D K a hI (schosN_lt hq).1 (fun v hv => by have := hK v hv; omega)
      exact ⟨D', e1, c1.mono (Nat.le_refl _) (fun v _ => by show (if v = w then K v + 20 * sspd f w else K v) ≤ _; split <;> omega)⟩
  obtain ⟨D', e1, c1⟩ := h1
  have em : smany (sweave f w) = smany (sweaves f w).1 := smany_u (by decide)
  exact ⟨D', by rw [em]; exact e1, c1.same (fun v hv => ⟨upd_n (by omega), upd_n (by omega)⟩) (upd_n (by decide)) (upd_n (by decide)) em (fun o ho => ⟨upd_n (by omega), upd_n (by omega)⟩)⟩
theorem sC_hourN {h D : Nat} {K : Nat → Nat} {f : sF} (hh : h ≤ 10000) (a : sC D K h f) (hI : sI f) (hK : ∀ v, v < 6 → K v + 360 < 2 ^ 31) : ∀ n, n ≤ 6 → ∃ D', D' + smany (shourN f n) = D + smany f ∧ sC D' (fun v => if v < n then K v + 180 else K v) h (shourN f n) := by
  intro n
  induction n with
  | zero => intro _; exact ⟨D, rfl, a⟩
  | succ n ih =>
    intro hn
    obtain ⟨D1, e1, c1⟩ := ih (by omega)
    have hI1 := shourN_I hI n (by omega)
    unfold shourN
    split
    · obtain ⟨D2, e2, c2⟩ := sC_weave (w := n) (by omega) hh c1 hI1 (fun v hv => by
        have := hK v hv
        show (if v < n then K v + 180 else K v) + 180 < _
        split <;> omega)
      refine ⟨D2, by omega, c2.mono (Nat.le_refl _) (fun v _ => ?_)⟩
      show (if v = n then (if v < n then K v + 180 else K v) + 180 else (if v < n then K v + 180 else K v)) ≤ (if v < n + 1 then K v + 180 else K v)
      by_cases c : v = n
      · rw [if_pos c, if_neg (by omega), if_pos (by omega)]; exact Nat.le_refl _
      · rw [if_neg c]
        split <;> split <;> omega
    · refine ⟨D1, e1, c1.mono (Nat.le_refl _) (fun v _ => ?_)⟩
      show (if v < n then K v + 180 else K v) ≤ (if v < n + 1 then K v + 180 else K v)
      split <;> split <;> omega
theorem sC_hour {h D : Nat} {K : Nat → Nat} {f : sF} (hh : h ≤ 10000) (a : sC D K h f) (hI : sI f) (hK : ∀ v, v < 6 → K v + 360 < 2 ^ 31) : ∃ D', D' + smany (shour f) = D + smany f ∧ sC D' (fun v => K v + 180) (h + 1) (shour f) := by
  obtain ⟨D', e1, c1⟩ := sC_hourN hh a hI hK 6 (Nat.le_refl 6)
  have em : smany (shour f) = smany (shourN f 6) := smany_u (by decide)
  refine ⟨D', by rw [em]; exact e1, fun w hw => ?_, ⟨?_, ?_⟩, fun o ho => ?_⟩
  · have n1 : ∀ k, k ≠ 4 → shour f k = shourN f 6 k := fun k hk => upd_n hk
    rw [n1 _ (by omega), n1 _ (by omega)]
    obtain ⟨q1, d, d1, d2⟩ := c1.1 w hw
    exact ⟨q1, d, Nat.le_trans d1 (by show (if w < 6 then K w + 180 else K w) ≤ K w + 180; split <;> omega), d2⟩
  · show upd (shourN f 6) 4 (shourN f 6 4 + nI 1) 4 = _
    rw [upd_s, c1.2.1.1, nI_add]
  · show ∃ s, s ≤ 50 ∧ upd (shourN f 6) 4 (shourN f 6 4 + nI 1) 2 = nI s
    rw [upd_n (by decide)]
    exact c1.2.1.2
  · rw [em] at ho
    have n1 : ∀ k, k ≠ 4 → shour f k = shourN f 6 k := fun k hk => upd_n hk
    rw [n1 _ (by omega), n1 _ (by omega)]
    exact c1.2.2 o ho
theorem sC_hours {h D : Nat} {K : Nat → Nat} {f : sF} (a : sC D K h f) (hI : sI f) : ∀ n, h + n ≤ 9999 → (∀ v, v < 6 → K v + 180 * n + 360 < 2 ^ 31) → ∃ D', D' + smany (shours f n) = D + smany f ∧ sC D' (fun v => K v + 180 * n) (h + n) (shours f n) := by
  intro n
  induction n with
  | zero => intro _ _; exact ⟨D, rfl, a⟩
  | succ n ih =>
    intro hn hK
    obtain ⟨D1, e1, c1⟩ := ih (by omega) (fun v hv => by have := hK v hv; omega)
    obtain ⟨D2, e2, c2⟩ := sC_hour (by omega) c1 (shours_I hI n) (fun v hv => by have := hK v hv; show K v + 180 * n + 360 < _; omega)
    refine ⟨D2, ?_, c2.mono (Nat.le_refl _) (fun v _ => ?_)⟩
    · show D2 + smany (shour (shours f n)) = _
      omega
    · show K v + 180 * n + 180 ≤ K v + 180 * (n + 1)
      omega
