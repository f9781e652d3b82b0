/-! ACCOUNTS of the weavers and of the hall; yarn in bounds; looms; what a decimetre and a pay do to them -/
theorem sW_of {f : sF} {k a : Nat} (h : f k = nI a) (ha : a < 2 ^ 31) : sW (f k) = a := by rw [h, sW_N ha]
theorem sgoes_n {f : sF} {o k : Nat} (h1 : k < 90) (h2 : k ≠ 5) : sgoes f o k = f k := by
  unfold sgoes
  rw [if_neg (by omega), upd_n h2]
def aW (M : Nat) (f : sF) : Prop := ∀ w, w < 6 → ∃ wo fa de bo : Nat, (f (18 + 12 * w + 5) = nI wo ∧ f (18 + 12 * w + 6) = nI fa ∧ f (18 + 12 * w + 3) = nI de ∧ f (18 + 12 * w + 7) = nI bo) ∧ fa ≤ wo ∧ de ≤ bo ∧ wo ≤ M ∧ bo ≤ M
def aP (M : Nat) (f : sF) : Prop := ∃ (E : Nat → Nat) (p dn lt : Nat), (∀ w, w < 6 → f (18 + 12 * w + 4) = nI (E w)) ∧ (f 9 = nI p ∧ f 7 = nI dn ∧ f 8 = nI lt) ∧ E 0 + E 1 + E 2 + E 3 + E 4 + E 5 ≤ p ∧ lt ≤ dn ∧ dn ≤ M ∧ p ≤ M
def aY (B : Nat) (f : sF) : Prop := (∀ w c, w < 6 → c < 4 → ∃ g, g ≤ 9999 ∧ f (18 + 12 * w + (8 + c)) = nI g) ∧ ∀ c, c < 4 → ∃ g, g ≤ B ∧ f (14 + c) = nI g
def aL (f : sF) : Prop := ∀ w, w < 6 → f (18 + 12 * w + 0) = nI 0 → f (18 + 12 * w + 1) = nI 0 ∧ f (18 + 12 * w + 2) = nI 0
theorem aW.same {M M' : Nat} {f g : sF} (a : aW M f) (hM : M ≤ M') (E : ∀ w k, w < 6 → k = 3 ∨ k = 5 ∨ k = 6 ∨ k = 7 → g (18 + 12 * w + k) = f (18 + 12 * w + k)) : aW M' g := by
  intro w hw
  obtain ⟨wo, fa, de, bo, ⟨e1, e2, e3, e4⟩, b1, b2, b3, b4⟩ := a w hw
  exact ⟨wo, fa, de, bo, ⟨by rw [E w 5 hw (by omega)]; exact e1, by rw [E w 6 hw (by omega)]; exact e2, by rw [E w 3 hw (by omega)]; exact e3, by rw [E w 7 hw (by omega)]; exact e4⟩, b1, b2, by omega, by omega⟩
theorem aP.same {M M' : Nat} {f g : sF} (a : aP M f) (hM : M ≤ M') (E : ∀ w, w < 6 → g (18 + 12 * w + 4) = f (18 + 12 * w + 4)) (E2 : ∀ k, k = 7 ∨ k = 8 ∨ k = 9 → g k = f k) : aP M' g := by
  obtain ⟨X, p, dn, lt, a1, ⟨a2, a3, a4⟩, a5, a6, a7, a8⟩ := a
  exact ⟨X, p, dn, lt, fun w hw => by rw [E w hw]; exact a1 w hw, ⟨by rw [E2 9 (by omega)]; exact a2, by rw [E2 7 (by omega)]; exact a3, by rw [E2 8 (by omega)]; exact a4⟩, a5, a6, by omega, by omega⟩
theorem aY.same {B B' : Nat} {f g : sF} (a : aY B f) (hB : B ≤ B') (E : ∀ w c, w < 6 → c < 4 → g (18 + 12 * w + (8 + c)) = f (18 + 12 * w + (8 + c))) (E2 : ∀ c, c < 4 → g (14 + c) = f (14 + c)) : aY B' g := by
  refine ⟨fun w c hw hc => by rw [E w c hw hc]; exact a.1 w c hw hc, fun c hc => ?_⟩
  obtain ⟨g0, h1, h2⟩ := a.2 c hc
  exact ⟨g0, by omega, by rw [E2 c hc]; exact h2⟩
theorem aL.same {f g : sF} (a : aL f) (E : ∀ w k, w < 6 → k < 3 → g (18 + 12 * w + k) = f (18 + 12 * w + k)) : aL g := by
  intro w hw h
  rw [E w 0 hw (by decide)] at h
  rw [E w 1 hw (by decide), E w 2 hw (by decide)]
  exact a w hw h
/-- the places that a decimetre's yarn changes -/
theorem stake_kk {f f1 : sF} {w o k : Nat} (hc : scol f o < 4) (hw : w < 6) (ht : stake f w o = some f1) (h1 : k ≠ 12) (h2 : ¬ (14 ≤ k ∧ k < 18)) (h3 : k ≠ 18 + 12 * w + 3) (h4 : k ≠ 18 + 12 * w + 7) (h5 : ¬ (18 + 12 * w + 8 ≤ k ∧ k < 18 + 12 * w + 12)) : f1 k = f k :=
  stake_k ht h1 (by omega) h3 h4 (by omega)
theorem aW_take {M w o g : Nat} {f f1 : sF} (a : aW M f) (hI : sI f) (hw : w < 6) (ho : o < smany f) (eg : sgrams f o = nI g) (hg : g ≤ 20) (ht : stake f w o = some f1) : aW (M + 20) f1 := by
  have hc := (hI.1.2.2.1 o ho).2
  intro v hv
  obtain ⟨wo, fa, de, bo, ⟨e1, e2, e3, e4⟩, b1, b2, b3, b4⟩ := a v hv
  by_cases c : v = w
  · subst c
    unfold stake at ht
    split at ht
    · cases ht
      exact ⟨wo, fa, de, bo, ⟨by rw [upd_n (by omega), upd_n (by omega)]; exact e1, by rw [upd_n (by omega), upd_n (by omega)]; exact e2, by rw [upd_n (by omega), upd_n (by omega)]; exact e3, by rw [upd_n (by omega), upd_n (by omega)]; exact e4⟩, b1, b2, by omega, by omega⟩
    · split at ht
      · cases ht
        refine ⟨wo, fa, de + g, bo + g, ⟨?_, ?_, ?_, ?_⟩, b1, by omega, by omega, by omega⟩
        · rw [upd_n (by omega), upd_n (by omega), upd_n (by omega), upd_n (by omega)]; exact e1
        · rw [upd_n (by omega), upd_n (by omega), upd_n (by omega), upd_n (by omega)]; exact e2
        · rw [upd_n (by omega), upd_n (by omega), upd_s, upd_n (by omega), e3, eg, nI_add]
        · rw [upd_n (by omega), upd_s, upd_n (by omega), upd_n (by omega), e4, eg, nI_add]
      · cases ht
  · have nk : ∀ k, k < 8 → f1 (18 + 12 * v + k) = f (18 + 12 * v + k) := fun k hk => stake_kk hc hw ht (by omega) (by omega) (by omega) (by omega) (by omega)
    exact ⟨wo, fa, de, bo, ⟨by rw [nk 5 (by decide)]; exact e1, by rw [nk 6 (by decide)]; exact e2, by rw [nk 3 (by decide)]; exact e3, by rw [nk 7 (by decide)]; exact e4⟩, b1, b2, by omega, by omega⟩
theorem aW_make {M w o : Nat} {f : sF} (a : aW M f) (hw : w < 6) : aW (M + 1) (smake f w o) := by
  intro v hv
  obtain ⟨wo, fa, de, bo, ⟨e1, e2, e3, e4⟩, b1, b2, b3, b4⟩ := a v hv
  by_cases c : v = w
  · subst c
    unfold smake
    dsimp only
    split
    · refine ⟨wo + 1, fa + 1, de, bo, ⟨?_, ?_, ?_, ?_⟩, by omega, b2, by omega, by omega⟩
      · rw [upd_n (by omega), upd_n (by omega), upd_n (by omega), upd_s, e1, nI_add]
      · rw [upd_n (by omega), upd_s, upd_n (by omega), upd_n (by omega), e2, nI_add]
      · rw [upd_n (by omega), upd_n (by omega), upd_n (by omega), upd_n (by omega)]; exact e3
      · rw [upd_n (by omega), upd_n (by omega), upd_n (by omega), upd_n (by omega)]; exact e4
    · refine ⟨wo + 1, fa, de, bo, ⟨?_, ?_, ?_, ?_⟩, by omega, b2, by omega, by omega⟩
      · rw [upd_n (by omega), upd_n (by omega), upd_s, e1, nI_add]
      · rw [upd_n (by omega), upd_n (by omega), upd_n (by omega)]; exact e2
      · rw [upd_n (by omega), upd_n (by omega), upd_n (by omega)]; exact e3
      · rw [upd_n (by omega), upd_n (by omega), upd_n (by omega)]; exact e4
  · have nk : ∀ k, k < 8 → smake f w o (18 + 12 * v + k) = f (18 + 12 * v + k) := fun k hk => smake_k (by omega) (by omega) (by omega) (by omega) (by omega)
    exact ⟨wo, fa, de, bo, ⟨by rw [nk 5 (by decide)]; exact e1, by rw [nk 6 (by decide)]; exact e2, by rw [nk 3 (by decide)]; exact e3, by rw [nk 7 (by decide)]; exact e4⟩, b1, b2, by omega, by omega⟩
theorem spaysF_k {f : sF} {o k : Nat} (h1 : k < 90) (h5 : k ≠ 5) (h7 : k ≠ 7) (h8 : k ≠ 8) (h9 : k ≠ 9) (h : ∀ w, w < 6 → k ≠ 18 + 12 * w + 3 ∧ k ≠ 18 + 12 * w + 4) : spaysF f o k = f k := by
  unfold spaysF
  rw [spays_A, sgoes_n h1 h5]
  exact spaysA_k h7 h8 h9 h
theorem sC_own {D h : Nat} {K : Nat → Nat} {f : sF} (c : sC D K h f) (hK : ∀ w, w < 6 → K w < 2 ^ 31) : sC D (fun w => sW (f (18 + 12 * w + 3))) h f := by
  refine ⟨fun w hw => ⟨(c.1 w hw).1, ?_⟩, c.2⟩
  obtain ⟨d, d1, d2⟩ := (c.1 w hw).2
  have hk := hK w hw
  exact ⟨d, by show d ≤ sW (f (18 + 12 * w + 3)); rw [sW_of d2 (by omega)]; exact Nat.le_refl _, d2⟩
theorem aW_pay {M D h o : Nat} {K : Nat → Nat} {f : sF} (a : aW M f) (hM : M < 2 ^ 31) (c : sC D K h f) (hh : h ≤ 10000) (hK : ∀ w, w < 6 → K w < 2 ^ 31) (J : sJ f o) (ho : o < smany f) (hl1 : 1 ≤ sLn f o) : aW M (spaysF f o) := by
  have c1 := sC_own c hK
  have c2 := (sC_pay c1 hh (fun w hw => by
    obtain ⟨d, d1, d2⟩ := (c.1 w hw).2
    have hk := hK w hw
    show sW (f (18 + 12 * w + 3)) < 2 ^ 31
    rw [sW_of d2 (by omega)]
    omega) J ho hl1).1
  intro w hw
  obtain ⟨wo, fa, de, bo, ⟨e1, e2, e3, e4⟩, b1, b2, b3, b4⟩ := a w hw
  obtain ⟨-, d, d1, d2⟩ := c2.1 w hw
  have d3 : d ≤ sW (f (18 + 12 * w + 3)) := d1
  rw [sW_of e3 (by omega)] at d3
  have nk : ∀ k, 5 ≤ k → k < 8 → spaysF f o (18 + 12 * w + k) = f (18 + 12 * w + k) := fun k k1 k2 => spaysF_k (by omega) (by omega) (by omega) (by omega) (by omega) (fun v hv => ⟨by omega, by omega⟩)
  exact ⟨wo, fa, d, bo, ⟨by rw [nk 5 (by decide) (by decide)]; exact e1, by rw [nk 6 (by decide) (by decide)]; exact e2, d2, by rw [nk 7 (by decide) (by decide)]; exact e4⟩, b1, by omega, b3, b4⟩
/-- what is due of an order adds up to the whole -/
theorem sleft_s {f : sF} {o : Nat} {whole len : Int32} : ∀ n, sleft f o whole len n = whole - ssum (fun w => sdue f o whole len w) n := by
  intro n
  induction n with
  | zero =>
    show whole = whole - nI 0
    rw [nI_0]
    exact (Int32.sub_zero whole).symm
  | succ n ih =>
    show sleft f o whole len n - sdue f o whole len n = whole - (ssum (fun w => sdue f o whole len w) n + sdue f o whole len n)
    rw [ih]
    exact i32_r6 _ _ _
theorem sh_sum {f : sF} {o : Nat} {whole len : Int32} {du : Nat → Int32} (hl : ¬ len = 0) : ssum (sshares f o whole len du) 6 = whole := by
  have hm := smost_le f o 6
  have h1 : ssum (sdues f o whole len 6 du) 6 = ssum (fun w => sdue f o whole len w) 6 := ssum_c (fun w hw => sdues_w hw)
  have h2 := (ssum_ch (g := sdues f o whole len 6 du) (g2 := sshares f o whole len du) (w := smost f o 6) (d := sleft f o whole len 6) (by unfold sshares; rw [upd_s, if_neg hl]) 6 (fun v _ hv => by unfold sshares; exact upd_n hv)).1 (by omega)
  rw [h2, h1, sleft_s]
  exact i32_r1 _ _
theorem ssum_nI {g : Nat → Int32} {X : Nat → Nat} : ∀ n, (∀ w, w < n → g w = nI (X w)) → ∃ S, S = (List.range n).foldl (fun a w => a + X w) 0 ∧ ssum g n = nI S := by
  intro n
  induction n with
  | zero => intro _; exact ⟨0, rfl, rfl⟩
  | succ n ih =>
    intro h
    obtain ⟨S, s1, s2⟩ := ih (fun w hw => h w (by omega))
    refine ⟨S + X n, ?_, ?_⟩
    · rw [List.range_succ, List.foldl_append, ← s1]; rfl
    · show ssum g n + g n = _
      rw [s2, h n (Nat.lt_succ_self n), nI_add]
theorem ssum_6 {g : Nat → Int32} {X : Nat → Nat} (h : ∀ w, w < 6 → g w = nI (X w)) : ssum g 6 = nI (X 0 + X 1 + X 2 + X 3 + X 4 + X 5) := by
  show nI 0 + g 0 + g 1 + g 2 + g 3 + g 4 + g 5 = _
  rw [h 0 (by decide), h 1 (by decide), h 2 (by decide), h 3 (by decide), h 4 (by decide), h 5 (by decide), nI_add, nI_add, nI_add, nI_add, nI_add, nI_add, Nat.zero_add]
theorem aP_payN {f : sF} {du : Nat → Int32} {E X : Nat → Nat} (hE : ∀ w, w < 6 → f (18 + 12 * w + 4) = nI (E w)) (hd : ∀ w, w < 6 → ∃ d, d < 2 ^ 31 ∧ f (18 + 12 * w + 3) = nI d) (hf : 0 ≤ f 3) (hdu : ∀ w, w < 6 → X w ≤ 19800 ∧ du w = nI (X w)) : ∀ n, n ≤ 6 → ∀ w, w < n → ∃ e, e ≤ E w + X w ∧ spayN f du n (18 + 12 * w + 4) = nI e := by
  intro n
  induction n with
  | zero => intro _ w hw; exact absurd hw (Nat.not_lt_zero w)
  | succ n ih =>
    intro hn w hw
    by_cases c : w = n
    · subst c
      obtain ⟨d, d1, d2⟩ := hd w (by omega)
      obtain ⟨x1, x2⟩ := hdu w (by omega)
      have k3 : spayN f du w (18 + 12 * w + 3) = f (18 + 12 * w + 3) := spayN_k (fun v hv => ⟨by omega, by omega⟩)
      have k4 : spayN f du w (18 + 12 * w + 4) = f (18 + 12 * w + 4) := spayN_k (fun v hv => ⟨by omega, by omega⟩)
      have k0 : spayN f du w 3 = f 3 := spayN_k (fun v hv => ⟨by omega, by omega⟩)
      obtain ⟨d', e', q1, q2, q3, q4⟩ := spay1_b (f := spayN f du w) (k3.trans d2) (k4.trans (hE w (by omega))) d1 x2 x1 (by rw [k0]; exact hf)
      exact ⟨e', q2, q4⟩
    · obtain ⟨e, e1, e2⟩ := ih (by omega) w (by omega)
      refine ⟨e, e1, ?_⟩
      show spay1 (spayN f du n) du n (18 + 12 * w + 4) = nI e
      rw [spay1_k (by omega) (by omega)]
      exact e2
theorem aP_pay {M D h o : Nat} {K : Nat → Nat} {f : sF} (a : aP M f) (hM : M + 20000 < 2 ^ 31) (c : sC D K h f) (hh : h ≤ 10000) (hK : ∀ w, w < 6 → K w < 2 ^ 31) (J : sJ f o) (ho : o < smany f) (hl1 : 1 ≤ sLn f o) : aP (M + 20000) (spaysF f o) ∧ sW (f 7) ≤ sW (spaysF f o 7) := by
  obtain ⟨E, p, dn, lt, a1, ⟨a2, a3, a4⟩, a5, a6, a7, a8⟩ := a
  obtain ⟨b1, b2, b3, b4, b5, b6, b7⟩ := J.2.2.1 o ho
  obtain ⟨⟨vw, vw1, vw2⟩, vd, vd1, vd2⟩ := c.2.2 o ho
  obtain ⟨s, s1, s2⟩ := c.2.1.2
  obtain ⟨t, t1, t2⟩ := slate_b c.2.1.1 hh vd2 vd1
  obtain ⟨W, W1, W2⟩ := swhole_b b3 b4 b5 t2 t1 s2 s1
  have hdu := du_b W2 W1 b2 hl1 b5 b1 J.2.2.2.2
  have hX : ∀ w, w < 6 → sW (sduR f o w) ≤ 19800 ∧ sduR f o w = nI (sW (sduR f o w)) := fun w hw => by
    obtain ⟨x, x1, x2⟩ := hdu w hw
    rw [x2, sW_N (by omega)]
    exact ⟨x1, rfl⟩
  have hsum : sW (sduR f o 0) + sW (sduR f o 1) + sW (sduR f o 2) + sW (sduR f o 3) + sW (sduR f o 4) + sW (sduR f o 5) = W := by
    have e1 : ssum (sduR f o) 6 = swhole f o (f (90 + 12 * o + 3)) := sh_sum (by rw [b2]; exact nI_ne0 (by omega) (by omega))
    have e2 := ssum_6 (g := sduR f o) (X := fun w => sW (sduR f o w)) (fun w hw => (hX w hw).2)
    rw [e1, b2, W2] at e2
    have x0 := (hX 0 (by decide)).1
    have x1 := (hX 1 (by decide)).1
    have x2 := (hX 2 (by decide)).1
    have x3 := (hX 3 (by decide)).1
    have x4 := (hX 4 (by decide)).1
    have x5 := (hX 5 (by decide)).1
    exact ((nI_eq (by omega) (by omega)).mp e2).symm
  have hN := aP_payN a1 (fun w hw => by
    obtain ⟨d, d1, d2⟩ := (c.1 w hw).2
    have hk := hK w hw
    exact ⟨d, by omega, d2⟩) J.2.1.2.1 hX 6 (Nat.le_refl 6)
  have eA : ∀ k, k < 90 → k ≠ 5 → k ≠ 7 → k ≠ 8 → k ≠ 9 → spaysF f o k = spayN f (sduR f o) 6 k := fun k h1 h5 h7 h8 h9 => by
    unfold spaysF
    rw [spays_A, sgoes_n h1 h5]
    unfold spaysA
    rw [upd_n h9, upd_n h8, upd_n h7]
  have eN : ∀ k, (∀ w, w < 6 → k ≠ 18 + 12 * w + 3 ∧ k ≠ 18 + 12 * w + 4) → spayN f (sduR f o) 6 k = f k := fun k h => spayN_k h
  have e7 : spaysF f o 7 = nI (dn + 1) := by
    unfold spaysF
    rw [spays_A, sgoes_n (by decide) (by decide)]
    unfold spaysA
    rw [upd_n (by decide), upd_n (by decide), upd_s, eN 7 (fun w hw => ⟨by omega, by omega⟩), a3, nI_add]
  have e9 : spaysF f o 9 = nI (p + W) := by
    unfold spaysF
    rw [spays_A, sgoes_n (by decide) (by decide)]
    unfold spaysA
    rw [upd_s, upd_n (by decide), upd_n (by decide), eN 9 (fun w hw => ⟨by omega, by omega⟩), a2, b2, W2, nI_add]
  have e8 : ∃ lt', lt' ≤ dn + 1 ∧ spaysF f o 8 = nI lt' := by
    unfold spaysF
    rw [spays_A, sgoes_n (by decide) (by decide)]
    unfold spaysA
    rw [upd_n (by decide), upd_s, upd_n (by decide), eN 8 (fun w hw => ⟨by omega, by omega⟩), a4]
    split
    · exact ⟨lt, by omega, by rw [nI_add]; rfl⟩
    · exact ⟨lt + 1, by omega, by rw [nI_add]⟩
  obtain ⟨lt', l1, l2⟩ := e8
  have hE : ∀ w, w < 6 → ∃ e, e ≤ E w + sW (sduR f o w) ∧ spaysF f o (18 + 12 * w + 4) = nI e := fun w hw => by
    rw [eA _ (by omega) (by omega) (by omega) (by omega) (by omega)]
    exact hN w hw
  have g0 : ∀ w, w < 6 → sW (spaysF f o (18 + 12 * w + 4)) ≤ E w + sW (sduR f o w) ∧ spaysF f o (18 + 12 * w + 4) = nI (sW (spaysF f o (18 + 12 * w + 4))) := fun w hw => by
    obtain ⟨e, e1, e2⟩ := hE w hw
    have hb : E w ≤ p := by
      rcases (by omega : w = 0 ∨ w = 1 ∨ w = 2 ∨ w = 3 ∨ w = 4 ∨ w = 5) with rfl | rfl | rfl | rfl | rfl | rfl <;> omega
    have hx := (hX w hw).1
    rw [e2, sW_N (by omega)]
    exact ⟨e1, rfl⟩
  refine ⟨⟨fun w => sW (spaysF f o (18 + 12 * w + 4)), p + W, dn + 1, lt', fun w hw => (g0 w hw).2, ⟨e9, e7, l2⟩, ?_, l1, by omega, by omega⟩, ?_⟩
  · have q0 := (g0 0 (by decide)).1
    have q1 := (g0 1 (by decide)).1
    have q2 := (g0 2 (by decide)).1
    have q3 := (g0 3 (by decide)).1
    have q4 := (g0 4 (by decide)).1
    have q5 := (g0 5 (by decide)).1
    show sW (spaysF f o (18 + 12 * 0 + 4)) + sW (spaysF f o (18 + 12 * 1 + 4)) + sW (spaysF f o (18 + 12 * 2 + 4)) + sW (spaysF f o (18 + 12 * 3 + 4)) + sW (spaysF f o (18 + 12 * 4 + 4)) + sW (spaysF f o (18 + 12 * 5 + 4)) ≤ p + W
    omega
  · rw [e7, a3, sW_N (by omega), sW_N (by omega)]
    omega
theorem aY_take {B w o g : Nat} {f f1 : sF} (a : aY B f) (hB : B < 2 ^ 31) (hI : sI f) (hw : w < 6) (ho : o < smany f) (eg : sgrams f o = nI g) (hg : g ≤ 20) (ht : stake f w o = some f1) : aY B f1 := by
  have hc := (hI.1.2.2.1 o ho).2
  unfold stake at ht
  split at ht
  · rename_i c1
    cases ht
    obtain ⟨s0, q1, q2⟩ := a.1 w (scol f o) hw hc
    rw [eg, q2] at c1
    have hle := (nI_leI (by omega) (by omega)).mp c1
    refine ⟨fun v c hv hc2 => ?_, fun c hc2 => ?_⟩
    · rw [upd_n (by omega)]
      by_cases e : 18 + 12 * v + (8 + c) = 18 + 12 * w + (8 + scol f o)
      · rw [e, upd_s, q2, eg, ← Int32.sub_eq_add_neg, pk_sub hle]
        exact ⟨_, by omega, rfl⟩
      · rw [upd_n e]
        exact a.1 v c hv hc2
    · rw [upd_n (by omega), upd_n (by omega)]
      exact a.2 c hc2
  · split at ht
    · rename_i c1 c2
      cases ht
      obtain ⟨s0, q1, q2⟩ := a.2 (scol f o) hc
      have c3 := c2.2
      rw [eg, q2] at c3
      have hle := (nI_leI (by omega) (by omega)).mp c3
      refine ⟨fun v c hv hc2 => ?_, fun c hc2 => ?_⟩
      · rw [upd_n (by omega), upd_n (by omega), upd_n (by omega), upd_n (by omega)]
        exact a.1 v c hv hc2
      · rw [upd_n (by omega), upd_n (by omega), upd_n (by omega)]
        by_cases e : 14 + c = 14 + scol f o
        · rw [e, upd_s, q2, eg, pk_sub hle]
          exact ⟨_, by omega, rfl⟩
        · rw [upd_n e]
          exact a.2 c hc2
    · cases ht
