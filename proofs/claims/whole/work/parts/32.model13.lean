def tPart (I : jI) (x t : Nat) (ch : Nat → Nat) (s0 : tS) (a q : Nat) (r : Nat × (Nat → Nat → Nat)) (b : Bool) (I' : jI) : Prop := ∃ a1 fld dg g1, tAt I x t ch s0 q r I' a1 fld dg g1 ∧ b = tDone (fld, dg, g1, r) ∧ (b = true → a + 6 ≤ a1 ∧ I' x 8 = I x 8 ∧ (∀ k, k < 5 → I' (x + 5) (5 * q + k) = nI (g1 k)) ∧ (a1 < t → ch a1 ≠ 59 → tStep (fld, dg, g1, r) (ch a1) = none)) ∧ (b = false → I' x 8 = bI (decide (a1 < t)) ∧ (a1 < t → tStep (fld, dg, g1, r) (ch a1) = none))
theorem tDone_f {fld dg : Nat} {g : Nat → Nat} {r : Nat × (Nat → Nat → Nat)} (h : fld < 2 ∨ tStands (fld, dg, g, r) = false) : tDone (fld, dg, g, r) = false := by
  unfold tDone
  rcases h with h | h
  · rw [show decide (2 ≤ (fld, dg, g, r).1) = false from decide_eq_false (by show ¬ 2 ≤ fld; omega)]; rfl
  · rw [h, Bool.and_false]
theorem tDone_t {fld dg : Nat} {g : Nat → Nat} {r : Nat × (Nat → Nat → Nat)} (h1 : 2 ≤ fld) (h : tStands (fld, dg, g, r) = true) : tDone (fld, dg, g, r) = true := by
  unfold tDone
  rw [h, show decide (2 ≤ (fld, dg, g, r).1) = true from decide_eq_true h1]; rfl
theorem tPart_nf {x t : Nat} {ch : Nat → Nat} {s0 : tS} {q : Nat} {r : Nat × (Nat → Nat → Nat)} {I I1 I' : jI} {a a1 k : Nat} {g : Nat → Nat} (h : tNu I x t ch s0 q r I1 a1 k g false I') : tPart I x t ch s0 a q r false I' := by
  obtain ⟨dg, g1, h1, h2, h3, h4, h5, h6, h7⟩ := h
  exact ⟨_, _, _, _, h1, (tDone_f (Or.inr h4.symm)).symm, fun h => absurd h (by decide), fun _ => ⟨h6 rfl, fun h => tStep_no (h7 h) (fun z => absurd (h4.trans z) (by decide))⟩⟩
theorem tPart_sf {x t : Nat} {ch : Nat → Nat} {s0 : tS} {q : Nat} {r : Nat × (Nat → Nat → Nat)} {I I1 : jI} {a a1 k dg : Nat} {g : Nat → Nat} {c0 : Nat} (h : tAt I x t ch s0 q r I1 a1 k dg g) (hd : a1 < t → 48 ≤ ch a1 ∧ ch a1 ≤ 57 → tStep (k, dg, g, r) (ch a1) = none) (hk : k = 0 ∧ c0 = 120 ∨ k = 1 ∧ c0 = 99) (hc : ¬ (a1 < t ∧ ch a1 = c0)) : tPart I x t ch s0 a q r false (jst I1 x 8 (bI (decide (a1 < t)))) :=
  ⟨_, _, _, _, h.f8, (tDone_f (Or.inl (by omega))).symm, fun h => absurd h (by decide), fun _ => ⟨by rw [jst_eq]; exact upd_s, fun h => tStep_no (hd h) (fun z => tMark_none (by show _ → k ≠ 0; omega) (by show _ → k ≠ 1; omega) (by show _ → k ≠ 2; omega) (by show _ → k ≠ 2 ∧ k ≠ 3; omega) (by show _ → k < 2; omega))⟩⟩
theorem nbeg03 {v : Nat} : nbeg v 0 3 = decide (v ≤ 3) := by
  unfold nbeg
  by_cases h : v = 0
  · subst h; rfl
  · rw [if_neg h]
    unfold nbegL
    by_cases h1 : v ≤ 3
    · rw [if_pos h1, if_pos (Nat.zero_le _)]; exact (decide_eq_true h1).symm
    · rw [if_neg h1]; exact (decide_eq_false h1).symm
theorem tPart_cf {x t : Nat} {ch : Nat → Nat} {s0 : tS} {q : Nat} {r : Nat × (Nat → Nat → Nat)} {I I1 : jI} {a a1 : Nat} {g : Nat → Nat} (h : tAt I x t ch s0 q r I1 a1 2 0 g) (hc : ¬ (a1 < t ∧ 48 ≤ ch a1 ∧ ch a1 ≤ 51)) : tPart I x t ch s0 a q r false (jst I1 x 8 (bI (decide (a1 < t)))) :=
  ⟨_, _, _, _, h.f8, (tDone_f (Or.inr (decide_eq_false (fun z => z.1 rfl)))).symm, fun h => absurd h (by decide), fun _ => ⟨by rw [jst_eq]; exact upd_s, fun h => tStep_no (fun hd => tStep_z hd (Or.inr (by show nbeg (tNext 0 (g 2) (ch a1)) 0 3 = false; rw [nbeg03]; exact decide_eq_false (by unfold tNext; rw [if_pos rfl]; omega)))) (fun z => absurd (show tStands (2, 0, g, r) = true from z) (fun y => (tStands_i y).1 rfl))⟩⟩
theorem tCol {g : Nat → Nat} {r : Nat × (Nat → Nat → Nat)} {c : Nat} (h : 48 ≤ c ∧ c ≤ 51) : tStep (2, 0, g, r) c = some (2, 1, updN g 2 (c - 48), r) := by
  rw [tStep_d ⟨h.1, by omega⟩ (by
    intro z
    rcases z with z | z
    · exact z.1 rfl
    · have z2 : nbeg (tNext 0 (g 2) c) 0 3 = false := z
      rw [nbeg03] at z2
      have z3 := of_decide_eq_false z2
      unfold tNext at z3
      rw [if_pos rfl] at z3
      omega)]
  show some (2, 0 + 1, updN g 2 (tNext 0 (g 2) c), r) = _
  unfold tNext
  rw [if_pos rfl]
theorem tColD {g : Nat → Nat} {r : Nat × (Nat → Nat → Nat)} {c : Nat} (hd : 48 ≤ c ∧ c ≤ 57) : tStep (2, 1, g, r) c = none := by
  by_cases h : g 2 = 0
  · exact tStep_z hd (Or.inl ⟨by show (1 : Nat) ≠ 0; decide, h⟩)
  · refine tStep_z hd (Or.inr ?_)
    show nbeg (tNext 1 (g 2) c) 0 3 = false
    rw [nbeg03]
    refine decide_eq_false ?_
    unfold tNext
    rw [if_neg (by decide)]
    omega
theorem tPart_n4 {x t : Nat} {ch : Nat → Nat} {s0 : tS} {q : Nat} {r : Nat × (Nat → Nat → Nat)} {I I1 I' : jI} {a a1 : Nat} {g : Nat → Nat} {b : Bool} (h : tNu I x t ch s0 q r I1 a1 4 g b I') (h6 : a + 6 ≤ a1) (h8 : I1 x 8 = I x 8) (hr : ∀ k, k < 5 → I1 (x + 5) (5 * q + k) = nI (g k)) : tPart I x t ch s0 a q r b I' := by
  cases b with
  | false => exact tPart_nf h
  | true =>
    obtain ⟨dg, g1, h1, h2, h3, h4, h5, _, h7⟩ := h
    obtain ⟨p1, p2, p3, p4⟩ := h5 rfl
    refine ⟨_, _, _, _, h1, (tDone_t (by decide) h4.symm).symm, fun _ => ⟨by omega, p3.trans h8, fun k hk => ?_, fun h hc => tStep_no (h7 h) (fun _ => tMark_none (by show _ → 4 ≠ 0; omega) (by show _ → 4 ≠ 1; omega) (by show _ → 4 ≠ 2; omega) (by show _ → 4 ≠ 2 ∧ 4 ≠ 3; omega) (fun h => absurd h hc))⟩, fun h => absurd h (by decide)⟩
    by_cases hk4 : k = 4
    · subst hk4; exact p4
    · rw [h3 _ (by omega), hr k hk, h2 k hk4]
set_option maxHeartbeats 4000000 in
theorem lp_X6_isPart {p : Program} {l : Launch} {e : Env} {s : State} {m : MethodId} {args : Array Value} {below : List Frame} {meth : Method} {c : Code} {D : va_G} {cA : Nat → ClassId} {N0 : Nat} {Sh : jS} {I : jI} {P : jP} {L : jL} (C : jC p (jRm 3 0 0) s m args meth c D cA N0 cX6_isPart 1 RX6 3) (hr0 : meth.sig.returnType = some .boolean) {x : Nat} (hS : mS Sh x) (hP : mP P x) {t : Nat} {ch : Nat → Nat} (hE : tEnv I x t ch) {s0 : tS} {a q : Nat} {r : Nat × (Nat → Nat → Nat)} (hq8 : q ≤ 8) {I1 : jI} {a1 fld dg : Nat} {g1 : Nat → Nat} (hB : tAt I x t ch s0 q r I1 a1 fld dg g1) (h23 : fld = 2 ∨ fld = 3) (hz : tStands (fld, dg, g1, r) = true) (h6 : a + 6 ≤ a1) (h8 : I1 x 8 = I x 8) (hrow : ∀ k, k < 5 → I1 (x + 5) (5 * q + k) = nI (g1 k)) (hd : a1 < t → 48 ≤ ch a1 ∧ ch a1 ≤ 57 → tStep (fld, dg, g1, r) (ch a1) = none) (h36 : a1 < t → ch a1 = 36 → fld = 3) : jJ p l e (jRm 3 0 0) s m args below meth c D cA N0 1 (MQ below (jQn D cA N0 Sh (jNi (fun v I' P' L' => (∃ b, v = bI b ∧ tPart I x t ch s0 a q r b I') ∧ P' = P ∧ L' = L))) args s 0 0 (fun q => N0 ≤ q)) (fun _ => True) Sh I1 P L 0 0 161 [some (.ref x)] [] := by
  have ht60 := hE.2.1
  have hr := hr0
  refine jx_aload_n (pc := 161) C dX6_isPart_161 rfl ?_
  refine jx_bipush (pc := 162) C dX6_isPart_162 nb_64 ?_
  refine jx_bipush (pc := 164) C dX6_isPart_164 nb_64 ?_
  refine jx_callD (pc := 166) C (go_X6_134 C hS.1 (Nat.le_of_ble_eq_true rfl) dX6_isPart_166) (t_X6_isAt hS hP (hE.mv hB.2.2.1) hB.2.2.2.1 hB.1 (by decide) (by decide)) (by decide) (by decide) ⟨Nat.zero_le _, Nat.zero_le _⟩ ?_
  refine jx_if_ne (pc := 169) C (tgt := 174) dX6_isPart_169 (by decide) (fun c169 => ?_) (fun c169 => ?_)
  · rw [bI_0, decide_eq_false_iff_not, Decidable.not_not] at c169
    have hm : tStep (fld, dg, g1, r) (ch a1) = some (4, 0, g1, r) := tStep_m (by omega) hz (by show tMark fld (ch a1) = _; unfold tMark; rw [show ch a1 = 64 by omega, if_neg (by decide), if_neg (by decide), if_neg (by decide), if_pos rfl, if_pos h23])
    refine jx_aload_n (pc := 174) C dX6_isPart_174 rfl ?_
    refine jx_dup (pc := 175) C dX6_isPart_175 rfl ?_
    refine jx_getIv (pc := 176) C kf_X6_127 rfl hS.1 hB.2.2.2.1 dX6_isPart_176 ?_
    refine jx_iconst (pc := 179) C dX6_isPart_179 nc_1 ?_
    refine jx_iaddN (pc := 180) C dX6_isPart_180 ?_
    refine jx_putI (pc := 181) C kf_X6_127 rfl rfl rfl rfl hS.1 dX6_isPart_181 ?_
    refine jx_aload_n (pc := 184) C dX6_isPart_184 rfl ?_
    refine jx_iconst (pc := 185) C dX6_isPart_185 nc_4 ?_
    refine jx_iconst (pc := 186) C dX6_isPart_186 nc_0 ?_
    refine jx_sipush (pc := 187) C dX6_isPart_187 ns_9999 ?_
    refine jx_calli (pc := 190) C (go_X6_151 C hS.1 (Nat.le_of_ble_eq_true rfl) dX6_isPart_190) (t_X6_isNumber hS hP hE (hB.f7 c169.1 hm) hq8 (k := 4) (by decide) rfl rfl) (by decide) (by decide) ⟨Nat.zero_le _, Nat.zero_le _⟩ (fun r190 I190 P190 L190 q190 => ?_)
    obtain ⟨⟨b190, rfl, z190⟩, rfl, rfl⟩ := q190
    exact jn_zret (pc := 193) C hr (bI_nar _) (⟨_, rfl, ⟨b190, rfl, tPart_n4 z190 (by omega) (by rw [jst_eq, upd_n (by decide)]; exact h8) (fun k hk => by rw [jst_ne (by omega)]; exact hrow k hk)⟩, rfl, rfl⟩) dX6_isPart_193
  · rw [bI_0, decide_eq_false_iff_not] at c169
    refine jx_iconst (pc := 172) C dX6_isPart_172 nc_1 ?_
    exact jn_zret (pc := 173) C hr (rfl) (⟨_, rfl, ⟨true, rfl, ⟨_, _, _, _, hB, (tDone_t (by omega) hz).symm, fun _ => ⟨h6, h8, hrow, fun h hc => tStep_no (hd h) (fun _ => tMark_none (by show _ → fld ≠ 0; omega) (by show _ → fld ≠ 1; omega) (by show _ → fld ≠ 2; have := h36 h; omega) (by show _ → fld ≠ 2 ∧ fld ≠ 3; omega) (fun h => absurd h hc))⟩, fun h => absurd h (by decide)⟩⟩, rfl, rfl⟩) dX6_isPart_173
set_option maxHeartbeats 4000000 in
theorem b_X6_isPart {p : Program} {l : Launch} {e : Env} {s : State} {m : MethodId} {args : Array Value} {below : List Frame} {meth : Method} {c : Code} {D : va_G} {cA : Nat → ClassId} {N0 : Nat} {Sh : jS} {I : jI} {P : jP} {L : jL} (C : jC p (jRm 3 0 0) s m args meth c D cA N0 cX6_isPart 1 RX6 3) (hr : meth.sig.returnType = (some .boolean)) {x : Nat} (hS : mS Sh x) (hP : mP P x) {t : Nat} {ch : Nat → Nat} (hE : tEnv I x t ch) {s0 : tS} {a q : Nat} {r : Nat × (Nat → Nat → Nat)} {g : Nat → Nat} (ha : I x 7 = nI a) (hat : a ≤ t) (hq : I x 11 = nI q) (hq8 : q ≤ 8) (hrun : tRun ch s0 a = some (0, 0, g, r)) (hg3 : g 3 = 10) (hg4 : g 4 = 9999) : jJ p l e (jRm 3 0 0) s m args below meth c D cA N0 1 (MQ below (jQn D cA N0 Sh (jNi (fun v I' P' L' => (∃ b, v = bI b ∧ tPart I x t ch s0 a q r b I') ∧ P' = P ∧ L' = L))) args s 0 0 (fun q => N0 ≤ q)) (fun _ => True) Sh I P L 0 0 0 [some (.ref x)] [] := by
  have ht60 := hE.2.1
  have hA0 : tAt I x t ch s0 q r (jst (jst I (x + 5) (5 * q + 3) (nI 10)) (x + 5) (5 * q + 4) (nI 9999)) a 0 0 g := tAt.f5 (tAt.f5 ⟨hat, hrun, ⟨fun _ _ _ => rfl, fun _ _ _ _ _ => rfl⟩, ha, hq, fun _ _ => rfl⟩ (by omega)) (by omega)
  refine jx_aload_n (pc := 0) C dX6_isPart_0 rfl ?_
  refine jx_getP (pc := 1) C kf_X6_22 rfl hS.1 hP.2.2.2.2.1 dX6_isPart_1 ?_
  refine jx_iconst (pc := 4) C dX6_isPart_4 nc_5 ?_
  refine jx_aload_n (pc := 5) C dX6_isPart_5 rfl ?_
  refine jx_getIv (pc := 6) C kf_X6_148 rfl hS.1 hq dX6_isPart_6 ?_
  refine jx_imulN (pc := 9) C dX6_isPart_9 ?_
  refine jx_iconst (pc := 10) C dX6_isPart_10 nc_3 ?_
  refine jx_iaddN (pc := 11) C dX6_isPart_11 ?_
  refine jx_bipush (pc := 12) C dX6_isPart_12 nb_10 ?_
  refine jx_iast (pc := 14) C hS.2.2.2.2.2.1 (by omega) (by decide) dX6_isPart_14 ?_
  refine jx_aload_n (pc := 15) C dX6_isPart_15 rfl ?_
  refine jx_getP (pc := 16) C kf_X6_22 rfl hS.1 hP.2.2.2.2.1 dX6_isPart_16 ?_
  refine jx_iconst (pc := 19) C dX6_isPart_19 nc_5 ?_
  refine jx_aload_n (pc := 20) C dX6_isPart_20 rfl ?_
  refine jx_getIv (pc := 21) C kf_X6_148 rfl hS.1 ((congrFun (jst_ne (by omega)) 11).trans hq) dX6_isPart_21 ?_
  refine jx_imulN (pc := 24) C dX6_isPart_24 ?_
  refine jx_iconst (pc := 25) C dX6_isPart_25 nc_4 ?_
  refine jx_iaddN (pc := 26) C dX6_isPart_26 ?_
  refine jx_sipush (pc := 27) C dX6_isPart_27 ns_9999 ?_
  refine jx_iast (pc := 30) C hS.2.2.2.2.2.1 (by omega) (by decide) dX6_isPart_30 ?_
  refine jx_aload_n (pc := 31) C dX6_isPart_31 rfl ?_
  refine jx_iconst (pc := 32) C dX6_isPart_32 nc_0 ?_
  refine jx_iconst (pc := 33) C dX6_isPart_33 nc_1 ?_
  refine jx_sipush (pc := 34) C dX6_isPart_34 ns_200 ?_
  refine jx_calli (pc := 37) C (go_X6_151 C hS.1 (Nat.le_of_ble_eq_true rfl) dX6_isPart_37) (t_X6_isNumber hS hP hE hA0 hq8 (k := 0) (by decide) rfl rfl) (by decide) (by decide) ⟨Nat.zero_le _, Nat.zero_le _⟩ (fun r37 I37 P37 L37 q37 => ?_)
  obtain ⟨⟨b37, rfl, z37⟩, rfl, rfl⟩ := q37
  refine jx_if_eq (pc := 40) C (tgt := 74) dX6_isPart_40 (by decide) (fun c40 => ?_) (fun c40 => ?_)
  · first
      | (have z68b : I68 = jst I59 x 8 (bI (decide (a + d1 + 1 + d2 < t))) := by unfold tSg at z68; rw [if_neg (by rw [decide_eq_true_eq]; exact c71)] at z68; exact z68
         subst z68b)
      | (have z46b : I46 = jst I37 x 8 (bI (decide (a + d1 < t))) := by unfold tSg at z46; rw [if_neg (by rw [decide_eq_true_eq]; exact c49)] at z46; exact z46
         subst z46b)
      | skip
    refine jx_iconst (pc := 74) C dX6_isPart_74 nc_0 ?_
    exact jn_zret (pc := 75) C hr (rfl) (⟨_, rfl, ⟨false, rfl, by
      first
        | exact tPart_sf k1 k7 (Or.inr ⟨rfl, rfl⟩) c71
        | exact tPart_sf h1 h7 (Or.inl ⟨rfl, rfl⟩) c49
        | (rw [bI_eq0.mp c62] at z59; exact tPart_nf z59)
        | (rw [bI_eq0.mp c40] at z37; exact tPart_nf z37)⟩, rfl, rfl⟩) dX6_isPart_75
  · have hb37 : b37 = true := by
      cases b37 with
      | true => rfl
      | false => exact absurd (bI_eq0.mpr rfl) c40
    subst hb37
    obtain ⟨d1, g1, h1, h2, h3, h4, h5, _, h7⟩ := z37
    obtain ⟨e1, e2, e3, e4⟩ := h5 rfl
    refine jx_aload_n (pc := 43) C dX6_isPart_43 rfl ?_
    refine jx_bipush (pc := 44) C dX6_isPart_44 nb_120 ?_
    refine jx_calli (pc := 46) C (go_X6_154 C hS.1 (Nat.le_of_ble_eq_true rfl) dX6_isPart_46) (t_X6_isSign hS hP (hE.mv h1.2.2.1) h1.2.2.2.1 h1.1 (c0 := 120) (by decide)) (by decide) (by decide) ⟨Nat.zero_le _, Nat.zero_le _⟩ (fun r46 I46 P46 L46 q46 => ?_)
    obtain ⟨rfl, z46, rfl, rfl⟩ := q46
    refine jx_if_eq (pc := 49) C (tgt := 74) dX6_isPart_49 (by decide) (fun c49 => ?_) (fun c49 => ?_)
    · rw [bI_0, decide_eq_false_iff_not] at c49
      first
        | (have z68b : I68 = jst I59 x 8 (bI (decide (a + d1 + 1 + d2 < t))) := by unfold tSg at z68; rw [if_neg (by rw [decide_eq_true_eq]; exact c71)] at z68; exact z68
           subst z68b)
        | (have z46b : I46 = jst I37 x 8 (bI (decide (a + d1 < t))) := by unfold tSg at z46; rw [if_neg (by rw [decide_eq_true_eq]; exact c49)] at z46; exact z46
           subst z46b)
        | skip
      refine jx_iconst (pc := 74) C dX6_isPart_74 nc_0 ?_
      exact jn_zret (pc := 75) C hr (rfl) (⟨_, rfl, ⟨false, rfl, by
        first
          | exact tPart_sf k1 k7 (Or.inr ⟨rfl, rfl⟩) c71
          | exact tPart_sf h1 h7 (Or.inl ⟨rfl, rfl⟩) c49
          | (rw [bI_eq0.mp c62] at z59; exact tPart_nf z59)
          | (rw [bI_eq0.mp c40] at z37; exact tPart_nf z37)⟩, rfl, rfl⟩) dX6_isPart_75
    · rw [bI_0, decide_eq_false_iff_not, Decidable.not_not] at c49
      have z46b : I46 = jst I37 x 7 (nI (a + d1 + 1)) := by unfold tSg at z46; rw [if_pos (decide_eq_true c49)] at z46; exact z46
      subst z46b
      have hA1 : tAt I x t ch s0 q r (jst I37 x 7 (nI (a + d1 + 1))) (a + d1 + 1) 1 0 g1 := h1.f7 c49.1 (tStep_m (by omega) h4.symm (by show tMark 0 (ch (a + d1)) = _; rw [c49.2]; rfl))
      refine jx_aload_n (pc := 52) C dX6_isPart_52 rfl ?_
      refine jx_iconst (pc := 53) C dX6_isPart_53 nc_1 ?_
      refine jx_bipush (pc := 54) C dX6_isPart_54 nb_40 ?_
      refine jx_sipush (pc := 56) C dX6_isPart_56 ns_200 ?_
      refine jx_calli (pc := 59) C (go_X6_151 C hS.1 (Nat.le_of_ble_eq_true rfl) dX6_isPart_59) (t_X6_isNumber hS hP hE hA1 hq8 (k := 1) (by decide) rfl rfl) (by decide) (by decide) ⟨Nat.zero_le _, Nat.zero_le _⟩ (fun r59 I59 P59 L59 q59 => ?_)
      obtain ⟨⟨b59, rfl, z59⟩, rfl, rfl⟩ := q59
      refine jx_if_eq (pc := 62) C (tgt := 74) dX6_isPart_62 (by decide) (fun c62 => ?_) (fun c62 => ?_)
      · first
          | (have z68b : I68 = jst I59 x 8 (bI (decide (a + d1 + 1 + d2 < t))) := by unfold tSg at z68; rw [if_neg (by rw [decide_eq_true_eq]; exact c71)] at z68; exact z68
             subst z68b)
          | (have z46b : I46 = jst I37 x 8 (bI (decide (a + d1 < t))) := by unfold tSg at z46; rw [if_neg (by rw [decide_eq_true_eq]; exact c49)] at z46; exact z46
             subst z46b)
          | skip
        refine jx_iconst (pc := 74) C dX6_isPart_74 nc_0 ?_
        exact jn_zret (pc := 75) C hr (rfl) (⟨_, rfl, ⟨false, rfl, by
          first
            | exact tPart_sf k1 k7 (Or.inr ⟨rfl, rfl⟩) c71
            | exact tPart_sf h1 h7 (Or.inl ⟨rfl, rfl⟩) c49
            | (rw [bI_eq0.mp c62] at z59; exact tPart_nf z59)
            | (rw [bI_eq0.mp c40] at z37; exact tPart_nf z37)⟩, rfl, rfl⟩) dX6_isPart_75
      · have hb59 : b59 = true := by
          cases b59 with
          | true => rfl
          | false => exact absurd (bI_eq0.mpr rfl) c62
        subst hb59
        obtain ⟨d2, g2, k1, k2, k3, k4, k5, _, k7⟩ := z59
        obtain ⟨f1, f2, f3, f4⟩ := k5 rfl
        have f5 := (tStands_i k4.symm).2.1
        have f6 : 40 ≤ g2 1 := f5
        refine jx_aload_n (pc := 65) C dX6_isPart_65 rfl ?_
        refine jx_bipush (pc := 66) C dX6_isPart_66 nb_99 ?_
        refine jx_calli (pc := 68) C (go_X6_154 C hS.1 (Nat.le_of_ble_eq_true rfl) dX6_isPart_68) (t_X6_isSign hS hP (hE.mv k1.2.2.1) k1.2.2.2.1 k1.1 (c0 := 99) (by decide)) (by decide) (by decide) ⟨Nat.zero_le _, Nat.zero_le _⟩ (fun r68 I68 P68 L68 q68 => ?_)
        obtain ⟨rfl, z68, rfl, rfl⟩ := q68
        refine jx_if_ne (pc := 71) C (tgt := 76) dX6_isPart_71 (by decide) (fun c71 => ?_) (fun c71 => ?_)
        · rw [bI_0, decide_eq_false_iff_not, Decidable.not_not] at c71
          have z68b : I68 = jst I59 x 7 (nI (a + d1 + 1 + d2 + 1)) := by unfold tSg at z68; rw [if_pos (decide_eq_true c71)] at z68; exact z68
          subst z68b
          have hC : tAt I x t ch s0 q r (jst I59 x 7 (nI (a + d1 + 1 + d2 + 1))) (a + d1 + 1 + d2 + 1) 2 0 g2 := k1.f7 c71.1 (tStep_m (by omega) k4.symm (by show tMark 1 (ch (a + d1 + 1 + d2)) = _; rw [c71.2]; rfl))
          refine jx_aload_n (pc := 76) C dX6_isPart_76 rfl ?_
          refine jx_bipush (pc := 77) C dX6_isPart_77 nb_48 ?_
          refine jx_bipush (pc := 79) C dX6_isPart_79 nb_51 ?_
          refine jx_callD (pc := 81) C (go_X6_134 C hS.1 (Nat.le_of_ble_eq_true rfl) dX6_isPart_81) (t_X6_isAt hS hP (hE.mv hC.2.2.1) hC.2.2.2.1 hC.1 (by decide) (by decide)) (by decide) (by decide) ⟨Nat.zero_le _, Nat.zero_le _⟩ ?_
          refine jx_if_ne (pc := 84) C (tgt := 92) dX6_isPart_84 (by decide) (fun c84 => ?_) (fun c84 => ?_)
          · rw [bI_0, decide_eq_false_iff_not, Decidable.not_not] at c84
            refine jx_aload_n (pc := 92) C dX6_isPart_92 rfl ?_
            refine jx_getP (pc := 93) C kf_X6_22 rfl hS.1 hP.2.2.2.2.1 dX6_isPart_93 ?_
            refine jx_iconst (pc := 96) C dX6_isPart_96 nc_5 ?_
            refine jx_aload_n (pc := 97) C dX6_isPart_97 rfl ?_
            refine jx_getIv (pc := 98) C kf_X6_148 rfl hS.1 hC.2.2.2.2.1 dX6_isPart_98 ?_
            refine jx_imulN (pc := 101) C dX6_isPart_101 ?_
            refine jx_iconst (pc := 102) C dX6_isPart_102 nc_2 ?_
            refine jx_iaddN (pc := 103) C dX6_isPart_103 ?_
            refine jx_aload_n (pc := 104) C dX6_isPart_104 rfl ?_
            refine jx_getP (pc := 105) C kf_X6_19 rfl hS.1 hP.2.2.2.1 dX6_isPart_105 ?_
            refine jx_aload_n (pc := 108) C dX6_isPart_108 rfl ?_
            refine jx_getIv (pc := 109) C kf_X6_127 rfl hS.1 hC.2.2.2.1 dX6_isPart_109 ?_
            refine jx_ialdv (pc := 112) C hS.2.2.2.2.1 (by omega) (by decide) ((hE.mv hC.2.2.1).2.2 _ c84.1).1 dX6_isPart_112 ?_
            refine jx_bipush (pc := 113) C dX6_isPart_113 nb_48 ?_
            refine jx_isubN (pc := 115) C (by omega) dX6_isPart_115 ?_
            refine jx_iast (pc := 116) C hS.2.2.2.2.2.1 (by omega) (by decide) dX6_isPart_116 ?_
            refine jx_aload_n (pc := 117) C dX6_isPart_117 rfl ?_
            refine jx_dup (pc := 118) C dX6_isPart_118 rfl ?_
            refine jx_getIv (pc := 119) C kf_X6_127 rfl hS.1 ((congrFun (jst_ne (by omega)) 7).trans hC.2.2.2.1) dX6_isPart_119 ?_
            refine jx_iconst (pc := 122) C dX6_isPart_122 nc_1 ?_
            refine jx_iaddN (pc := 123) C dX6_isPart_123 ?_
            refine jx_putI (pc := 124) C kf_X6_127 rfl rfl rfl rfl hS.1 dX6_isPart_124 ?_
            have hD := (hC.f5 (j := 5 * q + 2) (v := nI (ch (a + d1 + 1 + d2 + 1) - 48)) (by omega)).f7 c84.1 (tCol c84.2)
            have g30 : g1 3 = 10 := (h2 3 (by decide)).trans hg3
            have g40 : g1 4 = 9999 := (h2 4 (by decide)).trans hg4
            have hrow : ∀ k, k < 5 → jst (jst (jst I59 x 7 (nI (a + d1 + 1 + d2 + 1))) (x + 5) (5 * q + 2) (nI (ch (a + d1 + 1 + d2 + 1) - 48))) x 7 (nI (a + d1 + 1 + d2 + 1 + 1)) (x + 5) (5 * q + k) = nI (updN g2 2 (ch (a + d1 + 1 + d2 + 1) - 48) k) := by
              intro k hk
              rw [jst_ne (by omega), jst_eq]
              by_cases hk2 : k = 2
              · subst hk2; rw [upd_s, updN_s]
              rw [upd_n (by omega), updN_n hk2, jst_ne (by omega)]
              by_cases hk1 : k = 1
              · subst hk1; exact f4
              rw [k3 _ (by omega), jst_ne (by omega), k2 k hk1]
              by_cases hk0 : k = 0
              · subst hk0; exact e4
              rw [h3 _ (by omega), jst_eq, h2 k hk0]
              by_cases hk4 : k = 4
              · subst hk4; rw [upd_s, hg4]
              obtain rfl : k = 3 := by omega
              rw [upd_n (by omega), jst_eq, upd_s, hg3]
            have h8 : jst (jst (jst I59 x 7 (nI (a + d1 + 1 + d2 + 1))) (x + 5) (5 * q + 2) (nI (ch (a + d1 + 1 + d2 + 1) - 48))) x 7 (nI (a + d1 + 1 + d2 + 1 + 1)) x 8 = I x 8 := by
              rw [jst_eq, upd_n (by decide), jst_ne (by omega), jst_eq, upd_n (by decide), f3, jst_eq, upd_n (by decide), e3, jst_ne (by omega), jst_ne (by omega)]
            have hz2 : tStands (2, 1, updN g2 2 (ch (a + d1 + 1 + d2 + 1) - 48), r) = true := tStands_t (by decide) (Nat.zero_le _) (by rw [updN_s]; show _ ≤ 3; omega)
            refine jx_aload_n (pc := 127) C dX6_isPart_127 rfl ?_
            refine jx_bipush (pc := 128) C dX6_isPart_128 nb_36 ?_
            refine jx_bipush (pc := 130) C dX6_isPart_130 nb_36 ?_
            refine jx_callD (pc := 132) C (go_X6_134 C hS.1 (Nat.le_of_ble_eq_true rfl) dX6_isPart_132) (t_X6_isAt hS hP (hE.mv hD.2.2.1) hD.2.2.2.1 hD.1 (by decide) (by decide)) (by decide) (by decide) ⟨Nat.zero_le _, Nat.zero_le _⟩ ?_
            refine jx_if_eq (pc := 135) C (tgt := 161) dX6_isPart_135 (by decide) (fun c135 => ?_) (fun c135 => ?_)
            · rw [bI_0, decide_eq_false_iff_not] at c135
              first
                | (have hb153 : b153 = true := by
                     cases b153 with
                     | true => rfl
                     | false => exact absurd (bI_eq0.mpr rfl) c156
                   subst hb153
                   obtain ⟨d3, g3, m1, m2, m3, m4, m5, _, m7⟩ := z153)
                | skip
              first
                | exact lp_X6_isPart C hr hS hP hE hq8 hD (Or.inl rfl) hz2 (by omega) h8 hrow (fun _ h => tColD h) (fun h1 h2 => absurd ⟨h1, by omega, by omega⟩ c135)
                | exact lp_X6_isPart C hr hS hP hE hq8 m1 (Or.inr rfl) m4.symm (by omega) ((m5 rfl).2.2.1.trans (by rw [jst_eq, upd_n (by decide)]; exact h8)) (fun k hk => by
                    by_cases hk3 : k = 3
                    · subst hk3; exact (m5 rfl).2.2.2
                    · rw [m3 _ (by omega), jst_ne (by omega), hrow k hk, m2 k hk3]) m7 (fun _ _ => rfl)
            · rw [bI_0, decide_eq_false_iff_not, Decidable.not_not] at c135
              have hm3 : tStep (2, 1, updN g2 2 (ch (a + d1 + 1 + d2 + 1) - 48), r) (ch (a + d1 + 1 + d2 + 1 + 1)) = some (3, 0, updN g2 2 (ch (a + d1 + 1 + d2 + 1) - 48), r) := tStep_m (by omega) hz2 (by show tMark 2 _ = _; rw [show ch (a + d1 + 1 + d2 + 1 + 1) = 36 by omega]; rfl)
              refine jx_aload_n (pc := 138) C dX6_isPart_138 rfl ?_
              refine jx_dup (pc := 139) C dX6_isPart_139 rfl ?_
              refine jx_getIv (pc := 140) C kf_X6_127 rfl hS.1 hD.2.2.2.1 dX6_isPart_140 ?_
              refine jx_iconst (pc := 143) C dX6_isPart_143 nc_1 ?_
              refine jx_iaddN (pc := 144) C dX6_isPart_144 ?_
              refine jx_putI (pc := 145) C kf_X6_127 rfl rfl rfl rfl hS.1 dX6_isPart_145 ?_
              refine jx_aload_n (pc := 148) C dX6_isPart_148 rfl ?_
              refine jx_iconst (pc := 149) C dX6_isPart_149 nc_3 ?_
              refine jx_iconst (pc := 150) C dX6_isPart_150 nc_1 ?_
              refine jx_bipush (pc := 151) C dX6_isPart_151 nb_99 ?_
              refine jx_calli (pc := 153) C (go_X6_151 C hS.1 (Nat.le_of_ble_eq_true rfl) dX6_isPart_153) (t_X6_isNumber hS hP hE (hD.f7 c135.1 hm3) hq8 (k := 3) (by decide) rfl rfl) (by decide) (by decide) ⟨Nat.zero_le _, Nat.zero_le _⟩ (fun r153 I153 P153 L153 q153 => ?_)
              obtain ⟨⟨b153, rfl, z153⟩, rfl, rfl⟩ := q153
              refine jx_if_ne (pc := 156) C (tgt := 161) dX6_isPart_156 (by decide) (fun c156 => ?_) (fun c156 => ?_)
              · first
                  | (have hb153 : b153 = true := by
                       cases b153 with
                       | true => rfl
                       | false => exact absurd (bI_eq0.mpr rfl) c156
                     subst hb153
                     obtain ⟨d3, g3, m1, m2, m3, m4, m5, _, m7⟩ := z153)
                  | skip
                first
                  | exact lp_X6_isPart C hr hS hP hE hq8 hD (Or.inl rfl) hz2 (by omega) h8 hrow (fun _ h => tColD h) (fun h1 h2 => absurd ⟨h1, by omega, by omega⟩ c135)
                  | exact lp_X6_isPart C hr hS hP hE hq8 m1 (Or.inr rfl) m4.symm (by omega) ((m5 rfl).2.2.1.trans (by rw [jst_eq, upd_n (by decide)]; exact h8)) (fun k hk => by
                      by_cases hk3 : k = 3
                      · subst hk3; exact (m5 rfl).2.2.2
                      · rw [m3 _ (by omega), jst_ne (by omega), hrow k hk, m2 k hk3]) m7 (fun _ _ => rfl)
              · refine jx_iconst (pc := 159) C dX6_isPart_159 nc_0 ?_
                exact jn_zret (pc := 160) C hr (rfl) (⟨_, rfl, ⟨false, rfl, by rw [bI_eq0.mp c156] at z153; exact tPart_nf z153⟩, rfl, rfl⟩) dX6_isPart_160
          · rw [bI_0, decide_eq_false_iff_not] at c84
            refine jx_aload_n (pc := 87) C dX6_isPart_87 rfl ?_
            refine jx_callD (pc := 88) C (go_X6_138 C hS.1 (Nat.le_of_ble_eq_true rfl) dX6_isPart_88) (t_X6_stops hS hP (hE.mv hC.2.2.1) hC.2.2.2.1 hC.1) (by decide) (by decide) ⟨Nat.zero_le _, Nat.zero_le _⟩ ?_
            exact jn_zret (pc := 91) C hr (rfl) (⟨_, rfl, ⟨false, rfl, tPart_cf hC c84⟩, rfl, rfl⟩) dX6_isPart_91
        · rw [bI_0, decide_eq_false_iff_not] at c71
          first
            | (have z68b : I68 = jst I59 x 8 (bI (decide (a + d1 + 1 + d2 < t))) := by unfold tSg at z68; rw [if_neg (by rw [decide_eq_true_eq]; exact c71)] at z68; exact z68
               subst z68b)
            | (have z46b : I46 = jst I37 x 8 (bI (decide (a + d1 < t))) := by unfold tSg at z46; rw [if_neg (by rw [decide_eq_true_eq]; exact c49)] at z46; exact z46
               subst z46b)
            | skip
          refine jx_iconst (pc := 74) C dX6_isPart_74 nc_0 ?_
          exact jn_zret (pc := 75) C hr (rfl) (⟨_, rfl, ⟨false, rfl, by
            first
              | exact tPart_sf k1 k7 (Or.inr ⟨rfl, rfl⟩) c71
              | exact tPart_sf h1 h7 (Or.inl ⟨rfl, rfl⟩) c49
              | (rw [bI_eq0.mp c62] at z59; exact tPart_nf z59)
              | (rw [bI_eq0.mp c40] at z37; exact tPart_nf z37)⟩, rfl, rfl⟩) dX6_isPart_75
theorem t_X6_isPart {l : Launch} {D : va_G} {cA : Nat → ClassId} {N0 : Nat} {Sh : jS} {I : jI} {P : jP} {L : jL} {x : Nat} (hS : mS Sh x) (hP : mP P x) {t : Nat} {ch : Nat → Nat} (hE : tEnv I x t ch) {s0 : tS} {a q : Nat} {r : Nat × (Nat → Nat → Nat)} {g : Nat → Nat} (ha : I x 7 = nI a) (hat : a ≤ t) (hq : I x 11 = nI q) (hq8 : q ≤ 8) (hrun : tRun ch s0 a = some (0, 0, g, r)) (hg3 : g 3 = 10) (hg4 : g 4 = 9999) : jN l D cA N0 3 yX6_isPart cX6_isPart 1 (some .boolean) [.ref x] Sh I P L (jNi (fun v I' P' L' => (∃ b, v = bI b ∧ tPart I x t ch s0 a q r b I') ∧ P' = P ∧ L' = L)) := jN_of (by decide) (Nat.le_of_ble_eq_true rfl) (fun _ _ _ _ _ _ _ _ C hr => b_X6_isPart C hr hS hP hE ha hat hq hq8 hrun hg3 hg4)
