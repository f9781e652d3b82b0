/-! ONE TURN'S CALL: what it leaves -/
theorem aT_push {n q : Nat} {f : sF} {pst : Nat → sF} (a : aT n f) (hp : ∀ i, i < q → aT n (pst i)) : ∀ i, i < min q 5 + 1 → aT (n + 1) (spush f q pst i) := by
  intro i hi
  unfold spush
  by_cases c : i = min q 5
  · rw [if_pos c]; exact aT_mono a (Nat.le_succ n)
  · rw [if_neg c]; exact aT_mono (hp _ (by omega)) (Nat.le_succ n)
def lAct (L : jL) (y n0 j : Nat) (f : sF) (q : Nat) (pst : Nat → sF) (t : Nat) (ch : Nat → Nat) : Option Value → jI → jP → jL → Prop := fun v I' P' L' => L' = L ∧ ∃ (told : Int32) (f' : sF) (q' : Nat) (pst' : Nat → sF), v = some (.int told) ∧ cR I' P' y f' q' pst' t ch ∧ aT (n0 + 1) f' ∧ (∀ i, i < q' → aT (n0 + 1) (pst' i)) ∧ (told < 0 → q' = q ∧ f' = f) ∧ ((5 < j ∧ j < 10) ∨ j = 14 ∨ yT f' = yT f) ∧ (j < 15 ∨ f' 7 = f 7 + told)
theorem aA_pos {r : Int32} (h : aA r) : ¬ r < 0 := by
  obtain ⟨v, hv, rfl⟩ := h
  rw [nI_lt0 hv]
  exact id
theorem lAct_ok {L : jL} {y n0 j : Nat} {f g : sF} {q : Nat} {pst : Nat → sF} {t : Nat} {ch : Nat → Nat} {I' : jI} {P' : jP} {told : Int32} (R' : cR I' P' y g (min q 5 + 1) (spush f q pst) t ch) (a : aT n0 f) (hp : ∀ i, i < q → aT n0 (pst i)) (h1 : aT (n0 + 1) g) (h2 : aA told) (h3 : (5 < j ∧ j < 10) ∨ j = 14 ∨ yT g = yT f) (h4 : j < 15 ∨ g 7 = f 7 + told) : lAct L y n0 j f q pst t ch (some (.int told)) I' P' L :=
  ⟨rfl, told, g, _, _, rfl, R', h1, aT_push a hp, fun z => absurd z (aA_pos h2), h3, h4⟩
theorem lAct_no {L : jL} {y n0 j : Nat} {f : sF} {q : Nat} {pst : Nat → sF} {t : Nat} {ch : Nat → Nat} {I' : jI} {P' : jP} {told : Int32} (R' : cR I' P' y f q pst t ch) (a : aT n0 f) (hp : ∀ i, i < q → aT n0 (pst i)) (hj : j < 15) : lAct L y n0 j f q pst t ch (some (.int told)) I' P' L :=
  ⟨rfl, told, f, q, pst, rfl, R', aT_mono a (Nat.le_succ n0), fun i hi => aT_mono (hp i hi) (Nat.le_succ n0), fun _ => ⟨rfl, rfl⟩, Or.inr (Or.inr rfl), Or.inl hj⟩
theorem lAct_un {L : jL} {y n0 j : Nat} {f : sF} {q : Nat} {pst : Nat → sF} {t : Nat} {ch : Nat → Nat} {I' : jI} {P' : jP} (hq : q ≠ 0) (hq6 : q ≤ 6) (R' : cR I' P' y (pst (q - 1)) (q - 1) pst t ch) (hp : ∀ i, i < q → aT n0 (pst i)) (hj : j = 14) : lAct L y n0 j f q pst t ch (some (.int (nI (q - 1)))) I' P' L :=
  ⟨rfl, _, _, _, _, rfl, R', aT_mono (hp _ (by omega)) (Nat.le_succ n0), fun i hi => aT_mono (hp i (by omega)) (Nat.le_succ n0), fun z => absurd z (aA_pos (aA_n (by omega))), Or.inr (Or.inl hj), Or.inl (by omega)⟩
theorem ok_loom0 {f : sF} {w : Nat} {sp ca : Int32} (hw : w < 6) : (sloom f (nI w) (nI 0) sp ca).1 = 0 := by
  unfold sloom
  rw [if_pos (nI_inn (w := w) (n := 5) (by decide) (by omega)), if_pos (Or.inl nI_0)]
theorem nI_btw {w l h : Nat} (h1 : l ≤ w) (h2 : w ≤ h) (h3 : h < 2 ^ 31) : nI l ≤ nI w ∧ nI w ≤ nI h := ⟨(nI_leI (by omega) (by omega)).mpr h1, (nI_leI (by omega) h3).mpr h2⟩
theorem ok_loom1 {f : sF} {w v sp ca : Nat} (hw : w < 6) (hv : v < 161) (hs : sp < 9) (hc : ca < 7) : (sloom f (nI w) (nI (40 + v)) (nI (1 + sp)) (nI ca)).1 = 0 := by
  unfold sloom
  rw [if_pos (nI_inn (w := w) (n := 5) (by decide) (by omega)), if_pos (Or.inr ⟨nI_btw (by omega) (by omega) (by decide), nI_btw (by omega) (by omega) (by decide), nI_btw (by omega) (by omega) (by decide)⟩)]
theorem ok_order {f : sF} {cv v len pr du : Nat} (h1 : cv < 4) (h2 : v < 100) (h3 : len < 30) (h4 : pr < 99) (h5 : du < 60) : (sorder f (nI cv) (nI (40 + v)) (nI (1 + len)) (nI (1 + pr)) (nI du)).1 = 0 ∨ (sorder f (nI cv) (nI (40 + v)) (nI (1 + len)) (nI (1 + pr)) (nI du)).1 = 3 := by
  unfold sorder
  rw [if_pos (nI_inn (w := cv) (n := 3) (by decide) (by omega)), if_pos ⟨nI_btw (by omega) (by omega) (by decide), nI_btw (by omega) (by omega) (by decide), nI_btw (by omega) (by omega) (by decide), nI_btw (by omega) (by omega) (by decide)⟩]
  split
  · exact Or.inl rfl
  · exact Or.inr rfl
theorem ok_yarn {f : sF} {w cv g : Nat} (h1 : w < 6) (h2 : cv < 4) (h3 : g < 900) : (syarn f (nI w) (nI cv) (nI g - nI 100)).1 = 0 ∨ (syarn f (nI w) (nI cv) (nI g - nI 100)).1 = 3 := by
  unfold syarn
  have e : (nI g - nI 100).toInt = (g : Int) - 100 := by
    have := pk_sub_toInt (a := g) (b := 100) (by omega) (by decide)
    exact this
  have e9 : (nI 9999).toInt = 9999 := by decide
  have e8 : (-9999 : Int32).toInt = -9999 := by decide
  rw [if_pos ⟨nI_inn (w := w) (n := 5) (by decide) (by omega), nI_inn (w := cv) (n := 3) (by decide) (by omega)⟩, if_pos ⟨by rw [i32_le, e, e8]; omega, by rw [i32_le, e, e9]; omega⟩]
  split
  · exact Or.inl rfl
  · exact Or.inr rfl
theorem ok_give {f : sF} {w ov cv g : Nat} (h1 : w < 6) (h2 : ov < 6) (h3 : cv < 4) : (sgive f (nI w) (nI ov) (nI cv) (nI g)).1 = 0 ∨ (sgive f (nI w) (nI ov) (nI cv) (nI g)).1 = 2 ∨ (sgive f (nI w) (nI ov) (nI cv) (nI g)).1 = 3 := by
  unfold sgive
  rw [if_pos ⟨nI_inn (w := w) (n := 5) (by decide) (by omega), nI_inn (w := ov) (n := 5) (by decide) (by omega), nI_inn (w := cv) (n := 3) (by decide) (by omega)⟩]
  split
  · split
    · exact Or.inl rfl
    · exact Or.inr (Or.inr rfl)
  · exact Or.inr (Or.inl rfl)
theorem ok_set {f : sF} {k v : Nat} (hk : k < 4) (hv : (k < 2 ∧ v < 2) ∨ (2 ≤ k ∧ v < 10)) : (sset f (nI k) (nI v)).1 = 0 := by
  unfold sset
  have hs : nI 0 ≤ nI v ∧ nI v ≤ smax (nI k) := by
    unfold smax
    rcases (by omega : k = 0 ∨ k = 1 ∨ k = 2 ∨ k = 3) with rfl | rfl | rfl | rfl
    · rw [if_pos (by decide)]; exact nI_btw (by omega) (by omega) (by decide)
    · rw [if_neg (by decide), if_pos (by decide)]; exact nI_btw (by omega) (by omega) (by decide)
    · rw [if_neg (by decide), if_neg (by decide), if_pos (by decide)]; exact nI_btw (by omega) (by omega) (by decide)
    · rw [if_neg (by decide), if_neg (by decide), if_neg (by decide)]; exact nI_btw (by omega) (by omega) (by decide)
  rw [if_pos (nI_inn (w := k) (n := 3) (by decide) (by omega)), if_pos hs]
theorem ok_cancel {n o : Nat} {f : sF} (a : aT n f) (ho : o < smany f) : (scancel f (f (90 + 12 * o + 0))).1 = 0 := by
  unfold scancel
  rw [fx_place a ho]
set_option maxHeartbeats 4000000 in
theorem lp_act_loom {p : Program} {l : Launch} {e : Env} {s : State} {m : MethodId} {args : Array Value} {below : List Frame} {meth : Method} {c : Code} {D : va_G} {cA : Nat → ClassId} {N0 : Nat} {Sh : jS} {L : jL} {I : jI} {P : jP} (C : jC p (jRm 9 8 48) s m args meth c D cA N0 cL_act 6 RL 9) {b Ls : Nat} {xs : Nat → Int32} (hE : jEn b Ls xs N0 s) (hst : l.stackTraces = false) (hr : meth.sig.returnType = (some .int)) {y : Nat} (S : cS Sh y) {f : sF} {q : Nat} {pst : Nat → sF} {t : Nat} {ch : Nat → Nat} {n0 : Nat} (a : aT n0 f) (hp : ∀ i, i < q → aT n0 (pst i)) (h36 : n0 < 36) (hI : sI f) {i j : Nat} (hj : j = 0 ∨ j = 1) (R : cR I P y f q pst t ch) {k n : Nat} (hk : k ≤ 2) (hn : n ≤ 12) : jJ p l e (jRm 9 8 48) s m args below meth c D cA N0 6 (MQ below (jQn D cA N0 Sh (lAct L y n0 j f q pst t ch)) args s 8 48 (fun q => N0 ≤ q)) (fun _ => True) Sh I P L k n 112 [some (.ref y), some (.ref b), some (.int (nI i)), some (.int (xs (i + 1))), some (.int (xs (i + 2))), some (.int (xs (i + 3)))] [] := by
  have hm := hI.m
  have b1_6 : lowN (xs (i + 1)) 6 < 6 := lowN_lt (by decide)
  have b2_5 : lowN (xs (i + 2)) 5 < 5 := lowN_lt (by decide)
  have b2_161 : lowN (xs (i + 2)) 161 < 161 := lowN_lt (by decide)
  have b3_9 : lowN (xs (i + 3)) 9 < 9 := lowN_lt (by decide)
  have b3_7 : lowN (xs (i + 3)) 7 < 7 := lowN_lt (by decide)
  refine jx_aload_n (pc := 112) C dL_act_112 rfl ?_
  refine jx_iload_n (pc := 113) C dL_act_113 rfl ?_
  refine jx_bipush (pc := 114) C dL_act_114 nb_6 ?_
  refine jx_callD (pc := 116) C (go_L_68 C (Nat.le_of_ble_eq_true rfl) dL_act_116) (t_L_low (nn := 6) (by decide) (by decide)) (by decide) (by decide) ⟨by show _ ≤ 8; omega, by show _ ≤ 48; omega⟩ ?_
  refine jx_iload (pc := 119) C dL_act_119 rfl ?_
  refine jx_iconst (pc := 121) C dL_act_121 nc_5 ?_
  refine jx_callD (pc := 122) C (go_L_68 C (Nat.le_of_ble_eq_true rfl) dL_act_122) (t_L_low (nn := 5) (by decide) (by decide)) (by decide) (by decide) ⟨by show _ ≤ 8; omega, by show _ ≤ 48; omega⟩ ?_
  refine jx_if_ne (pc := 125) C (tgt := 132) dL_act_125 (by decide) (fun c125 => ?_) (fun c125 => ?_)
  · rw [nI_eq0 (by omega)] at c125
    refine jx_bipush (pc := 132) C dL_act_132 nb_40 ?_
    refine jx_iload (pc := 134) C dL_act_134 rfl ?_
    refine jx_sipush (pc := 136) C dL_act_136 ns_161 ?_
    refine jx_callD (pc := 139) C (go_L_68 C (Nat.le_of_ble_eq_true rfl) dL_act_139) (t_L_low (nn := 161) (by decide) (by decide)) (by decide) (by decide) ⟨by show _ ≤ 8; omega, by show _ ≤ 48; omega⟩ ?_
    refine jx_iaddN (pc := 142) C dL_act_142 ?_
    refine jx_iconst (pc := 143) C dL_act_143 nc_1 ?_
    refine jx_iload (pc := 144) C dL_act_144 rfl ?_
    refine jx_bipush (pc := 146) C dL_act_146 nb_9 ?_
    refine jx_callD (pc := 148) C (go_L_68 C (Nat.le_of_ble_eq_true rfl) dL_act_148) (t_L_low (nn := 9) (by decide) (by decide)) (by decide) (by decide) ⟨by show _ ≤ 8; omega, by show _ ≤ 48; omega⟩ ?_
    refine jx_iaddN (pc := 151) C dL_act_151 ?_
    refine jx_iload (pc := 152) C dL_act_152 rfl ?_
    refine jx_bipush (pc := 154) C dL_act_154 nb_7 ?_
    refine jx_callD (pc := 156) C (go_L_68 C (Nat.le_of_ble_eq_true rfl) dL_act_156) (t_L_low (nn := 7) (by decide) (by decide)) (by decide) (by decide) ⟨by show _ ≤ 8; omega, by show _ ≤ 48; omega⟩ ?_
    have h0 : (sloom f (nI (lowN (xs (i + 1)) 6)) (nI (40 + (lowN (xs (i + 2)) 161))) (nI (1 + (lowN (xs (i + 3)) 9))) (nI (lowN (xs (i + 3)) 7))).1 = 0 := ok_loom1 b1_6 b2_161 b3_9 b3_7
    refine aq_loom (pc := 159) C hE.1 hst (by decide) S R h0 (Nat.le_of_ble_eq_true rfl) dL_act_159 ⟨by show _ ≤ 8; omega, by show _ ≤ 48; omega⟩ (fun I P R => ?_)
    have hh := aT_loom a hI h0
    exact jx_roomy (show _ ≤ 8 by omega) (show _ ≤ 48 by omega) (jn_iret (pc := 162) C hr (lAct_ok R a hp hh.1 hh.2.1 (Or.inr (Or.inr hh.2.2)) (Or.inl (by omega))) dL_act_162)
  · rw [nI_eq0 (by omega)] at c125
    refine jx_iconst (pc := 128) C dL_act_128 nc_0 ?_
    refine jx_goto (pc := 129) C (tgt := 143) dL_act_129 (by decide) ?_
    refine jx_iconst (pc := 143) C dL_act_143 nc_1 ?_
    refine jx_iload (pc := 144) C dL_act_144 rfl ?_
    refine jx_bipush (pc := 146) C dL_act_146 nb_9 ?_
    refine jx_callD (pc := 148) C (go_L_68 C (Nat.le_of_ble_eq_true rfl) dL_act_148) (t_L_low (nn := 9) (by decide) (by decide)) (by decide) (by decide) ⟨by show _ ≤ 8; omega, by show _ ≤ 48; omega⟩ ?_
    refine jx_iaddN (pc := 151) C dL_act_151 ?_
    refine jx_iload (pc := 152) C dL_act_152 rfl ?_
    refine jx_bipush (pc := 154) C dL_act_154 nb_7 ?_
    refine jx_callD (pc := 156) C (go_L_68 C (Nat.le_of_ble_eq_true rfl) dL_act_156) (t_L_low (nn := 7) (by decide) (by decide)) (by decide) (by decide) ⟨by show _ ≤ 8; omega, by show _ ≤ 48; omega⟩ ?_
    have h0 : (sloom f (nI (lowN (xs (i + 1)) 6)) (nI 0) (nI (1 + (lowN (xs (i + 3)) 9))) (nI (lowN (xs (i + 3)) 7))).1 = 0 := ok_loom0 b1_6
    refine aq_loom (pc := 159) C hE.1 hst (by decide) S R h0 (Nat.le_of_ble_eq_true rfl) dL_act_159 ⟨by show _ ≤ 8; omega, by show _ ≤ 48; omega⟩ (fun I P R => ?_)
    have hh := aT_loom a hI h0
    exact jx_roomy (show _ ≤ 8 by omega) (show _ ≤ 48 by omega) (jn_iret (pc := 162) C hr (lAct_ok R a hp hh.1 hh.2.1 (Or.inr (Or.inr hh.2.2)) (Or.inl (by omega))) dL_act_162)
set_option maxHeartbeats 4000000 in
theorem lp_act_order {p : Program} {l : Launch} {e : Env} {s : State} {m : MethodId} {args : Array Value} {below : List Frame} {meth : Method} {c : Code} {D : va_G} {cA : Nat → ClassId} {N0 : Nat} {Sh : jS} {L : jL} {I : jI} {P : jP} (C : jC p (jRm 9 8 48) s m args meth c D cA N0 cL_act 6 RL 9) {b Ls : Nat} {xs : Nat → Int32} (hE : jEn b Ls xs N0 s) (hst : l.stackTraces = false) (hr : meth.sig.returnType = (some .int)) {y : Nat} (S : cS Sh y) {f : sF} {q : Nat} {pst : Nat → sF} {t : Nat} {ch : Nat → Nat} {n0 : Nat} (a : aT n0 f) (hp : ∀ i, i < q → aT n0 (pst i)) (h36 : n0 < 36) (hI : sI f) {i j : Nat} (hj : 2 ≤ j ∧ j ≤ 5) (R : cR I P y f q pst t ch) {k n : Nat} (hk : k ≤ 2) (hn : n ≤ 12) : jJ p l e (jRm 9 8 48) s m args below meth c D cA N0 6 (MQ below (jQn D cA N0 Sh (lAct L y n0 j f q pst t ch)) args s 8 48 (fun q => N0 ≤ q)) (fun _ => True) Sh I P L k n 163 [some (.ref y), some (.ref b), some (.int (nI i)), some (.int (xs (i + 1))), some (.int (xs (i + 2))), some (.int (xs (i + 3)))] [] := by
  have hm := hI.m
  have b1_4 : lowN (xs (i + 1)) 4 < 4 := lowN_lt (by decide)
  have b2_100 : lowN (xs (i + 2)) 100 < 100 := lowN_lt (by decide)
  have b3_30 : lowN (xs (i + 3)) 30 < 30 := lowN_lt (by decide)
  have b1_99 : lowN (xs (i + 1)) 99 < 99 := lowN_lt (by decide)
  have b2_60 : lowN (xs (i + 2)) 60 < 60 := lowN_lt (by decide)
  refine jx_aload_n (pc := 163) C dL_act_163 rfl ?_
  refine jx_iload_n (pc := 164) C dL_act_164 rfl ?_
  refine jx_iconst (pc := 165) C dL_act_165 nc_4 ?_
  refine jx_callD (pc := 166) C (go_L_68 C (Nat.le_of_ble_eq_true rfl) dL_act_166) (t_L_low (nn := 4) (by decide) (by decide)) (by decide) (by decide) ⟨by show _ ≤ 8; omega, by show _ ≤ 48; omega⟩ ?_
  refine jx_bipush (pc := 169) C dL_act_169 nb_40 ?_
  refine jx_iload (pc := 171) C dL_act_171 rfl ?_
  refine jx_bipush (pc := 173) C dL_act_173 nb_100 ?_
  refine jx_callD (pc := 175) C (go_L_68 C (Nat.le_of_ble_eq_true rfl) dL_act_175) (t_L_low (nn := 100) (by decide) (by decide)) (by decide) (by decide) ⟨by show _ ≤ 8; omega, by show _ ≤ 48; omega⟩ ?_
  refine jx_iaddN (pc := 178) C dL_act_178 ?_
  refine jx_iconst (pc := 179) C dL_act_179 nc_1 ?_
  refine jx_iload (pc := 180) C dL_act_180 rfl ?_
  refine jx_bipush (pc := 182) C dL_act_182 nb_30 ?_
  refine jx_callD (pc := 184) C (go_L_68 C (Nat.le_of_ble_eq_true rfl) dL_act_184) (t_L_low (nn := 30) (by decide) (by decide)) (by decide) (by decide) ⟨by show _ ≤ 8; omega, by show _ ≤ 48; omega⟩ ?_
  refine jx_iaddN (pc := 187) C dL_act_187 ?_
  refine jx_iconst (pc := 188) C dL_act_188 nc_1 ?_
  refine jx_iload_n (pc := 189) C dL_act_189 rfl ?_
  refine jx_bipush (pc := 190) C dL_act_190 nb_99 ?_
  refine jx_callD (pc := 192) C (go_L_68 C (Nat.le_of_ble_eq_true rfl) dL_act_192) (t_L_low (nn := 99) (by decide) (by decide)) (by decide) (by decide) ⟨by show _ ≤ 8; omega, by show _ ≤ 48; omega⟩ ?_
  refine jx_iaddN (pc := 195) C dL_act_195 ?_
  refine jx_iload (pc := 196) C dL_act_196 rfl ?_
  refine jx_bipush (pc := 198) C dL_act_198 nb_60 ?_
  refine jx_callD (pc := 200) C (go_L_68 C (Nat.le_of_ble_eq_true rfl) dL_act_200) (t_L_low (nn := 60) (by decide) (by decide)) (by decide) (by decide) ⟨by show _ ≤ 8; omega, by show _ ≤ 48; omega⟩ ?_
  refine jx_callW (pc := 203) C hE.1 (As := [.ref y, .int (nI (lowN (xs (i + 1)) 4)), .int (nI (40 + (lowN (xs (i + 2)) 100))), .int (nI (1 + (lowN (xs (i + 3)) 30))), .int (nI (1 + (lowN (xs (i + 1)) 99))), .int (nI (lowN (xs (i + 2)) 60))]) (rest := []) ky_L_order (jWS_in 501 (by decide +kernel) rfl) (jWS_in 499 (by decide +kernel) rfl) ks_L_order ki_L_order rfl (Nat.le_of_ble_eq_true rfl) dL_act_203 (t_L_order hst S R (ok_order b1_4 b2_100 b3_30 b1_99 b2_60)) (by decide) (by decide) ⟨by show _ ≤ 8; omega, by show _ ≤ 48; omega⟩ (fun v9 I P L9 q9 => ?_)
  obtain ⟨rfl, ⟨h0, rfl, R⟩ | ⟨h0, ⟨r9, rfl, hr9⟩, R⟩⟩ := q9
  · exact jx_roomy (show _ ≤ 8 by omega) (show _ ≤ 48 by omega) (jn_iret (pc := 206) C hr (lAct_ok R a hp (aT_order a h36 hI h0).1 (aT_order a h36 hI h0).2.1 (Or.inr (Or.inr (aT_order a h36 hI h0).2.2)) (Or.inl (by omega))) dL_act_206)
  · exact jx_roomy (show _ ≤ 8 by omega) (show _ ≤ 48 by omega) (jn_iret (pc := 206) C hr (lAct_no R a hp (by omega)) dL_act_206)
set_option maxHeartbeats 4000000 in
theorem lp_act_yarn {p : Program} {l : Launch} {e : Env} {s : State} {m : MethodId} {args : Array Value} {below : List Frame} {meth : Method} {c : Code} {D : va_G} {cA : Nat → ClassId} {N0 : Nat} {Sh : jS} {L : jL} {I : jI} {P : jP} (C : jC p (jRm 9 8 48) s m args meth c D cA N0 cL_act 6 RL 9) {b Ls : Nat} {xs : Nat → Int32} (hE : jEn b Ls xs N0 s) (hst : l.stackTraces = false) (hr : meth.sig.returnType = (some .int)) {y : Nat} (S : cS Sh y) {f : sF} {q : Nat} {pst : Nat → sF} {t : Nat} {ch : Nat → Nat} {n0 : Nat} (a : aT n0 f) (hp : ∀ i, i < q → aT n0 (pst i)) (h36 : n0 < 36) (hI : sI f) {i j : Nat} (hj : j = 6 ∨ j = 7) (R : cR I P y f q pst t ch) {k n : Nat} (hk : k ≤ 2) (hn : n ≤ 12) : jJ p l e (jRm 9 8 48) s m args below meth c D cA N0 6 (MQ below (jQn D cA N0 Sh (lAct L y n0 j f q pst t ch)) args s 8 48 (fun q => N0 ≤ q)) (fun _ => True) Sh I P L k n 207 [some (.ref y), some (.ref b), some (.int (nI i)), some (.int (xs (i + 1))), some (.int (xs (i + 2))), some (.int (xs (i + 3)))] [] := by
  have hm := hI.m
  have b1_6 : lowN (xs (i + 1)) 6 < 6 := lowN_lt (by decide)
  have b2_4 : lowN (xs (i + 2)) 4 < 4 := lowN_lt (by decide)
  have b3_900 : lowN (xs (i + 3)) 900 < 900 := lowN_lt (by decide)
  refine jx_aload_n (pc := 207) C dL_act_207 rfl ?_
  refine jx_iload_n (pc := 208) C dL_act_208 rfl ?_
  refine jx_bipush (pc := 209) C dL_act_209 nb_6 ?_
  refine jx_callD (pc := 211) C (go_L_68 C (Nat.le_of_ble_eq_true rfl) dL_act_211) (t_L_low (nn := 6) (by decide) (by decide)) (by decide) (by decide) ⟨by show _ ≤ 8; omega, by show _ ≤ 48; omega⟩ ?_
  refine jx_iload (pc := 214) C dL_act_214 rfl ?_
  refine jx_iconst (pc := 216) C dL_act_216 nc_4 ?_
  refine jx_callD (pc := 217) C (go_L_68 C (Nat.le_of_ble_eq_true rfl) dL_act_217) (t_L_low (nn := 4) (by decide) (by decide)) (by decide) (by decide) ⟨by show _ ≤ 8; omega, by show _ ≤ 48; omega⟩ ?_
  refine jx_iload (pc := 220) C dL_act_220 rfl ?_
  refine jx_sipush (pc := 222) C dL_act_222 ns_900 ?_
  refine jx_callD (pc := 225) C (go_L_68 C (Nat.le_of_ble_eq_true rfl) dL_act_225) (t_L_low (nn := 900) (by decide) (by decide)) (by decide) (by decide) ⟨by show _ ≤ 8; omega, by show _ ≤ 48; omega⟩ ?_
  refine jx_bipush (pc := 228) C dL_act_228 nb_100 ?_
  refine jx_isub (pc := 230) C dL_act_230 ?_
  refine jx_callW (pc := 231) C hE.1 (As := [.ref y, .int (nI (lowN (xs (i + 1)) 6)), .int (nI (lowN (xs (i + 2)) 4)), .int (nI (lowN (xs (i + 3)) 900) - nI 100)]) (rest := []) ky_L_yarn (jWS_in 535 (by decide +kernel) rfl) (jWS_in 533 (by decide +kernel) rfl) ks_L_yarn ki_L_yarn rfl (Nat.le_of_ble_eq_true rfl) dL_act_231 (t_L_yarn hst S R (ok_yarn b1_6 b2_4 b3_900)) (by decide) (by decide) ⟨by show _ ≤ 8; omega, by show _ ≤ 48; omega⟩ (fun v9 I P L9 q9 => ?_)
  obtain ⟨rfl, ⟨h0, rfl, R⟩ | ⟨h0, ⟨r9, rfl, hr9⟩, R⟩⟩ := q9
  · exact jx_roomy (show _ ≤ 8 by omega) (show _ ≤ 48 by omega) (jn_iret (pc := 234) C hr (lAct_ok R a hp (aT_yarn a hI h0).1 (aT_yarn a hI h0).2 (Or.inl (by omega)) (Or.inl (by omega))) dL_act_234)
  · exact jx_roomy (show _ ≤ 8 by omega) (show _ ≤ 48 by omega) (jn_iret (pc := 234) C hr (lAct_no R a hp (by omega)) dL_act_234)
set_option maxHeartbeats 4000000 in
theorem lp_act_store {p : Program} {l : Launch} {e : Env} {s : State} {m : MethodId} {args : Array Value} {below : List Frame} {meth : Method} {c : Code} {D : va_G} {cA : Nat → ClassId} {N0 : Nat} {Sh : jS} {L : jL} {I : jI} {P : jP} (C : jC p (jRm 9 8 48) s m args meth c D cA N0 cL_act 6 RL 9) {b Ls : Nat} {xs : Nat → Int32} (hE : jEn b Ls xs N0 s) (hst : l.stackTraces = false) (hr : meth.sig.returnType = (some .int)) {y : Nat} (S : cS Sh y) {f : sF} {q : Nat} {pst : Nat → sF} {t : Nat} {ch : Nat → Nat} {n0 : Nat} (a : aT n0 f) (hp : ∀ i, i < q → aT n0 (pst i)) (h36 : n0 < 36) (hI : sI f) {i j : Nat} (hj : j = 8 ∨ j = 9) (R : cR I P y f q pst t ch) {k n : Nat} (hk : k ≤ 2) (hn : n ≤ 12) : jJ p l e (jRm 9 8 48) s m args below meth c D cA N0 6 (MQ below (jQn D cA N0 Sh (lAct L y n0 j f q pst t ch)) args s 8 48 (fun q => N0 ≤ q)) (fun _ => True) Sh I P L k n 235 [some (.ref y), some (.ref b), some (.int (nI i)), some (.int (xs (i + 1))), some (.int (xs (i + 2))), some (.int (xs (i + 3)))] [] := by
  have hm := hI.m
  have b1_4 : lowN (xs (i + 1)) 4 < 4 := lowN_lt (by decide)
  have b2_800 : lowN (xs (i + 2)) 800 < 800 := lowN_lt (by decide)
  have hh := aT_store a h36 hI b1_4 b2_800
  refine jx_aload_n (pc := 235) C dL_act_235 rfl ?_
  refine jx_iload_n (pc := 236) C dL_act_236 rfl ?_
  refine jx_iconst (pc := 237) C dL_act_237 nc_4 ?_
  refine jx_callD (pc := 238) C (go_L_68 C (Nat.le_of_ble_eq_true rfl) dL_act_238) (t_L_low (nn := 4) (by decide) (by decide)) (by decide) (by decide) ⟨by show _ ≤ 8; omega, by show _ ≤ 48; omega⟩ ?_
  refine jx_iconst (pc := 241) C dL_act_241 nc_1 ?_
  refine jx_iload (pc := 242) C dL_act_242 rfl ?_
  refine jx_sipush (pc := 244) C dL_act_244 ns_800 ?_
  refine jx_callD (pc := 247) C (go_L_68 C (Nat.le_of_ble_eq_true rfl) dL_act_247) (t_L_low (nn := 800) (by decide) (by decide)) (by decide) (by decide) ⟨by show _ ≤ 8; omega, by show _ ≤ 48; omega⟩ ?_
  refine jx_iaddN (pc := 250) C dL_act_250 ?_
  refine aq_store (pc := 251) C hE.1 hst (by decide) S R hh.1 (Nat.le_of_ble_eq_true rfl) dL_act_251 ⟨by show _ ≤ 8; omega, by show _ ≤ 48; omega⟩ (fun I P R => ?_)
  exact jx_roomy (show _ ≤ 8 by omega) (show _ ≤ 48 by omega) (jn_iret (pc := 254) C hr (lAct_ok R a hp hh.2.1 hh.2.2 (Or.inl (by omega)) (Or.inl (by omega))) dL_act_254)
set_option maxHeartbeats 4000000 in
theorem lp_act_give {p : Program} {l : Launch} {e : Env} {s : State} {m : MethodId} {args : Array Value} {below : List Frame} {meth : Method} {c : Code} {D : va_G} {cA : Nat → ClassId} {N0 : Nat} {Sh : jS} {L : jL} {I : jI} {P : jP} (C : jC p (jRm 9 8 48) s m args meth c D cA N0 cL_act 6 RL 9) {b Ls : Nat} {xs : Nat → Int32} (hE : jEn b Ls xs N0 s) (hst : l.stackTraces = false) (hr : meth.sig.returnType = (some .int)) {y : Nat} (S : cS Sh y) {f : sF} {q : Nat} {pst : Nat → sF} {t : Nat} {ch : Nat → Nat} {n0 : Nat} (a : aT n0 f) (hp : ∀ i, i < q → aT n0 (pst i)) (h36 : n0 < 36) (hI : sI f) {i j : Nat} (hj : j = 10) (R : cR I P y f q pst t ch) {k n : Nat} (hk : k ≤ 2) (hn : n ≤ 12) : jJ p l e (jRm 9 8 48) s m args below meth c D cA N0 6 (MQ below (jQn D cA N0 Sh (lAct L y n0 j f q pst t ch)) args s 8 48 (fun q => N0 ≤ q)) (fun _ => True) Sh I P L k n 255 [some (.ref y), some (.ref b), some (.int (nI i)), some (.int (xs (i + 1))), some (.int (xs (i + 2))), some (.int (xs (i + 3)))] [] := by
  have hm := hI.m
  have b1_6 : lowN (xs (i + 1)) 6 < 6 := lowN_lt (by decide)
  have b2_6 : lowN (xs (i + 2)) 6 < 6 := lowN_lt (by decide)
  have b1_4 : lowN (xs (i + 1)) 4 < 4 := lowN_lt (by decide)
  have b3_200 : lowN (xs (i + 3)) 200 < 200 := lowN_lt (by decide)
  refine jx_aload_n (pc := 255) C dL_act_255 rfl ?_
  refine jx_iload_n (pc := 256) C dL_act_256 rfl ?_
  refine jx_bipush (pc := 257) C dL_act_257 nb_6 ?_
  refine jx_callD (pc := 259) C (go_L_68 C (Nat.le_of_ble_eq_true rfl) dL_act_259) (t_L_low (nn := 6) (by decide) (by decide)) (by decide) (by decide) ⟨by show _ ≤ 8; omega, by show _ ≤ 48; omega⟩ ?_
  refine jx_iload (pc := 262) C dL_act_262 rfl ?_
  refine jx_bipush (pc := 264) C dL_act_264 nb_6 ?_
  refine jx_callD (pc := 266) C (go_L_68 C (Nat.le_of_ble_eq_true rfl) dL_act_266) (t_L_low (nn := 6) (by decide) (by decide)) (by decide) (by decide) ⟨by show _ ≤ 8; omega, by show _ ≤ 48; omega⟩ ?_
  refine jx_iload_n (pc := 269) C dL_act_269 rfl ?_
  refine jx_iconst (pc := 270) C dL_act_270 nc_4 ?_
  refine jx_callD (pc := 271) C (go_L_68 C (Nat.le_of_ble_eq_true rfl) dL_act_271) (t_L_low (nn := 4) (by decide) (by decide)) (by decide) (by decide) ⟨by show _ ≤ 8; omega, by show _ ≤ 48; omega⟩ ?_
  refine jx_iconst (pc := 274) C dL_act_274 nc_1 ?_
  refine jx_iload (pc := 275) C dL_act_275 rfl ?_
  refine jx_sipush (pc := 277) C dL_act_277 ns_200 ?_
  refine jx_callD (pc := 280) C (go_L_68 C (Nat.le_of_ble_eq_true rfl) dL_act_280) (t_L_low (nn := 200) (by decide) (by decide)) (by decide) (by decide) ⟨by show _ ≤ 8; omega, by show _ ≤ 48; omega⟩ ?_
  refine jx_iaddN (pc := 283) C dL_act_283 ?_
  refine jx_callW (pc := 284) C hE.1 (As := [.ref y, .int (nI (lowN (xs (i + 1)) 6)), .int (nI (lowN (xs (i + 2)) 6)), .int (nI (lowN (xs (i + 1)) 4)), .int (nI (1 + (lowN (xs (i + 3)) 200)))]) (rest := []) ky_L_give (jWS_in 554 (by decide +kernel) rfl) (jWS_in 552 (by decide +kernel) rfl) ks_L_give ki_L_give rfl (Nat.le_of_ble_eq_true rfl) dL_act_284 (t_L_give hst S R (ok_give b1_6 b2_6 b1_4)) (by decide) (by decide) ⟨by show _ ≤ 8; omega, by show _ ≤ 48; omega⟩ (fun v9 I P L9 q9 => ?_)
  obtain ⟨rfl, ⟨h0, rfl, R⟩ | ⟨h0, ⟨r9, rfl, hr9⟩, R⟩⟩ := q9
  · exact jx_roomy (show _ ≤ 8 by omega) (show _ ≤ 48 by omega) (jn_iret (pc := 287) C hr (lAct_ok R a hp (aT_give a hI h0).1 (aT_give a hI h0).2.1 (Or.inr (Or.inr (aT_give a hI h0).2.2)) (Or.inl (by omega))) dL_act_287)
  · exact jx_roomy (show _ ≤ 8 by omega) (show _ ≤ 48 by omega) (jn_iret (pc := 287) C hr (lAct_no R a hp (by omega)) dL_act_287)
set_option maxHeartbeats 4000000 in
theorem lp_act_cancel {p : Program} {l : Launch} {e : Env} {s : State} {m : MethodId} {args : Array Value} {below : List Frame} {meth : Method} {c : Code} {D : va_G} {cA : Nat → ClassId} {N0 : Nat} {Sh : jS} {L : jL} {I : jI} {P : jP} (C : jC p (jRm 9 8 48) s m args meth c D cA N0 cL_act 6 RL 9) {b Ls : Nat} {xs : Nat → Int32} (hE : jEn b Ls xs N0 s) (hst : l.stackTraces = false) (hr : meth.sig.returnType = (some .int)) {y : Nat} (S : cS Sh y) {f : sF} {q : Nat} {pst : Nat → sF} {t : Nat} {ch : Nat → Nat} {n0 : Nat} (a : aT n0 f) (hp : ∀ i, i < q → aT n0 (pst i)) (h36 : n0 < 36) (hI : sI f) {i j : Nat} (hj : j = 11) (R : cR I P y f q pst t ch) {k n : Nat} (hk : k ≤ 2) (hn : n ≤ 12) : jJ p l e (jRm 9 8 48) s m args below meth c D cA N0 6 (MQ below (jQn D cA N0 Sh (lAct L y n0 j f q pst t ch)) args s 8 48 (fun q => N0 ≤ q)) (fun _ => True) Sh I P L k n 288 [some (.ref y), some (.ref b), some (.int (nI i)), some (.int (xs (i + 1))), some (.int (xs (i + 2))), some (.int (xs (i + 3)))] [] := by
  have hm := hI.m
  refine jx_aload_n (pc := 288) C dL_act_288 rfl ?_
  refine jx_iconst (pc := 289) C dL_act_289 nc_1 ?_
  refine aq_count (pc := 290) C hE.1 hst (by decide) S R (by decide) (Nat.le_of_ble_eq_true rfl) dL_act_290 ⟨by show _ ≤ 8; omega, by show _ ≤ 48; omega⟩ (fun I P R => ?_)
  refine jx_top C (y := .int (nI (smany f))) (congrArg Value.int hI.1.1) ?_
  refine jx_if_ne (pc := 293) C (tgt := 301) dL_act_293 (by decide) (fun c293 => ?_) (fun c293 => ?_)
  · rw [nI_eq0 (by omega)] at c293
    have h0 : 0 < smany f := by omega
    have hlo : (lowN (xs (i + 1)) (smany f)) < smany f := lowN_lt h0
    have h1 := ok_cancel a hlo
    refine jx_aload_n (pc := 301) C dL_act_301 rfl ?_
    refine jx_aload_n (pc := 302) C dL_act_302 rfl ?_
    refine jx_iload_n (pc := 303) C dL_act_303 rfl ?_
    refine jx_aload_n (pc := 304) C dL_act_304 rfl ?_
    refine jx_iconst (pc := 305) C dL_act_305 nc_1 ?_
    refine aq_count (pc := 306) C hE.1 hst (by decide) S R (by decide) (Nat.le_of_ble_eq_true rfl) dL_act_306 ⟨by show _ ≤ 8; omega, by show _ ≤ 48; omega⟩ (fun I P R => ?_)
    refine jx_top C (y := .int (nI (smany f))) (congrArg Value.int hI.1.1) ?_
    refine jx_callD (pc := 309) C (go_L_68 C (Nat.le_of_ble_eq_true rfl) dL_act_309) (t_L_low (nn := smany f) h0 (by omega)) (by decide) (by decide) ⟨by show _ ≤ 8; omega, by show _ ≤ 48; omega⟩ ?_
    refine jx_iconst (pc := 312) C dL_act_312 nc_0 ?_
    refine aq_orderOf (pc := 313) C hE.1 hst (by decide) S R hI.1.1 hm hlo (by decide) (Nat.le_of_ble_eq_true rfl) dL_act_313 ⟨by show _ ≤ 8; omega, by show _ ≤ 48; omega⟩ (fun I P R => ?_)
    refine jx_top C (y := .int (f (90 + 12 * (lowN (xs (i + 1)) (smany f)) + 0))) (rfl) ?_
    refine aq_cancel (pc := 316) C hE.1 hst (by decide) S R h1 (Nat.le_of_ble_eq_true rfl) dL_act_316 ⟨by show _ ≤ 8; omega, by show _ ≤ 48; omega⟩ (fun I P R => ?_)
    have hh := aT_cancel a hI h1
    exact jx_roomy (show _ ≤ 8 by omega) (show _ ≤ 48 by omega) (jn_iret (pc := 319) C hr (lAct_ok R a hp hh.1 hh.2.1 (Or.inr (Or.inr hh.2.2)) (Or.inl (by omega))) dL_act_319)
  · rw [nI_eq0 (by omega)] at c293
    refine jx_bipush (pc := 296) C dL_act_296 nb_m3 ?_
    refine jx_goto (pc := 298) C (tgt := 319) dL_act_298 (by decide) ?_
    exact jx_roomy (show _ ≤ 8 by omega) (show _ ≤ 48 by omega) (jn_iret (pc := 319) C hr (lAct_no R a hp (by omega)) dL_act_319)
set_option maxHeartbeats 4000000 in
theorem lp_act_set1 {p : Program} {l : Launch} {e : Env} {s : State} {m : MethodId} {args : Array Value} {below : List Frame} {meth : Method} {c : Code} {D : va_G} {cA : Nat → ClassId} {N0 : Nat} {Sh : jS} {L : jL} {I : jI} {P : jP} (C : jC p (jRm 9 8 48) s m args meth c D cA N0 cL_act 6 RL 9) {b Ls : Nat} {xs : Nat → Int32} (hE : jEn b Ls xs N0 s) (hst : l.stackTraces = false) (hr : meth.sig.returnType = (some .int)) {y : Nat} (S : cS Sh y) {f : sF} {q : Nat} {pst : Nat → sF} {t : Nat} {ch : Nat → Nat} {n0 : Nat} (a : aT n0 f) (hp : ∀ i, i < q → aT n0 (pst i)) (h36 : n0 < 36) (hI : sI f) {i j : Nat} (hj : j = 12) (R : cR I P y f q pst t ch) {k n : Nat} (hk : k ≤ 2) (hn : n ≤ 12) : jJ p l e (jRm 9 8 48) s m args below meth c D cA N0 6 (MQ below (jQn D cA N0 Sh (lAct L y n0 j f q pst t ch)) args s 8 48 (fun q => N0 ≤ q)) (fun _ => True) Sh I P L k n 320 [some (.ref y), some (.ref b), some (.int (nI i)), some (.int (xs (i + 1))), some (.int (xs (i + 2))), some (.int (xs (i + 3)))] [] := by
  have hm := hI.m
  have b1_2 : lowN (xs (i + 1)) 2 < 2 := lowN_lt (by decide)
  have b2_2 : lowN (xs (i + 2)) 2 < 2 := lowN_lt (by decide)
  refine jx_aload_n (pc := 320) C dL_act_320 rfl ?_
  refine jx_iload_n (pc := 321) C dL_act_321 rfl ?_
  refine jx_iconst (pc := 322) C dL_act_322 nc_2 ?_
  refine jx_callD (pc := 323) C (go_L_68 C (Nat.le_of_ble_eq_true rfl) dL_act_323) (t_L_low (nn := 2) (by decide) (by decide)) (by decide) (by decide) ⟨by show _ ≤ 8; omega, by show _ ≤ 48; omega⟩ ?_
  refine jx_iload (pc := 326) C dL_act_326 rfl ?_
  refine jx_iconst (pc := 328) C dL_act_328 nc_2 ?_
  refine jx_callD (pc := 329) C (go_L_68 C (Nat.le_of_ble_eq_true rfl) dL_act_329) (t_L_low (nn := 2) (by decide) (by decide)) (by decide) (by decide) ⟨by show _ ≤ 8; omega, by show _ ≤ 48; omega⟩ ?_
  have h0 : (sset f (nI (lowN (xs (i + 1)) 2)) (nI (lowN (xs (i + 2)) 2))).1 = 0 := ok_set (by omega) (Or.inl ⟨by omega, by omega⟩)
  refine aq_set (pc := 332) C hE.1 hst (by decide) S R h0 (Nat.le_of_ble_eq_true rfl) dL_act_332 ⟨by show _ ≤ 8; omega, by show _ ≤ 48; omega⟩ (fun I P R => ?_)
  have hh := aT_set a hI (by omega) h0 (by omega)
  exact jx_roomy (show _ ≤ 8 by omega) (show _ ≤ 48 by omega) (jn_iret (pc := 335) C hr (lAct_ok R a hp hh.1 hh.2.1 (Or.inr (Or.inr hh.2.2)) (Or.inl (by omega))) dL_act_335)
set_option maxHeartbeats 4000000 in
theorem lp_act_set2 {p : Program} {l : Launch} {e : Env} {s : State} {m : MethodId} {args : Array Value} {below : List Frame} {meth : Method} {c : Code} {D : va_G} {cA : Nat → ClassId} {N0 : Nat} {Sh : jS} {L : jL} {I : jI} {P : jP} (C : jC p (jRm 9 8 48) s m args meth c D cA N0 cL_act 6 RL 9) {b Ls : Nat} {xs : Nat → Int32} (hE : jEn b Ls xs N0 s) (hst : l.stackTraces = false) (hr : meth.sig.returnType = (some .int)) {y : Nat} (S : cS Sh y) {f : sF} {q : Nat} {pst : Nat → sF} {t : Nat} {ch : Nat → Nat} {n0 : Nat} (a : aT n0 f) (hp : ∀ i, i < q → aT n0 (pst i)) (h36 : n0 < 36) (hI : sI f) {i j : Nat} (hj : j = 13) (R : cR I P y f q pst t ch) {k n : Nat} (hk : k ≤ 2) (hn : n ≤ 12) : jJ p l e (jRm 9 8 48) s m args below meth c D cA N0 6 (MQ below (jQn D cA N0 Sh (lAct L y n0 j f q pst t ch)) args s 8 48 (fun q => N0 ≤ q)) (fun _ => True) Sh I P L k n 336 [some (.ref y), some (.ref b), some (.int (nI i)), some (.int (xs (i + 1))), some (.int (xs (i + 2))), some (.int (xs (i + 3)))] [] := by
  have hm := hI.m
  have b1_2 : lowN (xs (i + 1)) 2 < 2 := lowN_lt (by decide)
  have b2_10 : lowN (xs (i + 2)) 10 < 10 := lowN_lt (by decide)
  refine jx_aload_n (pc := 336) C dL_act_336 rfl ?_
  refine jx_iconst (pc := 337) C dL_act_337 nc_2 ?_
  refine jx_iload_n (pc := 338) C dL_act_338 rfl ?_
  refine jx_iconst (pc := 339) C dL_act_339 nc_2 ?_
  refine jx_callD (pc := 340) C (go_L_68 C (Nat.le_of_ble_eq_true rfl) dL_act_340) (t_L_low (nn := 2) (by decide) (by decide)) (by decide) (by decide) ⟨by show _ ≤ 8; omega, by show _ ≤ 48; omega⟩ ?_
  refine jx_iaddN (pc := 343) C dL_act_343 ?_
  refine jx_iload (pc := 344) C dL_act_344 rfl ?_
  refine jx_bipush (pc := 346) C dL_act_346 nb_10 ?_
  refine jx_callD (pc := 348) C (go_L_68 C (Nat.le_of_ble_eq_true rfl) dL_act_348) (t_L_low (nn := 10) (by decide) (by decide)) (by decide) (by decide) ⟨by show _ ≤ 8; omega, by show _ ≤ 48; omega⟩ ?_
  have h0 : (sset f (nI (2 + (lowN (xs (i + 1)) 2))) (nI (lowN (xs (i + 2)) 10))).1 = 0 := ok_set (by omega) (Or.inr ⟨by omega, by omega⟩)
  refine aq_set (pc := 351) C hE.1 hst (by decide) S R h0 (Nat.le_of_ble_eq_true rfl) dL_act_351 ⟨by show _ ≤ 8; omega, by show _ ≤ 48; omega⟩ (fun I P R => ?_)
  have hh := aT_set a hI (by omega) h0 (by omega)
  exact jx_roomy (show _ ≤ 8 by omega) (show _ ≤ 48 by omega) (jn_iret (pc := 354) C hr (lAct_ok R a hp hh.1 hh.2.1 (Or.inr (Or.inr hh.2.2)) (Or.inl (by omega))) dL_act_354)
set_option maxHeartbeats 4000000 in
theorem lp_act_undo {p : Program} {l : Launch} {e : Env} {s : State} {m : MethodId} {args : Array Value} {below : List Frame} {meth : Method} {c : Code} {D : va_G} {cA : Nat → ClassId} {N0 : Nat} {Sh : jS} {L : jL} {I : jI} {P : jP} (C : jC p (jRm 9 8 48) s m args meth c D cA N0 cL_act 6 RL 9) {b Ls : Nat} {xs : Nat → Int32} (hE : jEn b Ls xs N0 s) (hst : l.stackTraces = false) (hr : meth.sig.returnType = (some .int)) {y : Nat} (S : cS Sh y) {f : sF} {q : Nat} {pst : Nat → sF} {t : Nat} {ch : Nat → Nat} {n0 : Nat} (a : aT n0 f) (hp : ∀ i, i < q → aT n0 (pst i)) (h36 : n0 < 36) (hI : sI f) {i j : Nat} (hj : j = 14) (R : cR I P y f q pst t ch) {k n : Nat} (hk : k ≤ 2) (hn : n ≤ 12) : jJ p l e (jRm 9 8 48) s m args below meth c D cA N0 6 (MQ below (jQn D cA N0 Sh (lAct L y n0 j f q pst t ch)) args s 8 48 (fun q => N0 ≤ q)) (fun _ => True) Sh I P L k n 355 [some (.ref y), some (.ref b), some (.int (nI i)), some (.int (xs (i + 1))), some (.int (xs (i + 2))), some (.int (xs (i + 3)))] [] := by
  have hm := hI.m
  have hq6 := R.q6
  refine jx_aload_n (pc := 355) C dL_act_355 rfl ?_
  refine jx_callW (pc := 356) C hE.1 (As := [.ref y]) (rest := []) ky_L_undo (jWS_in 580 (by decide +kernel) rfl) (jWS_in 578 (by decide +kernel) rfl) ks_L_undo ki_L_undo rfl (Nat.le_of_ble_eq_true rfl) dL_act_356 (t_L_undo hst S R) (by decide) (by decide) ⟨by show _ ≤ 8; omega, by show _ ≤ 48; omega⟩ (fun v9 I P L9 q9 => ?_)
  obtain ⟨rfl, ⟨h0, rfl, R⟩ | ⟨h0, ⟨r9, rfl, hr9⟩, R⟩⟩ := q9
  · exact jx_roomy (show _ ≤ 8 by omega) (show _ ≤ 48 by omega) (jn_iret (pc := 359) C hr (lAct_un h0 hq6 R hp hj) dL_act_359)
  · exact jx_roomy (show _ ≤ 8 by omega) (show _ ≤ 48 by omega) (jn_iret (pc := 359) C hr (lAct_no R a hp (by omega)) dL_act_359)
set_option maxHeartbeats 4000000 in
theorem lp_act_pass {p : Program} {l : Launch} {e : Env} {s : State} {m : MethodId} {args : Array Value} {below : List Frame} {meth : Method} {c : Code} {D : va_G} {cA : Nat → ClassId} {N0 : Nat} {Sh : jS} {L : jL} {I : jI} {P : jP} (C : jC p (jRm 9 8 48) s m args meth c D cA N0 cL_act 6 RL 9) {b Ls : Nat} {xs : Nat → Int32} (hE : jEn b Ls xs N0 s) (hst : l.stackTraces = false) (hr : meth.sig.returnType = (some .int)) {y : Nat} (S : cS Sh y) {f : sF} {q : Nat} {pst : Nat → sF} {t : Nat} {ch : Nat → Nat} {n0 : Nat} (a : aT n0 f) (hp : ∀ i, i < q → aT n0 (pst i)) (h36 : n0 < 36) (hI : sI f) {i j : Nat} (hj : 15 ≤ j) (R : cR I P y f q pst t ch) {k n : Nat} (hk : k ≤ 2) (hn : n ≤ 12) : jJ p l e (jRm 9 8 48) s m args below meth c D cA N0 6 (MQ below (jQn D cA N0 Sh (lAct L y n0 j f q pst t ch)) args s 8 48 (fun q => N0 ≤ q)) (fun _ => True) Sh I P L k n 360 [some (.ref y), some (.ref b), some (.int (nI i)), some (.int (xs (i + 1))), some (.int (xs (i + 2))), some (.int (xs (i + 3)))] [] := by
  have hm := hI.m
  have b2_9 : lowN (xs (i + 2)) 9 < 9 := lowN_lt (by decide)
  have hh := aT_pass (k := 1 + (lowN (xs (i + 2)) 9)) a h36 hI ⟨by omega, by omega⟩
  refine jx_aload_n (pc := 360) C dL_act_360 rfl ?_
  refine jx_iconst (pc := 361) C dL_act_361 nc_1 ?_
  refine jx_iload (pc := 362) C dL_act_362 rfl ?_
  refine jx_bipush (pc := 364) C dL_act_364 nb_9 ?_
  refine jx_callD (pc := 366) C (go_L_68 C (Nat.le_of_ble_eq_true rfl) dL_act_366) (t_L_low (nn := 9) (by decide) (by decide)) (by decide) (by decide) ⟨by show _ ≤ 8; omega, by show _ ≤ 48; omega⟩ ?_
  refine jx_iaddN (pc := 369) C dL_act_369 ?_
  refine aq_pass (pc := 370) C hE.1 hst (by decide) S R hh.1 (Nat.le_of_ble_eq_true rfl) dL_act_370 ⟨by show _ ≤ 8; omega, by show _ ≤ 48; omega⟩ (fun I P R => ?_)
  exact jx_roomy (show _ ≤ 8 by omega) (show _ ≤ 48 by omega) (jn_iret (pc := 373) C hr (lAct_ok R a hp hh.2.1 hh.2.2.1 (Or.inr (Or.inr hh.2.2.2.1)) (Or.inr hh.2.2.2.2)) dL_act_373)
set_option maxHeartbeats 4000000 in
theorem lp_act_sw {p : Program} {l : Launch} {e : Env} {s : State} {m : MethodId} {args : Array Value} {below : List Frame} {meth : Method} {c : Code} {D : va_G} {cA : Nat → ClassId} {N0 : Nat} {Sh : jS} {L : jL} {I : jI} {P : jP} (C : jC p (jRm 9 8 48) s m args meth c D cA N0 cL_act 6 RL 9) {b Ls : Nat} {xs : Nat → Int32} (hE : jEn b Ls xs N0 s) (hst : l.stackTraces = false) (hr : meth.sig.returnType = (some .int)) {y : Nat} (S : cS Sh y) {f : sF} {q : Nat} {pst : Nat → sF} {t : Nat} {ch : Nat → Nat} {n0 : Nat} (a : aT n0 f) (hp : ∀ i, i < q → aT n0 (pst i)) (h36 : n0 < 36) (hI : sI f) {i j : Nat} (hj : j < 18) (R : cR I P y f q pst t ch) {k n : Nat} (hk : k ≤ 2) (hn : n ≤ 12) : jJ p l e (jRm 9 8 48) s m args below meth c D cA N0 6 (MQ below (jQn D cA N0 Sh (lAct L y n0 j f q pst t ch)) args s 8 48 (fun q => N0 ≤ q)) (fun _ => True) Sh I P L k n 36 [some (.ref y), some (.ref b), some (.int (nI i)), some (.int (xs (i + 1))), some (.int (xs (i + 2))), some (.int (xs (i + 3)))] [.int (nI j)] := by
  rcases (by omega : j = 0 ∨ j = 1 ∨ j = 2 ∨ j = 3 ∨ j = 4 ∨ j = 5 ∨ j = 6 ∨ j = 7 ∨ j = 8 ∨ j = 9 ∨ j = 10 ∨ j = 11 ∨ j = 12 ∨ j = 13 ∨ j = 14 ∨ 15 ≤ j) with rfl | rfl | rfl | rfl | rfl | rfl | rfl | rfl | rfl | rfl | rfl | rfl | rfl | rfl | rfl | hge
  · exact jx_tableIn (pc := 36) C (off := 76) (tgt := 112) dL_act_36 (by decide) (by decide) rfl (by decide) (lp_act_loom C hE hst hr S a hp h36 hI (by omega) R hk hn)
  · exact jx_tableIn (pc := 36) C (off := 76) (tgt := 112) dL_act_36 (by decide) (by decide) rfl (by decide) (lp_act_loom C hE hst hr S a hp h36 hI (by omega) R hk hn)
  · exact jx_tableIn (pc := 36) C (off := 127) (tgt := 163) dL_act_36 (by decide) (by decide) rfl (by decide) (lp_act_order C hE hst hr S a hp h36 hI (by omega) R hk hn)
  · exact jx_tableIn (pc := 36) C (off := 127) (tgt := 163) dL_act_36 (by decide) (by decide) rfl (by decide) (lp_act_order C hE hst hr S a hp h36 hI (by omega) R hk hn)
  · exact jx_tableIn (pc := 36) C (off := 127) (tgt := 163) dL_act_36 (by decide) (by decide) rfl (by decide) (lp_act_order C hE hst hr S a hp h36 hI (by omega) R hk hn)
  · exact jx_tableIn (pc := 36) C (off := 127) (tgt := 163) dL_act_36 (by decide) (by decide) rfl (by decide) (lp_act_order C hE hst hr S a hp h36 hI (by omega) R hk hn)
  · exact jx_tableIn (pc := 36) C (off := 171) (tgt := 207) dL_act_36 (by decide) (by decide) rfl (by decide) (lp_act_yarn C hE hst hr S a hp h36 hI (by omega) R hk hn)
  · exact jx_tableIn (pc := 36) C (off := 171) (tgt := 207) dL_act_36 (by decide) (by decide) rfl (by decide) (lp_act_yarn C hE hst hr S a hp h36 hI (by omega) R hk hn)
  · exact jx_tableIn (pc := 36) C (off := 199) (tgt := 235) dL_act_36 (by decide) (by decide) rfl (by decide) (lp_act_store C hE hst hr S a hp h36 hI (by omega) R hk hn)
  · exact jx_tableIn (pc := 36) C (off := 199) (tgt := 235) dL_act_36 (by decide) (by decide) rfl (by decide) (lp_act_store C hE hst hr S a hp h36 hI (by omega) R hk hn)
  · exact jx_tableIn (pc := 36) C (off := 219) (tgt := 255) dL_act_36 (by decide) (by decide) rfl (by decide) (lp_act_give C hE hst hr S a hp h36 hI rfl R hk hn)
  · exact jx_tableIn (pc := 36) C (off := 252) (tgt := 288) dL_act_36 (by decide) (by decide) rfl (by decide) (lp_act_cancel C hE hst hr S a hp h36 hI rfl R hk hn)
  · exact jx_tableIn (pc := 36) C (off := 284) (tgt := 320) dL_act_36 (by decide) (by decide) rfl (by decide) (lp_act_set1 C hE hst hr S a hp h36 hI rfl R hk hn)
  · exact jx_tableIn (pc := 36) C (off := 300) (tgt := 336) dL_act_36 (by decide) (by decide) rfl (by decide) (lp_act_set2 C hE hst hr S a hp h36 hI rfl R hk hn)
  · exact jx_tableIn (pc := 36) C (off := 319) (tgt := 355) dL_act_36 (by decide) (by decide) rfl (by decide) (lp_act_undo C hE hst hr S a hp h36 hI rfl R hk hn)
  · exact jx_tableOut (pc := 36) C (tgt := 360) dL_act_36 (Or.inr (by rw [nI_toInt (by omega)]; omega)) (by decide) (lp_act_pass C hE hst hr S a hp h36 hI hge R hk hn)
set_option maxHeartbeats 4000000 in
theorem b_L_act {p : Program} {l : Launch} {e : Env} {s : State} {m : MethodId} {args : Array Value} {below : List Frame} {meth : Method} {c : Code} {D : va_G} {cA : Nat → ClassId} {N0 : Nat} {Sh : jS} {I : jI} {P : jP} {L : jL} (C : jC p (jRm 9 8 48) s m args meth c D cA N0 cL_act 6 RL 9) {b Ls : Nat} {xs : Nat → Int32} (hE : jEn b Ls xs N0 s) (hst : l.stackTraces = false) (hr : meth.sig.returnType = (some .int)) {y : Nat} (S : cS Sh y) {f : sF} {q : Nat} {pst : Nat → sF} {t : Nat} {ch : Nat → Nat} {n0 : Nat} (a : aT n0 f) (hp : ∀ i, i < q → aT n0 (pst i)) (h36 : n0 < 36) (hI : sI f) {i : Nat} (hi : i + 3 < Ls) (hL : Ls < 2 ^ 31) (R : cR I P y f q pst t ch) : jJ p l e (jRm 9 8 48) s m args below meth c D cA N0 6 (MQ below (jQn D cA N0 Sh (lAct L y n0 (lowN (xs i) 18) f q pst t ch)) args s 8 48 (fun q => N0 ≤ q)) (fun _ => True) Sh I P L 0 0 0 [some (.ref y), some (.ref b), some (.int (nI i)), none, none, none] [] := by
  refine jx_aload_n (pc := 0) C dL_act_0 rfl ?_
  refine jx_iload_n (pc := 1) C dL_act_1 rfl ?_
  refine jx_iconst (pc := 2) C dL_act_2 nc_1 ?_
  refine jx_iaddN (pc := 3) C dL_act_3 ?_
  refine jx_callG (pc := 4) C hE (go_L_64 C (Nat.le_of_ble_eq_true rfl) dL_act_4) (t_L_cell (by omega) hL) (by decide) (by decide) ⟨by show _ ≤ 8; omega, by show _ ≤ 48; omega⟩ (fun v9 I9 P9 L9 q9 => ?_)
  obtain ⟨rfl, rfl, rfl, rfl⟩ := q9
  refine jx_istore_n (pc := 7) C dL_act_7 (jset_3 jc_i) (by decide) ?_
  refine jx_aload_n (pc := 8) C dL_act_8 rfl ?_
  refine jx_iload_n (pc := 9) C dL_act_9 rfl ?_
  refine jx_iconst (pc := 10) C dL_act_10 nc_2 ?_
  refine jx_iaddN (pc := 11) C dL_act_11 ?_
  refine jx_callG (pc := 12) C hE (go_L_64 C (Nat.le_of_ble_eq_true rfl) dL_act_12) (t_L_cell (by omega) hL) (by decide) (by decide) ⟨by show _ ≤ 8; omega, by show _ ≤ 48; omega⟩ (fun v9 I9 P9 L9 q9 => ?_)
  obtain ⟨rfl, rfl, rfl, rfl⟩ := q9
  refine jx_istore (pc := 15) C dL_act_15 (jset_4 jc_i) (by decide) ?_
  refine jx_aload_n (pc := 17) C dL_act_17 rfl ?_
  refine jx_iload_n (pc := 18) C dL_act_18 rfl ?_
  refine jx_iconst (pc := 19) C dL_act_19 nc_3 ?_
  refine jx_iaddN (pc := 20) C dL_act_20 ?_
  refine jx_callG (pc := 21) C hE (go_L_64 C (Nat.le_of_ble_eq_true rfl) dL_act_21) (t_L_cell (by omega) hL) (by decide) (by decide) ⟨by show _ ≤ 8; omega, by show _ ≤ 48; omega⟩ (fun v9 I9 P9 L9 q9 => ?_)
  obtain ⟨rfl, rfl, rfl, rfl⟩ := q9
  refine jx_istore (pc := 24) C dL_act_24 (jset_5 jc_i) (by decide) ?_
  refine jx_aload_n (pc := 26) C dL_act_26 rfl ?_
  refine jx_iload_n (pc := 27) C dL_act_27 rfl ?_
  refine jx_callG (pc := 28) C hE (go_L_64 C (Nat.le_of_ble_eq_true rfl) dL_act_28) (t_L_cell (by omega) hL) (by decide) (by decide) ⟨by show _ ≤ 8; omega, by show _ ≤ 48; omega⟩ (fun v9 I9 P9 L9 q9 => ?_)
  obtain ⟨rfl, rfl, rfl, rfl⟩ := q9
  refine jx_bipush (pc := 31) C dL_act_31 nb_18 ?_
  refine jx_callD (pc := 33) C (go_L_68 C (Nat.le_of_ble_eq_true rfl) dL_act_33) (t_L_low (nn := 18) (by decide) (by decide)) (by decide) (by decide) ⟨by show _ ≤ 8; omega, by show _ ≤ 48; omega⟩ ?_
  exact lp_act_sw C hE hst hr S a hp h36 hI (lowN_lt (by decide)) R (by omega) (by omega)
theorem t_L_act {l : Launch} (hst : l.stackTraces = false) {D : va_G} {cA : Nat → ClassId} {N0 : Nat} {Sh : jS} {I : jI} {P : jP} {L : jL} {b Ls : Nat} {xs : Nat → Int32} {y : Nat} (S : cS Sh y) {f : sF} {q : Nat} {pst : Nat → sF} {t : Nat} {ch : Nat → Nat} {n0 : Nat} (a : aT n0 f) (hp : ∀ i, i < q → aT n0 (pst i)) (h36 : n0 < 36) (hI : sI f) {i : Nat} (hi : i + 3 < Ls) (hL : Ls < 2 ^ 31) (R : cR I P y f q pst t ch) : jGM l D cA N0 9 8 48 yL_act cL_act 6 (some .int) [.ref y, .ref b, .int (nI i)] b Ls xs Sh I P L (lAct L y n0 (lowN (xs i) 18) f q pst t ch) := jGM_of (by decide) (Nat.le_of_ble_eq_true rfl) (fun _ _ _ _ _ _ _ _ C hE hr => b_L_act C hE hst hr S a hp h36 hI hi hL R)
