def cQF (I : jI) (P : jP) (y : Nat) (I' : jI) (P' : jP) : Prop := (∀ b, (b < y + 46 ∨ y + 91 ≤ b) → b ≠ y + 95 → b ≠ y + 7 → I' b = I b) ∧ hFP P (y + 46) P' ∧ cT P' y
theorem cM.keep {I I' : jI} {P P' : jP} {y : Nat} {f : sF} (M : cM I P y f) (hm : smany f ≤ 10) (K : ∀ b, y + 1 ≤ b → b < y + 46 → b ≠ y + 7 → I' b = I b) (e : P' (y + 3) = P (y + 3)) : cM I' P' y f := by
  obtain ⟨og, H, G⟩ := M
  exact ⟨og, H.keep hm G.lt (fun b h1 h2 h3 => K b (by omega) (by omega) (by omega)), G.ag e⟩
theorem cQF.M {I I' : jI} {P P' : jP} {y : Nat} {f : sF} (F : cQF I P y I' P') (M : cM I P y f) (hm : smany f ≤ 10) : cM I' P' y f := M.keep hm (fun b h1 h2 h3 => F.1 b (by omega) (by omega) h3) (F.2.1 _ (by omega))
theorem cQF.tr {I I1 I2 : jI} {P P1 P2 : jP} {y : Nat} (F : cQF I P y I1 P1) (F2 : cQF I1 P1 y I2 P2) : cQF I P y I2 P2 := ⟨fun b h1 h2 h3 => (F2.1 b h1 h2 h3).trans (F.1 b h1 h2 h3), F.2.1.tr F2.2.1, F2.2.2⟩
theorem cQF.rf {I : jI} {P : jP} {y : Nat} (U : cT P y) : cQF I P y I P := ⟨fun _ _ _ _ => rfl, hFP.rf, U⟩
theorem cQF.of {I I' : jI} {P P' : jP} {y : Nat} (F : hF I (y + 46) I') (E : hFP P (y + 46) P') (U : cT P' y) : cQF I P y I' P' := ⟨fun b h1 _ _ => F b (by omega), E, U⟩
set_option maxHeartbeats 800000 in
theorem lp_X5_dg1 {p : Program} {l : Launch} {e : Env} {s : State} {m : MethodId} {args : Array Value} {below : List Frame} {meth : Method} {c : Code} {D : va_G} {cA : Nat → ClassId} {N0 : Nat} {Sh : jS} {I : jI} {P : jP} {L : jL} {Qf : State → Prop} (C : jC p (jRm 7 0 0) s m args meth c D cA N0 cX5_digest 4 RX5 7) {y : Nat} (S : cS Sh y) (T : cP P y) {f : sF} {og : Nat → Nat} (G : hG P (y + 1) og) (H : hR I (y + 1) og f) (V : sI f) {h1 : Int64} (hx : jJ p l e (jRm 7 0 0) s m args below meth c D cA N0 4 Qf (fun _ => True) Sh I P L 0 0 44 [some (.ref y), some (.long (smixN h1 (fun k => f (14 + k)) (4))), none, some (.int (nI (4)))] []) : ∀ d i, i + d = 4 → jJ p l e (jRm 7 0 0) s m args below meth c D cA N0 4 Qf (fun _ => True) Sh I P L 0 0 16 [some (.ref y), some (.long (smixN h1 (fun k => f (14 + k)) i)), none, some (.int (nI (i)))] [] := by
  intro d
  induction d with
  | zero =>
    intro i hi
    obtain rfl : i = 4 := by omega
    refine jx_iload_n (pc := 16) C dX5_digest_16 rfl ?_
    refine jx_iconst (pc := 17) C dX5_digest_17 nc_4 ?_
    refine jx_icmp_ge (pc := 18) C (tgt := 44) dX5_digest_18 (by decide) (fun c18 => ?_) (fun c18 => (by rw [nI_leI (by omega) (by omega)] at c18; exfalso; omega))
    rw [nI_leI (by omega) (by omega)] at c18
    exact hx
  | succ d ih =>
    intro i hi
    have hlt : i < 4 := by omega
    refine jx_iload_n (pc := 16) C dX5_digest_16 rfl ?_
    refine jx_iconst (pc := 17) C dX5_digest_17 nc_4 ?_
    refine jx_icmp_ge (pc := 18) C (tgt := 44) dX5_digest_18 (by decide) (fun c18 => (by rw [nI_leI (by omega) (by omega)] at c18; exfalso; omega)) (fun c18 => ?_)
    rw [nI_leI (by omega) (by omega)] at c18
    refine jx_lload_n (pc := 21) C dX5_digest_21 rfl ?_
    refine jx_aload_n (pc := 22) C dX5_digest_22 rfl ?_
    refine jx_getP (pc := 23) C kf_X5_10 rfl S.obj T.hall dX5_digest_23 ?_
    refine jx_getP (pc := 26) C kf_X5_100 rfl S.h.hall T.h.sk dX5_digest_26 ?_
    refine jx_iload_n (pc := 29) C dX5_digest_29 rfl ?_
    refine jx_callD (pc := 30) C (go_X5_83 C S.h.sk (Nat.le_of_ble_eq_true rfl) dX5_digest_30) (t_X4_of S.h.sk S.h.sg T.h.sg hlt) (by decide) (by decide) ⟨Nat.zero_le _, Nat.zero_le _⟩ ?_
    rw [H.st hlt]
    refine jx_i2l (pc := 33) C dX5_digest_33 ?_
    refine jx_callD (pc := 34) C (go_X5_254 C  (Nat.le_of_ble_eq_true rfl) dX5_digest_34) t_X5_mixed (by decide) (by decide) ⟨Nat.zero_le _, Nat.zero_le _⟩ ?_
    refine jx_lstore_n (pc := 37) C dX5_digest_37 (jsetw_1 jc_r) (by decide) ?_
    refine jx_iincN (pc := 38) C dX5_digest_38 rfl (jset_3 jc_n) (by decide) ?_
    refine jx_goto (pc := 41) C (tgt := 16) dX5_digest_41 (by decide) ?_
    exact ih (i + 1) (by omega)

set_option maxHeartbeats 800000 in
theorem lp_X5_dg2 {p : Program} {l : Launch} {e : Env} {s : State} {m : MethodId} {args : Array Value} {below : List Frame} {meth : Method} {c : Code} {D : va_G} {cA : Nat → ClassId} {N0 : Nat} {Sh : jS} {I : jI} {P : jP} {L : jL} {Qf : State → Prop} (C : jC p (jRm 7 0 0) s m args meth c D cA N0 cX5_digest 4 RX5 7) {y : Nat} (S : cS Sh y) (T : cP P y) {t : Nat} {ch : Nat → Nat} (B : cB I y t ch) {h1 : Int64} (hx : jJ p l e (jRm 7 0 0) s m args below meth c D cA N0 4 Qf (fun _ => True) Sh I P L 0 0 150 [some (.ref y), some (.long (smixN h1 (fun k => nI (ch k)) t)), none, some (.int (nI (t)))] []) : ∀ d i, i + d = t → jJ p l e (jRm 7 0 0) s m args below meth c D cA N0 4 Qf (fun _ => True) Sh I P L 0 0 115 [some (.ref y), some (.long (smixN h1 (fun k => nI (ch k)) i)), none, some (.int (nI (i)))] [] := by
  have ht := B.2.1
  intro d
  induction d with
  | zero =>
    intro i hi
    obtain rfl : i = t := by omega
    refine jx_iload_n (pc := 115) C dX5_digest_115 rfl ?_
    refine jx_aload_n (pc := 116) C dX5_digest_116 rfl ?_
    refine jx_getIv (pc := 117) C kf_X5_160 rfl S.obj B.1 dX5_digest_117 ?_
    refine jx_icmp_ge (pc := 120) C (tgt := 150) dX5_digest_120 (by decide) (fun c120 => ?_) (fun c120 => (by rw [nI_leI (by omega) (by omega)] at c120; exfalso; omega))
    rw [nI_leI (by omega) (by omega)] at c120
    exact hx
  | succ d ih =>
    intro i hi
    have hlt : i < t := by omega
    refine jx_iload_n (pc := 115) C dX5_digest_115 rfl ?_
    refine jx_aload_n (pc := 116) C dX5_digest_116 rfl ?_
    refine jx_getIv (pc := 117) C kf_X5_160 rfl S.obj B.1 dX5_digest_117 ?_
    refine jx_icmp_ge (pc := 120) C (tgt := 150) dX5_digest_120 (by decide) (fun c120 => (by rw [nI_leI (by omega) (by omega)] at c120; exfalso; omega)) (fun c120 => ?_)
    rw [nI_leI (by omega) (by omega)] at c120
    refine jx_iload_n (pc := 123) C dX5_digest_123 rfl ?_
    refine jx_aload_n (pc := 124) C dX5_digest_124 rfl ?_
    refine jx_getP (pc := 125) C kf_X5_23 rfl S.obj T.buffer dX5_digest_125 ?_
    refine jx_alen10 (pc := 128) C S.bu dX5_digest_128 ?_
    refine jx_icmp_ge (pc := 129) C (tgt := 150) dX5_digest_129 (by decide) (fun c129 => (by rw [nI_leI (by omega) (by omega)] at c129; exfalso; omega)) (fun c129 => ?_)
    rw [nI_leI (by omega) (by omega)] at c129
    refine jx_lload_n (pc := 132) C dX5_digest_132 rfl ?_
    refine jx_aload_n (pc := 133) C dX5_digest_133 rfl ?_
    refine jx_getP (pc := 134) C kf_X5_23 rfl S.obj T.buffer dX5_digest_134 ?_
    refine jx_iload_n (pc := 137) C dX5_digest_137 rfl ?_
    refine jx_ialdv (pc := 138) C S.bu (by omega) (by decide) (B.2.2 i hlt).1 dX5_digest_138 ?_
    refine jx_i2l (pc := 139) C dX5_digest_139 ?_
    refine jx_callD (pc := 140) C (go_X5_254 C  (Nat.le_of_ble_eq_true rfl) dX5_digest_140) t_X5_mixed (by decide) (by decide) ⟨Nat.zero_le _, Nat.zero_le _⟩ ?_
    refine jx_lstore_n (pc := 143) C dX5_digest_143 (jsetw_1 jc_r) (by decide) ?_
    refine jx_iincN (pc := 144) C dX5_digest_144 rfl (jset_3 jc_n) (by decide) ?_
    refine jx_goto (pc := 147) C (tgt := 115) dX5_digest_147 (by decide) ?_
    exact ih (i + 1) (by omega)

set_option maxHeartbeats 800000 in
theorem lp_X5_dg3 {p : Program} {l : Launch} {e : Env} {s : State} {m : MethodId} {args : Array Value} {below : List Frame} {meth : Method} {c : Code} {D : va_G} {cA : Nat → ClassId} {N0 : Nat} {Sh : jS} {I : jI} {P : jP} {L : jL} {Qf : State → Prop} (C : jC p (jRm 7 0 0) s m args meth c D cA N0 cX5_digest 4 RX5 7) {y : Nat} (S : cS Sh y) (T : cP P y) {f : sF} (M : cM I P y f) (V : sI f) {h1 : Int64} (hx : ∀ I1 P1, cQF I P y I1 P1 → jJ p l e (jRm 7 0 0) s m args below meth c D cA N0 4 Qf (fun _ => True) Sh I1 P1 L 0 0 76 [some (.ref y), some (.long (smixN h1 (fun k => sbyH f 20 k) 5)), none, some (.int (nI (5)))] []) : ∀ d i I1 P1, i + d = 5 → cQF I P y I1 P1 → jJ p l e (jRm 7 0 0) s m args below meth c D cA N0 4 Qf (fun _ => True) Sh I1 P1 L 0 0 52 [some (.ref y), some (.long (smixN h1 (fun k => sbyH f 20 k) i)), none, some (.int (nI (i)))] [] := by
  intro d
  induction d with
  | zero =>
    intro i I1 P1 hi F1
    obtain rfl : i = 5 := by omega
    refine jx_iload_n (pc := 52) C dX5_digest_52 rfl ?_
    refine jx_iconst (pc := 53) C dX5_digest_53 nc_5 ?_
    refine jx_icmp_ge (pc := 54) C (tgt := 76) dX5_digest_54 (by decide) (fun c54 => ?_) (fun c54 => (by rw [nI_leI (by omega) (by omega)] at c54; exfalso; omega))
    rw [nI_leI (by omega) (by omega)] at c54
    exact hx _ _ F1
  | succ d ih =>
    intro i I1 P1 hi F1
    have T1 := T.ag (cE.trial F1.2.1)
    have M1 := F1.M M V.1.2.1
    refine jx_iload_n (pc := 52) C dX5_digest_52 rfl ?_
    refine jx_iconst (pc := 53) C dX5_digest_53 nc_5 ?_
    refine jx_icmp_ge (pc := 54) C (tgt := 76) dX5_digest_54 (by decide) (fun c54 => (by rw [nI_leI (by omega) (by omega)] at c54; exfalso; omega)) (fun c54 => ?_)
    rw [nI_leI (by omega) (by omega)] at c54
    refine jx_lload_n (pc := 57) C dX5_digest_57 rfl ?_
    refine jx_aload_n (pc := 58) C dX5_digest_58 rfl ?_
    refine jx_bipush (pc := 59) C dX5_digest_59 nb_20 ?_
    refine jx_iload_n (pc := 61) C dX5_digest_61 rfl ?_
    refine jx_calli (pc := 62) C (go_X5_223 C S.obj (Nat.le_of_ble_eq_true rfl) dX5_digest_62) (t_X5_foreseen S T1 M1 V F1.2.2 (n := 20) (by decide) (by omega)) (by decide) (by decide) ⟨Nat.zero_le _, Nat.zero_le _⟩ (fun r62 I62 P62 L62 q62 => ?_)
    obtain ⟨rfl, F2, E2, U2, rfl⟩ := q62
    refine jx_i2l (pc := 65) C dX5_digest_65 ?_
    refine jx_callD (pc := 66) C (go_X5_254 C  (Nat.le_of_ble_eq_true rfl) dX5_digest_66) t_X5_mixed (by decide) (by decide) ⟨Nat.zero_le _, Nat.zero_le _⟩ ?_
    refine jx_lstore_n (pc := 69) C dX5_digest_69 (jsetw_1 jc_r) (by decide) ?_
    refine jx_iincN (pc := 70) C dX5_digest_70 rfl (jset_3 jc_n) (by decide) ?_
    refine jx_goto (pc := 73) C (tgt := 52) dX5_digest_73 (by decide) ?_
    exact ih (i + 1) I62 P62 (by omega) (F1.tr (cQF.of F2 E2 U2))
set_option maxHeartbeats 800000 in
theorem b_X5_digest {p : Program} {l : Launch} {e : Env} {s : State} {m : MethodId} {args : Array Value} {below : List Frame} {meth : Method} {c : Code} {D : va_G} {cA : Nat → ClassId} {N0 : Nat} {Sh : jS} {I : jI} {P : jP} {L : jL} (C : jC p (jRm 7 0 0) s m args meth c D cA N0 cX5_digest 4 RX5 7) (hr : meth.sig.returnType = (some .long)) {y : Nat} (S : cS Sh y) (T : cP P y) {f : sF} (M : cM I P y f) (V : sI f) (U : cT P y) {q : Nat} (hq : I y 6 = nI q) {t : Nat} {ch : Nat → Nat} (B : cB I y t ch) (he : ∀ w, w < 6 → 0 ≤ f (18 + 12 * w + 4)) : jJ p l e (jRm 7 0 0) s m args below meth c D cA N0 4 (MQ below (jQn D cA N0 Sh (jNl (fun v' I' P' L' => v' = sdig f (nI q) (nI t) t (fun k => nI (ch k)) ∧ cQF I P y I' P' ∧ L' = L))) args s 0 0 (fun q => N0 ≤ q)) (fun _ => True) Sh I P L 0 0 0 [some (.ref y), none, none, none] [] := by
  have hk := V.1.2.1
  refine jx_aload_n (pc := 0) C dX5_digest_0 rfl ?_
  refine jx_ldc2 (pc := 1) C kk_X5_245 dX5_digest_1 ?_
  refine jx_callD (pc := 4) C (go_X5_247 C S.obj (Nat.le_of_ble_eq_true rfl) dX5_digest_4) (t_X5_hashCounts S T M V hq) (by decide) (by decide) ⟨Nat.zero_le _, Nat.zero_le _⟩ ?_
  refine jx_lstore_n (pc := 7) C dX5_digest_7 (jsetw_1 jc_r) (by decide) ?_
  refine jx_aload_n (pc := 8) C dX5_digest_8 rfl ?_
  refine jx_lload_n (pc := 9) C dX5_digest_9 rfl ?_
  refine jx_callD (pc := 10) C (go_X5_251 C S.obj (Nat.le_of_ble_eq_true rfl) dX5_digest_10) (t_X5_hashWeavers S T M V) (by decide) (by decide) ⟨Nat.zero_le _, Nat.zero_le _⟩ ?_
  refine jx_lstore_n (pc := 13) C dX5_digest_13 (jsetw_1 jc_r) (by decide) ?_
  refine jx_iconst (pc := 14) C dX5_digest_14 nc_0 ?_
  refine jx_istore_n (pc := 15) C dX5_digest_15 (jset_3 jc_n) (by decide) ?_
  generalize e1 : smixN (smixN 2861 (fun k => scounted f (nI q) k) 12) (fun k => f k) 4 = h1
  generalize e2 : sdwv f h1 6 = h2
  obtain ⟨og, H, G⟩ := M
  have M : cM I P y f := ⟨og, H, G⟩
  refine lp_X5_dg1 (h1 := h2) C S T G H V ?_ 4 0 rfl
  generalize e3 : smixN h2 (fun k => f (14 + k)) 4 = h3
  refine jx_aload_n (pc := 44) C dX5_digest_44 rfl ?_
  refine jx_lload_n (pc := 45) C dX5_digest_45 rfl ?_
  refine jx_calll (pc := 46) C (go_X5_258 C S.obj (Nat.le_of_ble_eq_true rfl) dX5_digest_46) (t_X5_hashOrders S T M V U) (by decide) (by decide) ⟨Nat.zero_le _, Nat.zero_le _⟩ (fun r46 I46 P46 L46 q46 => ?_)
  obtain ⟨rfl, F1, E1, U1, rfl⟩ := q46
  have Q1 : cQF I P y I46 P46 := ⟨F1, E1, U1⟩
  have T1 := T.ag (cE.trial E1)
  have M1 := Q1.M M hk
  refine jx_lstore_n (pc := 49) C dX5_digest_49 (jsetw_1 jc_r) (by decide) ?_
  refine jx_iconst (pc := 50) C dX5_digest_50 nc_0 ?_
  refine jx_istore_n (pc := 51) C dX5_digest_51 (jset_3 jc_n) (by decide) ?_
  generalize e4 : sdor f h3 (smany f) = h4
  refine lp_X5_dg3 (I := I46) (P := P46) (h1 := h4) C S T1 M1 V (fun I2 P2 F2 => ?_) 5 0 I46 P46 rfl (cQF.rf U1)
  generalize e5 : smixN h4 (fun k => sbyH f 20 k) 5 = h5
  have Q2 := Q1.tr F2
  have T2 := T.ag (cE.trial Q2.2.1)
  have M2 := Q2.M M hk
  refine jx_lload_n (pc := 76) C dX5_digest_76 rfl ?_
  refine jx_aload_n (pc := 77) C dX5_digest_77 rfl ?_
  refine jx_bipush (pc := 78) C dX5_digest_78 nb_12 ?_
  refine jx_calli (pc := 80) C (go_X5_232 C S.obj (Nat.le_of_ble_eq_true rfl) dX5_digest_80) (t_X5_bestRuleFor S T2 M2 V Q2.2.2 (n := 12) (by decide)) (by decide) (by decide) ⟨Nat.zero_le _, Nat.zero_le _⟩ (fun r80 I80 P80 L80 q80 => ?_)
  obtain ⟨hr80, F3, E3, U3, rfl⟩ := q80
  rw [hr80]
  have Q3 : cQF I P y I80 P80 := Q2.tr (cQF.of F3 E3 U3)
  have T3 := T.ag (cE.trial Q3.2.1)
  obtain ⟨og3, H3, G3⟩ := Q3.M M hk
  have B3 : cB I80 y t ch := B.ag (congrFun (Q3.1 y (by omega) (by omega) (by omega)) 7) (Q3.1 _ (by omega) (by omega) (by omega))
  refine jx_i2l (pc := 83) C dX5_digest_83 ?_
  refine jx_callD (pc := 84) C (go_X5_254 C  (Nat.le_of_ble_eq_true rfl) dX5_digest_84) t_X5_mixed (by decide) (by decide) ⟨Nat.zero_le _, Nat.zero_le _⟩ ?_
  refine jx_lstore_n (pc := 87) C dX5_digest_87 (jsetw_1 jc_r) (by decide) ?_
  refine jx_lload_n (pc := 88) C dX5_digest_88 rfl ?_
  refine jx_aload_n (pc := 89) C dX5_digest_89 rfl ?_
  refine jx_getP (pc := 90) C kf_X5_10 rfl S.obj T3.hall dX5_digest_90 ?_
  refine jx_callD (pc := 93) C (go_X5_241 C S.h.hall (Nat.le_of_ble_eq_true rfl) dX5_digest_93) (t_X0_earnedRatio S.h T3.h G3 H3 V he) (by decide) (by decide) ⟨Nat.zero_le _, Nat.zero_le _⟩ ?_
  refine jx_callD (pc := 96) C (go_X5_261 C  (Nat.le_of_ble_eq_true rfl) dX5_digest_96) (t_X5_bitsOf (seven_OK he)) (by decide) (by decide) ⟨Nat.zero_le _, Nat.zero_le _⟩ ?_
  refine jx_callD (pc := 99) C (go_X5_254 C  (Nat.le_of_ble_eq_true rfl) dX5_digest_99) t_X5_mixed (by decide) (by decide) ⟨Nat.zero_le _, Nat.zero_le _⟩ ?_
  refine jx_lstore_n (pc := 102) C dX5_digest_102 (jsetw_1 jc_r) (by decide) ?_
  refine jx_lload_n (pc := 103) C dX5_digest_103 rfl ?_
  refine jx_aload_n (pc := 104) C dX5_digest_104 rfl ?_
  refine jx_getIv (pc := 105) C kf_X5_160 rfl S.obj B3.1 dX5_digest_105 ?_
  refine jx_i2l (pc := 108) C dX5_digest_108 ?_
  refine jx_callD (pc := 109) C (go_X5_254 C  (Nat.le_of_ble_eq_true rfl) dX5_digest_109) t_X5_mixed (by decide) (by decide) ⟨Nat.zero_le _, Nat.zero_le _⟩ ?_
  refine jx_lstore_n (pc := 112) C dX5_digest_112 (jsetw_1 jc_r) (by decide) ?_
  refine jx_iconst (pc := 113) C dX5_digest_113 nc_0 ?_
  refine jx_istore_n (pc := 114) C dX5_digest_114 (jset_3 jc_n) (by decide) ?_
  generalize e6 : (31 : Int64) * ((31 : Int64) * ((31 : Int64) * h5 + (sbest f 12).toInt64) + (seven f).toInt64) + (nI t).toInt64 = h6
  refine lp_X5_dg2 (I := I80) (h1 := h6) C S T3 B3 ?_ t 0 (Nat.zero_add _)
  refine jx_lload_n (pc := 150) C dX5_digest_150 rfl ?_
  exact jn_lret (pc := 151) C hr (⟨_, rfl, by rw [← e6, ← e5, ← e4, ← e3, ← e2, ← e1]; rfl, Q3, rfl⟩) dX5_digest_151
theorem t_X5_digest {l : Launch} {D : va_G} {cA : Nat → ClassId} {N0 : Nat} {Sh : jS} {I : jI} {P : jP} {L : jL} {y : Nat} (S : cS Sh y) (T : cP P y) {f : sF} (M : cM I P y f) (V : sI f) (U : cT P y) {q : Nat} (hq : I y 6 = nI q) {t : Nat} {ch : Nat → Nat} (B : cB I y t ch) (he : ∀ w, w < 6 → 0 ≤ f (18 + 12 * w + 4)) : jN l D cA N0 7 yX5_digest cX5_digest 4 (some .long) [.ref y] Sh I P L (jNl (fun v' I' P' L' => v' = sdig f (nI q) (nI t) t (fun k => nI (ch k)) ∧ cQF I P y I' P' ∧ L' = L)) := jN_of (by decide) (Nat.le_of_ble_eq_true rfl) (fun _ _ _ _ _ _ _ _ C hr => b_X5_digest C hr S T M V U hq B he)
