set_option maxHeartbeats 4000000 in
theorem b_X5_isWithin {p : Program} {l : Launch} {e : Env} {s : State} {m : MethodId} {args : Array Value} {below : List Frame} {meth : Method} {c : Code} {D : va_G} {cA : Nat → ClassId} {N0 : Nat} {Sh : jS} {I : jI} {P : jP} {L : jL} (C : jC p (jRm 0 0 0) s m args meth c D cA N0 cX5_isWithin 3 RX5 0) (hr : meth.sig.returnType = (some .boolean)) {v low high : Int32} : jJ p l e (jRm 0 0 0) s m args below meth c D cA N0 3 (MQ below (jQn D cA N0 Sh (jD (some (.int (bI (decide (low ≤ v ∧ v ≤ high))))) I P L)) args s 0 0 (fun q => N0 ≤ q)) (fun _ => True) Sh I P L 0 0 0 [some (.int v), some (.int low), some (.int high)] [] := by
  have h0 : (¬ (low ≤ v ∧ v ≤ high)) → jJ p l e (jRm 0 0 0) s m args below meth c D cA N0 3 (MQ below (jQn D cA N0 Sh (jD (some (.int (bI (decide (low ≤ v ∧ v ≤ high))))) I P L)) args s 0 0 (fun q => N0 ≤ q)) (fun _ => True) Sh I P L 0 0 14 [some (.int v), some (.int low), some (.int high)] [] := fun h => by
    refine jx_iconst (pc := 14) C dX5_isWithin_14 nc_0 ?_
    exact jn_zret (pc := 15) C hr (rfl) (jD_i (bI_decn h)) dX5_isWithin_15
  refine jx_iload_n (pc := 0) C dX5_isWithin_0 rfl ?_
  refine jx_iload_n (pc := 1) C dX5_isWithin_1 rfl ?_
  refine jx_icmp_lt (pc := 2) C (tgt := 14) dX5_isWithin_2 (by decide) (fun c2 => ?_) (fun c2 => ?_)
  · first | exact h0 (fun h => i32_nlt.mpr h.2 (by assumption)) | exact h0 (fun h => i32_nlt.mpr h.1 (by assumption))
  · refine jx_iload_n (pc := 5) C dX5_isWithin_5 rfl ?_
    refine jx_iload_n (pc := 6) C dX5_isWithin_6 rfl ?_
    refine jx_icmp_gt (pc := 7) C (tgt := 14) dX5_isWithin_7 (by decide) (fun c7 => ?_) (fun c7 => ?_)
    · first | exact h0 (fun h => i32_nlt.mpr h.2 (by assumption)) | exact h0 (fun h => i32_nlt.mpr h.1 (by assumption))
    · refine jx_iconst (pc := 10) C dX5_isWithin_10 nc_1 ?_
      refine jx_goto (pc := 11) C (tgt := 15) dX5_isWithin_11 (by decide) ?_
      exact jn_zret (pc := 15) C hr (rfl) (jD_i (bI_dec ⟨i32_nlt.mp c2, i32_nlt.mp c7⟩)) dX5_isWithin_15
theorem t_X5_isWithin {l : Launch} {D : va_G} {cA : Nat → ClassId} {N0 : Nat} {Sh : jS} {I : jI} {P : jP} {L : jL} {v low high : Int32} : jN l D cA N0 0 yX5_isWithin cX5_isWithin 3 (some .boolean) [.int v, .int low, .int high] Sh I P L (jD (some (.int (bI (decide (low ≤ v ∧ v ≤ high))))) I P L) := jN_of (by decide) (Nat.le_of_ble_eq_true rfl) (fun _ _ _ _ _ _ _ _ C hr => b_X5_isWithin C hr )
def rR (I : jI) (r : Nat) (s : tS) : Prop := I r 1 = nI (s.2.2.2.1 + 1) ∧ I r 2 = nI s.1 ∧ I r 3 = nI s.2.1 ∧ s.1 ≤ 4 ∧ (∀ j, j < 5 → (3 ≤ j ∨ j < s.1 ∨ (j = s.1 ∧ s.2.1 ≠ 0)) → I (r + 1) j = nI (s.2.2.1 j)) ∧ (s.2.1 ≠ 0 → s.2.2.1 s.1 ≤ 9999) ∧ s.2.1 < 1000
def rS (Sh : jS) (P : jP) (r : Nat) : Prop := Sh r = some (2, 0) ∧ Sh (r + 1) = some (10, 5) ∧ P r 0 = some (r + 1)
def rF (I : jI) (r : Nat) (I' : jI) : Prop := ∀ b, b ≠ r → b ≠ r + 1 → I' b = I b
theorem jtLE_e {k : Nat} (h : k ≤ 4) : jtLE k = nI (fLo k) := by
  match k, h with
  | 0, _ => rfl
  | 1, _ => rfl
  | 2, _ => rfl
  | 3, _ => rfl
  | 4, _ => rfl
theorem jtMO_e {k : Nat} (h : k ≤ 4) : jtMO k = nI (fHi k) := by
  match k, h with
  | 0, _ => rfl
  | 1, _ => rfl
  | 2, _ => rfl
  | 3, _ => rfl
  | 4, _ => rfl

set_option maxHeartbeats 4000000 in
theorem b_X2_startPart {p : Program} {l : Launch} {e : Env} {s : State} {m : MethodId} {args : Array Value} {below : List Frame} {meth : Method} {c : Code} {D : va_G} {cA : Nat → ClassId} {N0 : Nat} {Sh : jS} {I : jI} {P : jP} {L : jL} (C : jC p (jRm 0 0 0) s m args meth c D cA N0 cX2_startPart 1 RX2 0) (hr : meth.sig.returnType = none) {r : Nat} (S : rS Sh P r) : jJ p l e (jRm 0 0 0) s m args below meth c D cA N0 1 (MQ below (jQn D cA N0 Sh (jD none (jst (jst (jst (jst (jst I r 1 (I r 1 + nI 1)) r 2 (nI 0)) r 3 (nI 0)) (r + 1) 3 (nI 10)) (r + 1) 4 (nI 9999)) P L)) args s 0 0 (fun q => N0 ≤ q)) (fun _ => True) Sh I P L 0 0 0 [some (.ref r)] [] := by
  refine jx_aload_n (pc := 0) C dX2_startPart_0 rfl ?_
  refine jx_dup (pc := 1) C dX2_startPart_1 rfl ?_
  refine jx_getI (pc := 2) C kf_X2_15 rfl S.1 dX2_startPart_2 ?_
  refine jx_iconst (pc := 5) C dX2_startPart_5 nc_1 ?_
  refine jx_iadd (pc := 6) C dX2_startPart_6 ?_
  refine jx_putI (pc := 7) C kf_X2_15 rfl rfl rfl rfl S.1 dX2_startPart_7 ?_
  refine jx_aload_n (pc := 10) C dX2_startPart_10 rfl ?_
  refine jx_iconst (pc := 11) C dX2_startPart_11 nc_0 ?_
  refine jx_putI (pc := 12) C kf_X2_22 rfl rfl rfl rfl S.1 dX2_startPart_12 ?_
  refine jx_aload_n (pc := 15) C dX2_startPart_15 rfl ?_
  refine jx_iconst (pc := 16) C dX2_startPart_16 nc_0 ?_
  refine jx_putI (pc := 17) C kf_X2_25 rfl rfl rfl rfl S.1 dX2_startPart_17 ?_
  refine jx_aload_n (pc := 20) C dX2_startPart_20 rfl ?_
  refine jx_getP (pc := 21) C kf_X2_9 rfl S.1 S.2.2 dX2_startPart_21 ?_
  refine jx_iconst (pc := 24) C dX2_startPart_24 nc_3 ?_
  refine jx_bipush (pc := 25) C dX2_startPart_25 nb_10 ?_
  refine jx_iast (pc := 27) C S.2.1 (by omega) (by decide) dX2_startPart_27 ?_
  refine jx_aload_n (pc := 28) C dX2_startPart_28 rfl ?_
  refine jx_getP (pc := 29) C kf_X2_9 rfl S.1 S.2.2 dX2_startPart_29 ?_
  refine jx_iconst (pc := 32) C dX2_startPart_32 nc_4 ?_
  refine jx_sipush (pc := 33) C dX2_startPart_33 ns_9999 ?_
  refine jx_iast (pc := 36) C S.2.1 (by omega) (by decide) dX2_startPart_36 ?_
  exact jn_vret (pc := 37) C hr (jD_r) dX2_startPart_37
theorem t_X2_startPart {l : Launch} {D : va_G} {cA : Nat → ClassId} {N0 : Nat} {Sh : jS} {I : jI} {P : jP} {L : jL} {r : Nat} (S : rS Sh P r) : jN l D cA N0 0 yX2_startPart cX2_startPart 1 none [.ref r] Sh I P L (jD none (jst (jst (jst (jst (jst I r 1 (I r 1 + nI 1)) r 2 (nI 0)) r 3 (nI 0)) (r + 1) 3 (nI 10)) (r + 1) 4 (nI 9999)) P L) := jN_of (by decide) (Nat.le_of_ble_eq_true rfl) (fun _ _ _ _ _ _ _ _ C hr => b_X2_startPart C hr S)
theorem rR_start {I : jI} {r q : Nat} {prev : Nat → Nat → Nat} (h : I r 1 + nI 1 = nI (q + 1)) : rR (jst (jst (jst (jst (jst I r 1 (I r 1 + nI 1)) r 2 (nI 0)) r 3 (nI 0)) (r + 1) 3 (nI 10)) (r + 1) 4 (nI 9999)) r (0, 0, tNew, q, prev) := by
  refine ⟨?_, ?_, ?_, Nat.zero_le _, fun j hj h3 => ?_, fun z => absurd rfl z, (by decide : (0 : Nat) < 1000)⟩
  · rw [jst_ne (by omega), jst_ne (by omega), jst_eq, upd_n (by decide), jst_eq, upd_n (by decide), jst_eq, upd_s]; exact h
  · rw [jst_ne (by omega), jst_ne (by omega), jst_eq, upd_n (by decide), jst_eq, upd_s]
  · rw [jst_ne (by omega), jst_ne (by omega), jst_eq, upd_s]
  · have h4 : 3 ≤ j := by
      rcases h3 with z | z | z
      · exact z
      · exact absurd z (Nat.not_lt_zero j)
      · exact absurd rfl z.2
    rcases (by omega : j = 3 ∨ j = 4) with rfl | rfl
    · rw [jst_eq, upd_n (by decide), jst_eq, upd_s]; rfl
    · rw [jst_eq, upd_s]; rfl
theorem rF_start {I : jI} {r : Nat} : rF I r (jst (jst (jst (jst (jst I r 1 (I r 1 + nI 1)) r 2 (nI 0)) r 3 (nI 0)) (r + 1) 3 (nI 10)) (r + 1) 4 (nI 9999)) := fun b h1 h2 => by rw [jst_ne h2, jst_ne h2, jst_ne h1, jst_ne h1, jst_ne h1]
set_option maxHeartbeats 4000000 in
theorem b_X2_restart {p : Program} {l : Launch} {e : Env} {s : State} {m : MethodId} {args : Array Value} {below : List Frame} {meth : Method} {c : Code} {D : va_G} {cA : Nat → ClassId} {N0 : Nat} {Sh : jS} {I : jI} {P : jP} {L : jL} (C : jC p (jRm 1 0 0) s m args meth c D cA N0 cX2_restart 1 RX2 1) (hr : meth.sig.returnType = none) {r : Nat} (S : rS Sh P r) : jJ p l e (jRm 1 0 0) s m args below meth c D cA N0 1 (MQ below (jQn D cA N0 Sh (jNv (fun I' P' L' => rR I' r tS0 ∧ rF I r I' ∧ P' = P ∧ L' = L))) args s 0 0 (fun q => N0 ≤ q)) (fun _ => True) Sh I P L 0 0 0 [some (.ref r)] [] := by
  refine jx_aload_n (pc := 0) C dX2_restart_0 rfl ?_
  refine jx_iconst (pc := 1) C dX2_restart_1 nc_0 ?_
  refine jx_putI (pc := 2) C kf_X2_15 rfl rfl rfl rfl S.1 dX2_restart_2 ?_
  refine jx_aload_n (pc := 5) C dX2_restart_5 rfl ?_
  refine jx_callDv (pc := 6) C (go_X2_19 C S.1 (Nat.le_of_ble_eq_true rfl) dX2_restart_6) (t_X2_startPart S) (by decide) (by decide) ⟨Nat.zero_le _, Nat.zero_le _⟩ ?_
  exact jn_vret (pc := 9) C hr (⟨rfl, rR_start (by rw [jst_eq, upd_s]; rfl), fun b h1 h2 => (rF_start b h1 h2).trans (jst_ne h1), rfl, rfl⟩) dX2_restart_9
theorem t_X2_restart {l : Launch} {D : va_G} {cA : Nat → ClassId} {N0 : Nat} {Sh : jS} {I : jI} {P : jP} {L : jL} {r : Nat} (S : rS Sh P r) : jN l D cA N0 1 yX2_restart cX2_restart 1 none [.ref r] Sh I P L (jNv (fun I' P' L' => rR I' r tS0 ∧ rF I r I' ∧ P' = P ∧ L' = L)) := jN_of (by decide) (Nat.le_of_ble_eq_true rfl) (fun _ _ _ _ _ _ _ _ C hr => b_X2_restart C hr S)
set_option maxHeartbeats 4000000 in
theorem b_X2_isField {p : Program} {l : Launch} {e : Env} {s : State} {m : MethodId} {args : Array Value} {below : List Frame} {meth : Method} {c : Code} {D : va_G} {cA : Nat → ClassId} {N0 : Nat} {Sh : jS} {I : jI} {P : jP} {L : jL} (C : jC p (jRm 1 0 0) s m args meth c D cA N0 cX2_isField 1 RX2 1) (hr : meth.sig.returnType = (some .boolean)) {r : Nat} (S : rS Sh P r) {s0 : tS} (H : rR I r s0) : jJ p l e (jRm 1 0 0) s m args below meth c D cA N0 1 (MQ below (jQn D cA N0 Sh (jD (some (.int (nI 1))) I P L)) args s 0 0 (fun q => N0 ≤ q)) (fun _ => True) Sh I P L 0 0 0 [some (.ref r)] [] := by
  refine jx_aload_n (pc := 0) C dX2_isField_0 rfl ?_
  refine jx_getIv (pc := 1) C kf_X2_22 rfl S.1 H.2.1 dX2_isField_1 ?_
  refine jx_iconst (pc := 4) C dX2_isField_4 nc_0 ?_
  refine jx_iconst (pc := 5) C dX2_isField_5 nc_4 ?_
  refine jx_callD (pc := 6) C (go_X2_39 C  (Nat.le_of_ble_eq_true rfl) dX2_isField_6) t_X5_isWithin (by decide) (by decide) ⟨Nat.zero_le _, Nat.zero_le _⟩ ?_
  exact jn_zret (pc := 9) C hr (bI_nar _) (jD_i (bI_dec (nI_inn (by decide) H.2.2.2.1)).symm) dX2_isField_9
theorem t_X2_isField {l : Launch} {D : va_G} {cA : Nat → ClassId} {N0 : Nat} {Sh : jS} {I : jI} {P : jP} {L : jL} {r : Nat} (S : rS Sh P r) {s0 : tS} (H : rR I r s0) : jN l D cA N0 1 yX2_isField cX2_isField 1 (some .boolean) [.ref r] Sh I P L (jD (some (.int (nI 1))) I P L) := jN_of (by decide) (Nat.le_of_ble_eq_true rfl) (fun _ _ _ _ _ _ _ _ C hr => b_X2_isField C hr S H)
set_option maxHeartbeats 4000000 in
theorem b_X2_numberStands {p : Program} {l : Launch} {e : Env} {s : State} {m : MethodId} {args : Array Value} {below : List Frame} {meth : Method} {c : Code} {D : va_G} {cA : Nat → ClassId} {N0 : Nat} {Sh : jS} {I : jI} {P : jP} {L : jL} (C : jC p (jRm 2 0 0) s m args meth c D cA N0 cX2_numberStands 1 RX2 2) (hr : meth.sig.returnType = (some .boolean)) {r : Nat} (S : rS Sh P r) {s0 : tS} (H : rR I r s0) : jJ p l e (jRm 2 0 0) s m args below meth c D cA N0 1 (MQ below (jQn D cA N0 Sh (jD (some (.int (bI (tStands s0)))) I P L)) args s 0 0 (fun q => N0 ≤ q)) (fun _ => True) Sh I P L 0 0 0 [some (.ref r)] [] := by
  obtain ⟨t1, hT1⟩ := C.2.2.2.2.2.2.1.2.2.2.2.1
  obtain ⟨t2, hT2⟩ := C.2.2.2.2.2.2.1.2.2.2.2.2.1
  have hfl := H.2.2.2.1
  have hdg := H.2.2.2.2.2.2
  have hlo := fLo_le s0.1
  have hhi := fHi_le s0.1
  refine jx_aload_n (pc := 0) C dX2_numberStands_0 rfl ?_
  refine jx_callD (pc := 1) C (go_X2_43 C S.1 (Nat.le_of_ble_eq_true rfl) dX2_numberStands_1) (t_X2_isField S H) (by decide) (by decide) ⟨Nat.zero_le _, Nat.zero_le _⟩ ?_
  refine jx_if_eq (pc := 4) C (tgt := 49) dX2_numberStands_4 (by decide) (fun c4 => (by exfalso; revert c4; decide)) (fun c4 => ?_)
  refine jx_aload_n (pc := 7) C dX2_numberStands_7 rfl ?_
  refine jx_getIv (pc := 8) C kf_X2_25 rfl S.1 H.2.2.1 dX2_numberStands_8 ?_
  refine jx_if_le (pc := 11) C (tgt := 49) dX2_numberStands_11 (by decide) (fun c11 => ?_) (fun c11 => ?_)
  · rw [nI_le0 (by omega)] at c11
    refine jx_iconst (pc := 49) C dX2_numberStands_49 nc_0 ?_
    exact jn_zret (pc := 50) C hr (rfl) (jD_i (bI_ff (decide_eq_false (fun z => by first | exact z.1 (by omega) | (have hgv := H.2.2.2.2.2.1 z.1; rw [nI_leI (by omega) (by omega), nI_leI (by omega) (by omega)] at c42; exact c42 z.2))))) dX2_numberStands_50
  · rw [nI_le0 (by omega)] at c11
    refine jx_aload_n (pc := 14) C dX2_numberStands_14 rfl ?_
    refine jx_getP (pc := 15) C kf_X2_9 rfl S.1 S.2.2 dX2_numberStands_15 ?_
    refine jx_aload_n (pc := 18) C dX2_numberStands_18 rfl ?_
    refine jx_getIv (pc := 19) C kf_X2_22 rfl S.1 H.2.1 dX2_numberStands_19 ?_
    refine jx_ialdv (pc := 22) C S.2.1 (by omega) (by decide) (H.2.2.2.2.1 s0.1 (by omega) (Or.inr (Or.inr ⟨rfl, by omega⟩))) dX2_numberStands_22 ?_
    refine jx_gets (pc := 23) C hT1 kg_X2_46 dX2_numberStands_23 ?_
    refine jx_aload_n (pc := 26) C dX2_numberStands_26 rfl ?_
    refine jx_getIv (pc := 27) C kf_X2_22 rfl S.1 H.2.1 dX2_numberStands_27 ?_
    refine jx_tld (pc := 30) C hT1 (by omega) (by decide) dX2_numberStands_30 ?_
    refine jx_gets (pc := 31) C hT2 kg_X2_49 dX2_numberStands_31 ?_
    refine jx_aload_n (pc := 34) C dX2_numberStands_34 rfl ?_
    refine jx_getIv (pc := 35) C kf_X2_22 rfl S.1 H.2.1 dX2_numberStands_35 ?_
    refine jx_tld (pc := 38) C hT2 (by omega) (by decide) dX2_numberStands_38 ?_
    rw [jtLE_e hfl, jtMO_e hfl]
    refine jx_callD (pc := 39) C (go_X2_39 C  (Nat.le_of_ble_eq_true rfl) dX2_numberStands_39) t_X5_isWithin (by decide) (by decide) ⟨Nat.zero_le _, Nat.zero_le _⟩ ?_
    refine jx_if_eq (pc := 42) C (tgt := 49) dX2_numberStands_42 (by decide) (fun c42 => ?_) (fun c42 => ?_)
    · rw [bI_0, decide_eq_false_iff_not] at c42
      refine jx_iconst (pc := 49) C dX2_numberStands_49 nc_0 ?_
      exact jn_zret (pc := 50) C hr (rfl) (jD_i (bI_ff (decide_eq_false (fun z => by first | exact z.1 (by omega) | (have hgv := H.2.2.2.2.2.1 z.1; rw [nI_leI (by omega) (by omega), nI_leI (by omega) (by omega)] at c42; exact c42 z.2))))) dX2_numberStands_50
    · rw [bI_0, decide_eq_false_iff_not, Decidable.not_not] at c42
      have hgv := H.2.2.2.2.2.1 (by omega)
      rw [nI_leI (by omega) (by omega), nI_leI (by omega) (by omega)] at c42
      refine jx_iconst (pc := 45) C dX2_numberStands_45 nc_1 ?_
      refine jx_goto (pc := 46) C (tgt := 50) dX2_numberStands_46 (by decide) ?_
      exact jn_zret (pc := 50) C hr (rfl) (jD_i (bI_tt (decide_eq_true ⟨by omega, c42⟩))) dX2_numberStands_50
theorem t_X2_numberStands {l : Launch} {D : va_G} {cA : Nat → ClassId} {N0 : Nat} {Sh : jS} {I : jI} {P : jP} {L : jL} {r : Nat} (S : rS Sh P r) {s0 : tS} (H : rR I r s0) : jN l D cA N0 2 yX2_numberStands cX2_numberStands 1 (some .boolean) [.ref r] Sh I P L (jD (some (.int (bI (tStands s0)))) I P L) := jN_of (by decide) (Nat.le_of_ble_eq_true rfl) (fun _ _ _ _ _ _ _ _ C hr => b_X2_numberStands C hr S H)
set_option maxHeartbeats 4000000 in
theorem b_X2_isComplete {p : Program} {l : Launch} {e : Env} {s : State} {m : MethodId} {args : Array Value} {below : List Frame} {meth : Method} {c : Code} {D : va_G} {cA : Nat → ClassId} {N0 : Nat} {Sh : jS} {I : jI} {P : jP} {L : jL} (C : jC p (jRm 3 0 0) s m args meth c D cA N0 cX2_isComplete 1 RX2 3) (hr : meth.sig.returnType = (some .boolean)) {r : Nat} (S : rS Sh P r) {s0 : tS} (H : rR I r s0) : jJ p l e (jRm 3 0 0) s m args below meth c D cA N0 1 (MQ below (jQn D cA N0 Sh (jD (some (.int (bI (tDone s0)))) I P L)) args s 0 0 (fun q => N0 ≤ q)) (fun _ => True) Sh I P L 0 0 0 [some (.ref r)] [] := by
  have hfl := H.2.2.2.1
  refine jx_aload_n (pc := 0) C dX2_isComplete_0 rfl ?_
  refine jx_getIv (pc := 1) C kf_X2_22 rfl S.1 H.2.1 dX2_isComplete_1 ?_
  refine jx_iconst (pc := 4) C dX2_isComplete_4 nc_2 ?_
  refine jx_icmp_lt (pc := 5) C (tgt := 19) dX2_isComplete_5 (by decide) (fun c5 => ?_) (fun c5 => ?_)
  · rw [nI_ltI (by omega) (by omega)] at c5
    refine jx_iconst (pc := 19) C dX2_isComplete_19 nc_0 ?_
    exact jn_zret (pc := 20) C hr (rfl) (jD_i (bI_ff (by first | (unfold tDone; rw [decide_eq_false (show ¬ 2 ≤ s0.1 by omega), Bool.false_and]) | (unfold tDone; rw [bI_eq0.mp c12, Bool.and_false])))) dX2_isComplete_20
  · rw [nI_ltI (by omega) (by omega)] at c5
    refine jx_aload_n (pc := 8) C dX2_isComplete_8 rfl ?_
    refine jx_callD (pc := 9) C (go_X2_32 C S.1 (Nat.le_of_ble_eq_true rfl) dX2_isComplete_9) (t_X2_numberStands S H) (by decide) (by decide) ⟨Nat.zero_le _, Nat.zero_le _⟩ ?_
    refine jx_if_eq (pc := 12) C (tgt := 19) dX2_isComplete_12 (by decide) (fun c12 => ?_) (fun c12 => ?_)
    · refine jx_iconst (pc := 19) C dX2_isComplete_19 nc_0 ?_
      exact jn_zret (pc := 20) C hr (rfl) (jD_i (bI_ff (by first | (unfold tDone; rw [decide_eq_false (show ¬ 2 ≤ s0.1 by omega), Bool.false_and]) | (unfold tDone; rw [bI_eq0.mp c12, Bool.and_false])))) dX2_isComplete_20
    · refine jx_iconst (pc := 15) C dX2_isComplete_15 nc_1 ?_
      refine jx_goto (pc := 16) C (tgt := 20) dX2_isComplete_16 (by decide) ?_
      exact jn_zret (pc := 20) C hr (rfl) (jD_i (bI_tt (by unfold tDone; rw [decide_eq_true (show 2 ≤ s0.1 by omega), Bool.true_and]; exact Bool.of_not_eq_false (fun z => c12 (by rw [z]; rfl))))) dX2_isComplete_20
theorem t_X2_isComplete {l : Launch} {D : va_G} {cA : Nat → ClassId} {N0 : Nat} {Sh : jS} {I : jI} {P : jP} {L : jL} {r : Nat} (S : rS Sh P r) {s0 : tS} (H : rR I r s0) : jN l D cA N0 3 yX2_isComplete cX2_isComplete 1 (some .boolean) [.ref r] Sh I P L (jD (some (.int (bI (tDone s0)))) I P L) := jN_of (by decide) (Nat.le_of_ble_eq_true rfl) (fun _ _ _ _ _ _ _ _ C hr => b_X2_isComplete C hr S H)
set_option maxHeartbeats 4000000 in
theorem lp_X2_canBecome {p : Program} {l : Launch} {e : Env} {s : State} {m : MethodId} {args : Array Value} {below : List Frame} {meth : Method} {c : Code} {D : va_G} {cA : Nat → ClassId} {N0 : Nat} {Sh : jS} {I : jI} {P : jP} {L : jL} (C : jC p (jRm 0 0 0) s m args meth c D cA N0 cX2_canBecome 6 RX2 0) (hr : meth.sig.returnType = some .boolean) {v lo hi : Nat} {B : Bool} (hlo : lo < 1000) (hhi : hi ≤ 9999) : ∀ n a b i, i + n = 5 → a ≤ 99999 → b < 10000000 → b + 1 ≤ 2 * a → nbegL lo hi n a b = B → jJ p l e (jRm 0 0 0) s m args below meth c D cA N0 6 (MQ below (jQn D cA N0 Sh (jD (some (.int (bI B))) I P L)) args s 0 0 (fun q => N0 ≤ q)) (fun _ => True) Sh I P L 0 0 22 [some (.int (nI v)), some (.int (nI lo)), some (.int (nI hi)), some (.int (nI (a))), some (.int (nI (b))), some (.int (nI (i)))] [] := by
  intro n
  induction n with
  | zero =>
    intro a b i hi5 ha hb hp hB
    have hB2 : B = false := hB.symm
    subst hB2
    refine jx_iload (pc := 22) C dX2_canBecome_22 rfl ?_
    refine jx_iconst (pc := 24) C dX2_canBecome_24 nc_5 ?_
    refine jx_icmp_ge (pc := 25) C (tgt := 62) dX2_canBecome_25 (by decide) (fun c25 => ?_) (fun c25 => (by rw [nI_leI (by omega) (by omega)] at c25; exfalso; omega))
    rw [nI_leI (by omega) (by omega)] at c25
    refine jx_iconst (pc := 62) C dX2_canBecome_62 nc_0 ?_
    exact jn_zret (pc := 63) C hr (rfl) (jD_i rfl) dX2_canBecome_63
  | succ n ih =>
    intro a b i hi5 ha hb hp hB
    by_cases h1 : a ≤ hi
    · by_cases h2 : lo ≤ b
      · have hB2 : B = true := hB.symm.trans ((if_pos h1).trans (if_pos h2))
        subst hB2
        refine jx_iload (pc := 22) C dX2_canBecome_22 rfl ?_
        refine jx_iconst (pc := 24) C dX2_canBecome_24 nc_5 ?_
        refine jx_icmp_ge (pc := 25) C (tgt := 62) dX2_canBecome_25 (by decide) (fun c25 => (by rw [nI_leI (by omega) (by omega)] at c25; exfalso; omega)) (fun c25 => ?_)
        rw [nI_leI (by omega) (by omega)] at c25
        refine jx_iload_n (pc := 28) C dX2_canBecome_28 rfl ?_
        refine jx_iload_n (pc := 29) C dX2_canBecome_29 rfl ?_
        refine jx_icmp_gt (pc := 30) C (tgt := 62) dX2_canBecome_30 (by decide) (fun c30 => (by rw [nI_ltI (by omega) (by omega)] at c30; exfalso; omega)) (fun c30 => ?_)
        rw [nI_ltI (by omega) (by omega)] at c30
        refine jx_iload (pc := 33) C dX2_canBecome_33 rfl ?_
        refine jx_iload_n (pc := 35) C dX2_canBecome_35 rfl ?_
        refine jx_icmp_lt (pc := 36) C (tgt := 41) dX2_canBecome_36 (by decide) (fun c36 => (by rw [nI_ltI (by omega) (by omega)] at c36; exfalso; omega)) (fun c36 => ?_)
        rw [nI_ltI (by omega) (by omega)] at c36
        refine jx_iconst (pc := 39) C dX2_canBecome_39 nc_1 ?_
        exact jn_zret (pc := 40) C hr (rfl) (jD_i rfl) dX2_canBecome_40
      · have hB2 : nbegL lo hi n (a * 10) (10 * b + 9) = B := ((if_pos h1).trans (if_neg h2)).symm.trans hB
        rw [Nat.mul_comm 10 b] at hB2
        refine jx_iload (pc := 22) C dX2_canBecome_22 rfl ?_
        refine jx_iconst (pc := 24) C dX2_canBecome_24 nc_5 ?_
        refine jx_icmp_ge (pc := 25) C (tgt := 62) dX2_canBecome_25 (by decide) (fun c25 => (by rw [nI_leI (by omega) (by omega)] at c25; exfalso; omega)) (fun c25 => ?_)
        rw [nI_leI (by omega) (by omega)] at c25
        refine jx_iload_n (pc := 28) C dX2_canBecome_28 rfl ?_
        refine jx_iload_n (pc := 29) C dX2_canBecome_29 rfl ?_
        refine jx_icmp_gt (pc := 30) C (tgt := 62) dX2_canBecome_30 (by decide) (fun c30 => (by rw [nI_ltI (by omega) (by omega)] at c30; exfalso; omega)) (fun c30 => ?_)
        rw [nI_ltI (by omega) (by omega)] at c30
        refine jx_iload (pc := 33) C dX2_canBecome_33 rfl ?_
        refine jx_iload_n (pc := 35) C dX2_canBecome_35 rfl ?_
        refine jx_icmp_lt (pc := 36) C (tgt := 41) dX2_canBecome_36 (by decide) (fun c36 => ?_) (fun c36 => (by rw [nI_ltI (by omega) (by omega)] at c36; exfalso; omega))
        rw [nI_ltI (by omega) (by omega)] at c36
        refine jx_iload_n (pc := 41) C dX2_canBecome_41 rfl ?_
        refine jx_bipush (pc := 42) C dX2_canBecome_42 nb_10 ?_
        refine jx_imulN (pc := 44) C dX2_canBecome_44 ?_
        refine jx_istore_n (pc := 45) C dX2_canBecome_45 (jset_3 jc_i) (by decide) ?_
        refine jx_iload (pc := 46) C dX2_canBecome_46 rfl ?_
        refine jx_bipush (pc := 48) C dX2_canBecome_48 nb_10 ?_
        refine jx_imulN (pc := 50) C dX2_canBecome_50 ?_
        refine jx_bipush (pc := 51) C dX2_canBecome_51 nb_9 ?_
        refine jx_iaddN (pc := 53) C dX2_canBecome_53 ?_
        refine jx_istore (pc := 54) C dX2_canBecome_54 (jset_4 jc_i) (by decide) ?_
        refine jx_iincN (pc := 56) C dX2_canBecome_56 rfl (jset_5 jc_i) (by decide) ?_
        refine jx_goto (pc := 59) C (tgt := 22) dX2_canBecome_59 (by decide) ?_
        exact ih _ _ (i + 1) (by omega) (by omega) (by omega) (by omega) hB2
    · have hB2 : B = false := hB.symm.trans (if_neg h1)
      subst hB2
      refine jx_iload (pc := 22) C dX2_canBecome_22 rfl ?_
      refine jx_iconst (pc := 24) C dX2_canBecome_24 nc_5 ?_
      refine jx_icmp_ge (pc := 25) C (tgt := 62) dX2_canBecome_25 (by decide) (fun c25 => (by rw [nI_leI (by omega) (by omega)] at c25; exfalso; omega)) (fun c25 => ?_)
      rw [nI_leI (by omega) (by omega)] at c25
      refine jx_iload_n (pc := 28) C dX2_canBecome_28 rfl ?_
      refine jx_iload_n (pc := 29) C dX2_canBecome_29 rfl ?_
      refine jx_icmp_gt (pc := 30) C (tgt := 62) dX2_canBecome_30 (by decide) (fun c30 => ?_) (fun c30 => (by rw [nI_ltI (by omega) (by omega)] at c30; exfalso; omega))
      rw [nI_ltI (by omega) (by omega)] at c30
      refine jx_iconst (pc := 62) C dX2_canBecome_62 nc_0 ?_
      exact jn_zret (pc := 63) C hr (rfl) (jD_i rfl) dX2_canBecome_63
set_option maxHeartbeats 4000000 in
theorem b_X2_canBecome {p : Program} {l : Launch} {e : Env} {s : State} {m : MethodId} {args : Array Value} {below : List Frame} {meth : Method} {c : Code} {D : va_G} {cA : Nat → ClassId} {N0 : Nat} {Sh : jS} {I : jI} {P : jP} {L : jL} (C : jC p (jRm 0 0 0) s m args meth c D cA N0 cX2_canBecome 6 RX2 0) (hr : meth.sig.returnType = (some .boolean)) {v lo hi : Nat} (hv : v ≤ 99999) (hlo : lo < 1000) (hhi : hi ≤ 9999) : jJ p l e (jRm 0 0 0) s m args below meth c D cA N0 6 (MQ below (jQn D cA N0 Sh (jD (some (.int (bI (nbeg v lo hi)))) I P L)) args s 0 0 (fun q => N0 ≤ q)) (fun _ => True) Sh I P L 0 0 0 [some (.int (nI v)), some (.int (nI lo)), some (.int (nI hi)), none, none, none] [] := by
  rcases Nat.eq_zero_or_pos v with hz | hz
  · subst hz
    refine jx_iload_n (pc := 0) C dX2_canBecome_0 rfl ?_
    refine jx_if_ne (pc := 1) C (tgt := 14) dX2_canBecome_1 (by decide) (fun c1 => (by rw [nI_eq0 (by omega)] at c1; exfalso; omega)) (fun c1 => ?_)
    rw [nI_eq0 (by omega)] at c1
    refine jx_iload_n (pc := 4) C dX2_canBecome_4 rfl ?_
    refine jx_if_ne (pc := 5) C (tgt := 12) dX2_canBecome_5 (by decide) (fun c5 => ?_) (fun c5 => ?_)
    · rw [nI_eq0 (by omega)] at c5
      refine jx_iconst (pc := 12) C dX2_canBecome_12 nc_0 ?_
      exact jn_zret (pc := 13) C hr (rfl) (jD_i (bI_ff (by unfold nbeg; rw [if_pos rfl]; exact decide_eq_false (by omega)))) dX2_canBecome_13
    · rw [nI_eq0 (by omega)] at c5
      refine jx_iconst (pc := 8) C dX2_canBecome_8 nc_1 ?_
      refine jx_goto (pc := 9) C (tgt := 13) dX2_canBecome_9 (by decide) ?_
      exact jn_zret (pc := 13) C hr (rfl) (jD_i (bI_tt (by unfold nbeg; rw [if_pos rfl]; exact decide_eq_true (by omega)))) dX2_canBecome_13
  · have hnb : nbeg v lo hi = nbegL lo hi 5 v v := if_neg (by omega)
    rw [hnb]
    refine jx_iload_n (pc := 0) C dX2_canBecome_0 rfl ?_
    refine jx_if_ne (pc := 1) C (tgt := 14) dX2_canBecome_1 (by decide) (fun c1 => ?_) (fun c1 => (by rw [nI_eq0 (by omega)] at c1; exfalso; omega))
    rw [nI_eq0 (by omega)] at c1
    refine jx_iload_n (pc := 14) C dX2_canBecome_14 rfl ?_
    refine jx_istore_n (pc := 15) C dX2_canBecome_15 (jset_3 jc_i) (by decide) ?_
    refine jx_iload_n (pc := 16) C dX2_canBecome_16 rfl ?_
    refine jx_istore (pc := 17) C dX2_canBecome_17 (jset_4 jc_i) (by decide) ?_
    refine jx_iconst (pc := 19) C dX2_canBecome_19 nc_0 ?_
    refine jx_istore (pc := 20) C dX2_canBecome_20 (jset_5 jc_i) (by decide) ?_
    exact lp_X2_canBecome C hr hlo hhi 5 v v 0 rfl (by omega) (by omega) (by omega) rfl
theorem t_X2_canBecome {l : Launch} {D : va_G} {cA : Nat → ClassId} {N0 : Nat} {Sh : jS} {I : jI} {P : jP} {L : jL} {v lo hi : Nat} (hv : v ≤ 99999) (hlo : lo < 1000) (hhi : hi ≤ 9999) : jN l D cA N0 0 yX2_canBecome cX2_canBecome 6 (some .boolean) [.int (nI v), .int (nI lo), .int (nI hi)] Sh I P L (jD (some (.int (bI (nbeg v lo hi)))) I P L) := jN_of (by decide) (Nat.le_of_ble_eq_true rfl) (fun _ _ _ _ _ _ _ _ C hr => b_X2_canBecome C hr hv hlo hhi)
set_option maxHeartbeats 4000000 in
theorem b_X2_acceptsDigit {p : Program} {l : Launch} {e : Env} {s : State} {m : MethodId} {args : Array Value} {below : List Frame} {meth : Method} {c : Code} {D : va_G} {cA : Nat → ClassId} {N0 : Nat} {Sh : jS} {I : jI} {P : jP} {L : jL} (C : jC p (jRm 2 0 0) s m args meth c D cA N0 cX2_acceptsDigit 3 RX2 2) (hr : meth.sig.returnType = (some .boolean)) {r : Nat} (S : rS Sh P r) {s0 : tS} (H : rR I r s0) {c0 : Nat} (hd : 48 ≤ c0 ∧ c0 ≤ 57) : jJ p l e (jRm 2 0 0) s m args below meth c D cA N0 3 (MQ below (jQn D cA N0 Sh (jNi (fun v' I' P' L' => v' = bI (tStep s0 c0).isSome ∧ (∀ s1, tStep s0 c0 = some s1 → s0.2.1 < 500 → rR I' r s1) ∧ rF I r I' ∧ P' = P ∧ L' = L))) args s 0 0 (fun q => N0 ≤ q)) (fun _ => True) Sh I P L 0 0 0 [some (.ref r), some (.int (nI (c0 - 48))), none] [] := by
  obtain ⟨t1, hT1⟩ := C.2.2.2.2.2.2.1.2.2.2.2.1
  obtain ⟨t2, hT2⟩ := C.2.2.2.2.2.2.1.2.2.2.2.2.1
  have hfl := H.2.2.2.1
  have hdg := H.2.2.2.2.2.2
  have hlo := fLo_le s0.1
  have hhi := fHi_le s0.1
  have key : ¬ (s0.2.1 ≠ 0 ∧ s0.2.2.1 s0.1 = 0) → (tNext s0.2.1 (s0.2.2.1 s0.1) c0) ≤ 99999 → jJ p l e (jRm 2 0 0) s m args below meth c D cA N0 3 (MQ below (jQn D cA N0 Sh (jNi (fun v' I' P' L' => v' = bI (tStep s0 c0).isSome ∧ (∀ s1, tStep s0 c0 = some s1 → s0.2.1 < 500 → rR I' r s1) ∧ rF I r I' ∧ P' = P ∧ L' = L))) args s 0 0 (fun q => N0 ≤ q)) (fun _ => True) Sh I P L 0 0 53 [some (.ref r), some (.int (nI (c0 - 48))), none] [.int (nI (tNext s0.2.1 (s0.2.2.1 s0.1) c0))] := by
    intro hz hbig
    cases hnb : nbeg (tNext s0.2.1 (s0.2.2.1 s0.1) c0) (fLo s0.1) (fHi s0.1) with
    | false =>
      have hno : tStep s0 c0 = none := tStep_z hd (Or.inr hnb)
      refine jx_istore_n (pc := 53) C dX2_acceptsDigit_53 (jset_2 jc_i) (by decide) ?_
      refine jx_iload_n (pc := 54) C dX2_acceptsDigit_54 rfl ?_
      refine jx_gets (pc := 55) C hT1 kg_X2_46 dX2_acceptsDigit_55 ?_
      refine jx_aload_n (pc := 58) C dX2_acceptsDigit_58 rfl ?_
      refine jx_getIv (pc := 59) C kf_X2_22 rfl S.1 H.2.1 dX2_acceptsDigit_59 ?_
      refine jx_tld (pc := 62) C hT1 (by omega) (by decide) dX2_acceptsDigit_62 ?_
      refine jx_gets (pc := 63) C hT2 kg_X2_49 dX2_acceptsDigit_63 ?_
      refine jx_aload_n (pc := 66) C dX2_acceptsDigit_66 rfl ?_
      refine jx_getIv (pc := 67) C kf_X2_22 rfl S.1 H.2.1 dX2_acceptsDigit_67 ?_
      refine jx_tld (pc := 70) C hT2 (by omega) (by decide) dX2_acceptsDigit_70 ?_
      rw [jtLE_e hfl, jtMO_e hfl]
      refine jx_callD (pc := 71) C (go_X2_52 C  (Nat.le_of_ble_eq_true rfl) dX2_acceptsDigit_71) (t_X2_canBecome hbig (by omega) hhi) (by decide) (by decide) ⟨Nat.zero_le _, Nat.zero_le _⟩ ?_
      refine jx_if_ne (pc := 74) C (tgt := 79) dX2_acceptsDigit_74 (by decide) (fun c74 => (by exfalso; exact c74 (by rw [hnb]; rfl))) (fun c74 => ?_)
      refine jx_iconst (pc := 77) C dX2_acceptsDigit_77 nc_0 ?_
      exact jn_zret (pc := 78) C hr (rfl) (⟨_, rfl, by rw [hno]; rfl, fun s1 z => (by rw [hno] at z; cases z), fun _ _ _ => rfl, rfl, rfl⟩) dX2_acceptsDigit_78
    | true =>
      have hst : tStep s0 c0 = some (s0.1, s0.2.1 + 1, updN s0.2.2.1 s0.1 (tNext s0.2.1 (s0.2.2.1 s0.1) c0), s0.2.2.2) := tStep_d hd (by
        intro z
        rcases z with z | z
        · exact hz z
        · exact absurd (hnb.symm.trans z) (by decide))
      have hle := Nat.le_trans (nbeg_le hnb) hhi
      refine jx_istore_n (pc := 53) C dX2_acceptsDigit_53 (jset_2 jc_i) (by decide) ?_
      refine jx_iload_n (pc := 54) C dX2_acceptsDigit_54 rfl ?_
      refine jx_gets (pc := 55) C hT1 kg_X2_46 dX2_acceptsDigit_55 ?_
      refine jx_aload_n (pc := 58) C dX2_acceptsDigit_58 rfl ?_
      refine jx_getIv (pc := 59) C kf_X2_22 rfl S.1 H.2.1 dX2_acceptsDigit_59 ?_
      refine jx_tld (pc := 62) C hT1 (by omega) (by decide) dX2_acceptsDigit_62 ?_
      refine jx_gets (pc := 63) C hT2 kg_X2_49 dX2_acceptsDigit_63 ?_
      refine jx_aload_n (pc := 66) C dX2_acceptsDigit_66 rfl ?_
      refine jx_getIv (pc := 67) C kf_X2_22 rfl S.1 H.2.1 dX2_acceptsDigit_67 ?_
      refine jx_tld (pc := 70) C hT2 (by omega) (by decide) dX2_acceptsDigit_70 ?_
      rw [jtLE_e hfl, jtMO_e hfl]
      refine jx_callD (pc := 71) C (go_X2_52 C  (Nat.le_of_ble_eq_true rfl) dX2_acceptsDigit_71) (t_X2_canBecome hbig (by omega) hhi) (by decide) (by decide) ⟨Nat.zero_le _, Nat.zero_le _⟩ ?_
      refine jx_if_ne (pc := 74) C (tgt := 79) dX2_acceptsDigit_74 (by decide) (fun c74 => ?_) (fun c74 => (by exfalso; rw [hnb] at c74; exact absurd c74 (by decide)))
      refine jx_aload_n (pc := 79) C dX2_acceptsDigit_79 rfl ?_
      refine jx_getP (pc := 80) C kf_X2_9 rfl S.1 S.2.2 dX2_acceptsDigit_80 ?_
      refine jx_aload_n (pc := 83) C dX2_acceptsDigit_83 rfl ?_
      refine jx_getIv (pc := 84) C kf_X2_22 rfl S.1 H.2.1 dX2_acceptsDigit_84 ?_
      refine jx_iload_n (pc := 87) C dX2_acceptsDigit_87 rfl ?_
      refine jx_iast (pc := 88) C S.2.1 (by omega) (by decide) dX2_acceptsDigit_88 ?_
      refine jx_aload_n (pc := 89) C dX2_acceptsDigit_89 rfl ?_
      refine jx_dup (pc := 90) C dX2_acceptsDigit_90 rfl ?_
      refine jx_getIv (pc := 91) C kf_X2_25 rfl S.1 ((congrFun (jst_ne (by omega)) _).trans H.2.2.1) dX2_acceptsDigit_91 ?_
      refine jx_iconst (pc := 94) C dX2_acceptsDigit_94 nc_1 ?_
      refine jx_iaddN (pc := 95) C dX2_acceptsDigit_95 ?_
      refine jx_putI (pc := 96) C kf_X2_25 rfl rfl rfl rfl S.1 dX2_acceptsDigit_96 ?_
      refine jx_iconst (pc := 99) C dX2_acceptsDigit_99 nc_1 ?_
      exact jn_zret (pc := 100) C hr (rfl) (by
        refine ⟨_, rfl, by rw [hst]; rfl, fun s1 z h5 => ?_, fun b h1 h2 => by rw [jst_ne h1, jst_ne h2], rfl, rfl⟩
        rw [hst] at z
        obtain rfl := Option.some.inj z
        refine ⟨?_, ?_, ?_, hfl, fun j hj h3 => ?_, fun _ => by show updN _ _ _ _ ≤ _; rw [updN_s]; exact hle, (by show s0.2.1 + 1 < 1000; omega)⟩
        · rw [jst_eq, upd_n (by decide), jst_ne (by omega)]; exact H.1
        · rw [jst_eq, upd_n (by decide), jst_ne (by omega)]; exact H.2.1
        · rw [jst_eq, upd_s]
        · rw [jst_ne (by omega), jst_eq]
          by_cases hjf : j = s0.1
          · subst hjf; rw [upd_s]; show _ = nI (updN _ _ _ _); rw [updN_s]
          · rw [upd_n hjf]
            show _ = nI (updN s0.2.2.1 s0.1 _ j)
            rw [updN_n hjf]
            refine H.2.2.2.2.1 j hj ?_
            rcases h3 with z | z | z
            · exact Or.inl z
            · exact Or.inr (Or.inl z)
            · exact absurd z.1 hjf) dX2_acceptsDigit_100
  rcases Nat.eq_zero_or_pos s0.2.1 with hz | hz
  · have hd0 : I r 3 = nI 0 := H.2.2.1.trans (by rw [hz])
    have hTN : (tNext s0.2.1 (s0.2.2.1 s0.1) c0) = c0 - 48 := if_pos hz
    rw [hTN] at key
    refine jx_aload_n (pc := 0) C dX2_acceptsDigit_0 rfl ?_
    refine jx_callD (pc := 1) C (go_X2_43 C S.1 (Nat.le_of_ble_eq_true rfl) dX2_acceptsDigit_1) (t_X2_isField S H) (by decide) (by decide) ⟨Nat.zero_le _, Nat.zero_le _⟩ ?_
    refine jx_if_eq (pc := 4) C (tgt := 26) dX2_acceptsDigit_4 (by decide) (fun c4 => (by exfalso; revert c4; decide)) (fun c4 => ?_)
    refine jx_aload_n (pc := 7) C dX2_acceptsDigit_7 rfl ?_
    refine jx_getIv (pc := 8) C kf_X2_25 rfl S.1 hd0 dX2_acceptsDigit_8 ?_
    refine jx_if_le (pc := 11) C (tgt := 28) dX2_acceptsDigit_11 (by decide) (fun c11 => ?_) (fun c11 => (by exfalso; revert c11; decide))
    refine jx_aload_n (pc := 28) C dX2_acceptsDigit_28 rfl ?_
    refine jx_getIv (pc := 29) C kf_X2_25 rfl S.1 hd0 dX2_acceptsDigit_29 ?_
    refine jx_if_ne (pc := 32) C (tgt := 39) dX2_acceptsDigit_32 (by decide) (fun c32 => (by exfalso; revert c32; decide)) (fun c32 => ?_)
    refine jx_iload_n (pc := 35) C dX2_acceptsDigit_35 rfl ?_
    refine jx_goto (pc := 36) C (tgt := 53) dX2_acceptsDigit_36 (by decide) ?_
    exact key (fun z => z.1 hz) (by omega)
  · have hgv := H.2.2.2.2.2.1 (by omega)
    have hTN : (tNext s0.2.1 (s0.2.2.1 s0.1) c0) = s0.2.2.1 s0.1 * 10 + (c0 - 48) := if_neg (by omega)
    by_cases hg0 : s0.2.2.1 s0.1 = 0
    · have hno : tStep s0 c0 = none := tStep_z hd (Or.inl ⟨by omega, hg0⟩)
      refine jx_aload_n (pc := 0) C dX2_acceptsDigit_0 rfl ?_
      refine jx_callD (pc := 1) C (go_X2_43 C S.1 (Nat.le_of_ble_eq_true rfl) dX2_acceptsDigit_1) (t_X2_isField S H) (by decide) (by decide) ⟨Nat.zero_le _, Nat.zero_le _⟩ ?_
      refine jx_if_eq (pc := 4) C (tgt := 26) dX2_acceptsDigit_4 (by decide) (fun c4 => (by exfalso; revert c4; decide)) (fun c4 => ?_)
      refine jx_aload_n (pc := 7) C dX2_acceptsDigit_7 rfl ?_
      refine jx_getIv (pc := 8) C kf_X2_25 rfl S.1 H.2.2.1 dX2_acceptsDigit_8 ?_
      refine jx_if_le (pc := 11) C (tgt := 28) dX2_acceptsDigit_11 (by decide) (fun c11 => (by rw [nI_le0 (by omega)] at c11; exfalso; omega)) (fun c11 => ?_)
      rw [nI_le0 (by omega)] at c11
      refine jx_aload_n (pc := 14) C dX2_acceptsDigit_14 rfl ?_
      refine jx_getP (pc := 15) C kf_X2_9 rfl S.1 S.2.2 dX2_acceptsDigit_15 ?_
      refine jx_aload_n (pc := 18) C dX2_acceptsDigit_18 rfl ?_
      refine jx_getIv (pc := 19) C kf_X2_22 rfl S.1 H.2.1 dX2_acceptsDigit_19 ?_
      refine jx_ialdv (pc := 22) C S.2.1 (by omega) (by decide) (H.2.2.2.2.1 s0.1 (by omega) (Or.inr (Or.inr ⟨rfl, by omega⟩))) dX2_acceptsDigit_22 ?_
      refine jx_if_ne (pc := 23) C (tgt := 28) dX2_acceptsDigit_23 (by decide) (fun c23 => (by rw [nI_eq0 (by omega)] at c23; exfalso; omega)) (fun c23 => ?_)
      rw [nI_eq0 (by omega)] at c23
      refine jx_iconst (pc := 26) C dX2_acceptsDigit_26 nc_0 ?_
      exact jn_zret (pc := 27) C hr (rfl) (⟨_, rfl, by rw [hno]; rfl, fun s1 z => (by rw [hno] at z; cases z), fun _ _ _ => rfl, rfl, rfl⟩) dX2_acceptsDigit_27
    · rw [hTN] at key
      refine jx_aload_n (pc := 0) C dX2_acceptsDigit_0 rfl ?_
      refine jx_callD (pc := 1) C (go_X2_43 C S.1 (Nat.le_of_ble_eq_true rfl) dX2_acceptsDigit_1) (t_X2_isField S H) (by decide) (by decide) ⟨Nat.zero_le _, Nat.zero_le _⟩ ?_
      refine jx_if_eq (pc := 4) C (tgt := 26) dX2_acceptsDigit_4 (by decide) (fun c4 => (by exfalso; revert c4; decide)) (fun c4 => ?_)
      refine jx_aload_n (pc := 7) C dX2_acceptsDigit_7 rfl ?_
      refine jx_getIv (pc := 8) C kf_X2_25 rfl S.1 H.2.2.1 dX2_acceptsDigit_8 ?_
      refine jx_if_le (pc := 11) C (tgt := 28) dX2_acceptsDigit_11 (by decide) (fun c11 => (by rw [nI_le0 (by omega)] at c11; exfalso; omega)) (fun c11 => ?_)
      rw [nI_le0 (by omega)] at c11
      refine jx_aload_n (pc := 14) C dX2_acceptsDigit_14 rfl ?_
      refine jx_getP (pc := 15) C kf_X2_9 rfl S.1 S.2.2 dX2_acceptsDigit_15 ?_
      refine jx_aload_n (pc := 18) C dX2_acceptsDigit_18 rfl ?_
      refine jx_getIv (pc := 19) C kf_X2_22 rfl S.1 H.2.1 dX2_acceptsDigit_19 ?_
      refine jx_ialdv (pc := 22) C S.2.1 (by omega) (by decide) (H.2.2.2.2.1 s0.1 (by omega) (Or.inr (Or.inr ⟨rfl, by omega⟩))) dX2_acceptsDigit_22 ?_
      refine jx_if_ne (pc := 23) C (tgt := 28) dX2_acceptsDigit_23 (by decide) (fun c23 => ?_) (fun c23 => (by rw [nI_eq0 (by omega)] at c23; exfalso; omega))
      rw [nI_eq0 (by omega)] at c23
      refine jx_aload_n (pc := 28) C dX2_acceptsDigit_28 rfl ?_
      refine jx_getIv (pc := 29) C kf_X2_25 rfl S.1 H.2.2.1 dX2_acceptsDigit_29 ?_
      refine jx_if_ne (pc := 32) C (tgt := 39) dX2_acceptsDigit_32 (by decide) (fun c32 => ?_) (fun c32 => (by rw [nI_eq0 (by omega)] at c32; exfalso; omega))
      rw [nI_eq0 (by omega)] at c32
      refine jx_aload_n (pc := 39) C dX2_acceptsDigit_39 rfl ?_
      refine jx_getP (pc := 40) C kf_X2_9 rfl S.1 S.2.2 dX2_acceptsDigit_40 ?_
      refine jx_aload_n (pc := 43) C dX2_acceptsDigit_43 rfl ?_
      refine jx_getIv (pc := 44) C kf_X2_22 rfl S.1 H.2.1 dX2_acceptsDigit_44 ?_
      refine jx_ialdv (pc := 47) C S.2.1 (by omega) (by decide) (H.2.2.2.2.1 s0.1 (by omega) (Or.inr (Or.inr ⟨rfl, by omega⟩))) dX2_acceptsDigit_47 ?_
      refine jx_bipush (pc := 48) C dX2_acceptsDigit_48 nb_10 ?_
      refine jx_imulN (pc := 50) C dX2_acceptsDigit_50 ?_
      refine jx_iload_n (pc := 51) C dX2_acceptsDigit_51 rfl ?_
      refine jx_iaddN (pc := 52) C dX2_acceptsDigit_52 ?_
      exact key (fun z => hg0 z.2) (by omega)
theorem t_X2_acceptsDigit {l : Launch} {D : va_G} {cA : Nat → ClassId} {N0 : Nat} {Sh : jS} {I : jI} {P : jP} {L : jL} {r : Nat} (S : rS Sh P r) {s0 : tS} (H : rR I r s0) {c0 : Nat} (hd : 48 ≤ c0 ∧ c0 ≤ 57) : jN l D cA N0 2 yX2_acceptsDigit cX2_acceptsDigit 3 (some .boolean) [.ref r, .int (nI (c0 - 48))] Sh I P L (jNi (fun v' I' P' L' => v' = bI (tStep s0 c0).isSome ∧ (∀ s1, tStep s0 c0 = some s1 → s0.2.1 < 500 → rR I' r s1) ∧ rF I r I' ∧ P' = P ∧ L' = L)) := jN_of (by decide) (Nat.le_of_ble_eq_true rfl) (fun _ _ _ _ _ _ _ _ C hr => b_X2_acceptsDigit C hr S H hd)
def oF : Option Nat → Int32 | none => -1 | some k => nI k
set_option maxHeartbeats 4000000 in
theorem b_X2_fieldBehind {p : Program} {l : Launch} {e : Env} {s : State} {m : MethodId} {args : Array Value} {below : List Frame} {meth : Method} {c : Code} {D : va_G} {cA : Nat → ClassId} {N0 : Nat} {Sh : jS} {I : jI} {P : jP} {L : jL} (C : jC p (jRm 0 0 0) s m args meth c D cA N0 cX2_fieldBehind 2 RX2 0) (hr : meth.sig.returnType = (some .int)) {r : Nat} (S : rS Sh P r) {s0 : tS} (H : rR I r s0) {c0 : Nat} (hc : c0 < 1000) : jJ p l e (jRm 0 0 0) s m args below meth c D cA N0 2 (MQ below (jQn D cA N0 Sh (jD (some (.int (oF (tMark s0.1 c0)))) I P L)) args s 0 0 (fun q => N0 ≤ q)) (fun _ => True) Sh I P L 0 0 0 [some (.ref r), some (.int (nI c0))] [] := by
  have hfl := H.2.2.2.1
  by_cases h120 : c0 = 120
  · subst h120
    refine jx_iload_n (pc := 0) C dX2_fieldBehind_0 rfl ?_
    refine jx_lookup (pc := 1) C (off := 51) (tgt := 52) dX2_fieldBehind_1 (by decide) (by decide) (by decide) ?_
    refine jx_aload_n (pc := 52) C dX2_fieldBehind_52 rfl ?_
    refine jx_getIv (pc := 53) C kf_X2_22 rfl S.1 H.2.1 dX2_fieldBehind_53 ?_
    refine jx_if_ne (pc := 56) C (tgt := 63) dX2_fieldBehind_56 (by decide) (fun c56 => ?_) (fun c56 => ?_)
    · rw [nI_eq0 (by omega)] at c56
      refine jx_iconst (pc := 63) C dX2_fieldBehind_63 nc_m1 ?_
      exact jn_iret (pc := 64) C hr (jD_i (by show _ = oF (tMark s0.1 120); unfold tMark; first | (rw [show s0.1 = 0 by omega]; rfl) | (rw [show s0.1 = 1 by omega]; rfl) | (rw [show s0.1 = 2 by omega]; rfl) | (rw [show s0.1 = 3 by omega]; rfl) | (rw [show s0.1 = 4 by omega]; rfl) | (rcases (by omega : s0.1 = 0 ∨ s0.1 = 1 ∨ s0.1 = 2 ∨ s0.1 = 3 ∨ s0.1 = 4) with e | e | e | e | e <;> first | (exfalso; omega) | (rw [e]; rfl)))) dX2_fieldBehind_64
    · rw [nI_eq0 (by omega)] at c56
      refine jx_iconst (pc := 59) C dX2_fieldBehind_59 nc_1 ?_
      refine jx_goto (pc := 60) C (tgt := 64) dX2_fieldBehind_60 (by decide) ?_
      exact jn_iret (pc := 64) C hr (jD_i (by show _ = oF (tMark s0.1 120); unfold tMark; first | (rw [show s0.1 = 0 by omega]; rfl) | (rw [show s0.1 = 1 by omega]; rfl) | (rw [show s0.1 = 2 by omega]; rfl) | (rw [show s0.1 = 3 by omega]; rfl) | (rw [show s0.1 = 4 by omega]; rfl) | (rcases (by omega : s0.1 = 0 ∨ s0.1 = 1 ∨ s0.1 = 2 ∨ s0.1 = 3 ∨ s0.1 = 4) with e | e | e | e | e <;> first | (exfalso; omega) | (rw [e]; rfl)))) dX2_fieldBehind_64
  by_cases h99 : c0 = 99
  · subst h99
    refine jx_iload_n (pc := 0) C dX2_fieldBehind_0 rfl ?_
    refine jx_lookup (pc := 1) C (off := 64) (tgt := 65) dX2_fieldBehind_1 (by decide) (by decide) (by decide) ?_
    refine jx_aload_n (pc := 65) C dX2_fieldBehind_65 rfl ?_
    refine jx_getIv (pc := 66) C kf_X2_22 rfl S.1 H.2.1 dX2_fieldBehind_66 ?_
    refine jx_iconst (pc := 69) C dX2_fieldBehind_69 nc_1 ?_
    refine jx_icmp_ne (pc := 70) C (tgt := 77) dX2_fieldBehind_70 (by decide) (fun c70 => ?_) (fun c70 => ?_)
    · rw [nI_eq (by omega) (by omega)] at c70
      refine jx_iconst (pc := 77) C dX2_fieldBehind_77 nc_m1 ?_
      exact jn_iret (pc := 78) C hr (jD_i (by show _ = oF (tMark s0.1 99); unfold tMark; first | (rw [show s0.1 = 0 by omega]; rfl) | (rw [show s0.1 = 1 by omega]; rfl) | (rw [show s0.1 = 2 by omega]; rfl) | (rw [show s0.1 = 3 by omega]; rfl) | (rw [show s0.1 = 4 by omega]; rfl) | (rcases (by omega : s0.1 = 0 ∨ s0.1 = 1 ∨ s0.1 = 2 ∨ s0.1 = 3 ∨ s0.1 = 4) with e | e | e | e | e <;> first | (exfalso; omega) | (rw [e]; rfl)))) dX2_fieldBehind_78
    · rw [nI_eq (by omega) (by omega)] at c70
      refine jx_iconst (pc := 73) C dX2_fieldBehind_73 nc_2 ?_
      refine jx_goto (pc := 74) C (tgt := 78) dX2_fieldBehind_74 (by decide) ?_
      exact jn_iret (pc := 78) C hr (jD_i (by show _ = oF (tMark s0.1 99); unfold tMark; first | (rw [show s0.1 = 0 by omega]; rfl) | (rw [show s0.1 = 1 by omega]; rfl) | (rw [show s0.1 = 2 by omega]; rfl) | (rw [show s0.1 = 3 by omega]; rfl) | (rw [show s0.1 = 4 by omega]; rfl) | (rcases (by omega : s0.1 = 0 ∨ s0.1 = 1 ∨ s0.1 = 2 ∨ s0.1 = 3 ∨ s0.1 = 4) with e | e | e | e | e <;> first | (exfalso; omega) | (rw [e]; rfl)))) dX2_fieldBehind_78
  by_cases h36 : c0 = 36
  · subst h36
    refine jx_iload_n (pc := 0) C dX2_fieldBehind_0 rfl ?_
    refine jx_lookup (pc := 1) C (off := 78) (tgt := 79) dX2_fieldBehind_1 (by decide) (by decide) (by decide) ?_
    refine jx_aload_n (pc := 79) C dX2_fieldBehind_79 rfl ?_
    refine jx_getIv (pc := 80) C kf_X2_22 rfl S.1 H.2.1 dX2_fieldBehind_80 ?_
    refine jx_iconst (pc := 83) C dX2_fieldBehind_83 nc_2 ?_
    refine jx_icmp_ne (pc := 84) C (tgt := 91) dX2_fieldBehind_84 (by decide) (fun c84 => ?_) (fun c84 => ?_)
    · rw [nI_eq (by omega) (by omega)] at c84
      refine jx_iconst (pc := 91) C dX2_fieldBehind_91 nc_m1 ?_
      exact jn_iret (pc := 92) C hr (jD_i (by show _ = oF (tMark s0.1 36); unfold tMark; first | (rw [show s0.1 = 0 by omega]; rfl) | (rw [show s0.1 = 1 by omega]; rfl) | (rw [show s0.1 = 2 by omega]; rfl) | (rw [show s0.1 = 3 by omega]; rfl) | (rw [show s0.1 = 4 by omega]; rfl) | (rcases (by omega : s0.1 = 0 ∨ s0.1 = 1 ∨ s0.1 = 2 ∨ s0.1 = 3 ∨ s0.1 = 4) with e | e | e | e | e <;> first | (exfalso; omega) | (rw [e]; rfl)))) dX2_fieldBehind_92
    · rw [nI_eq (by omega) (by omega)] at c84
      refine jx_iconst (pc := 87) C dX2_fieldBehind_87 nc_3 ?_
      refine jx_goto (pc := 88) C (tgt := 92) dX2_fieldBehind_88 (by decide) ?_
      exact jn_iret (pc := 92) C hr (jD_i (by show _ = oF (tMark s0.1 36); unfold tMark; first | (rw [show s0.1 = 0 by omega]; rfl) | (rw [show s0.1 = 1 by omega]; rfl) | (rw [show s0.1 = 2 by omega]; rfl) | (rw [show s0.1 = 3 by omega]; rfl) | (rw [show s0.1 = 4 by omega]; rfl) | (rcases (by omega : s0.1 = 0 ∨ s0.1 = 1 ∨ s0.1 = 2 ∨ s0.1 = 3 ∨ s0.1 = 4) with e | e | e | e | e <;> first | (exfalso; omega) | (rw [e]; rfl)))) dX2_fieldBehind_92
  by_cases h64 : c0 = 64
  · subst h64
    refine jx_iload_n (pc := 0) C dX2_fieldBehind_0 rfl ?_
    refine jx_lookup (pc := 1) C (off := 92) (tgt := 93) dX2_fieldBehind_1 (by decide) (by decide) (by decide) ?_
    refine jx_aload_n (pc := 93) C dX2_fieldBehind_93 rfl ?_
    refine jx_getIv (pc := 94) C kf_X2_22 rfl S.1 H.2.1 dX2_fieldBehind_94 ?_
    refine jx_iconst (pc := 97) C dX2_fieldBehind_97 nc_2 ?_
    refine jx_icmp_eq (pc := 98) C (tgt := 109) dX2_fieldBehind_98 (by decide) (fun c98 => ?_) (fun c98 => ?_)
    · rw [nI_eq (by omega) (by omega)] at c98
      refine jx_iconst (pc := 109) C dX2_fieldBehind_109 nc_4 ?_
      refine jx_goto (pc := 110) C (tgt := 114) dX2_fieldBehind_110 (by decide) ?_
      exact jn_iret (pc := 114) C hr (jD_i (by show _ = oF (tMark s0.1 64); unfold tMark; first | (rw [show s0.1 = 0 by omega]; rfl) | (rw [show s0.1 = 1 by omega]; rfl) | (rw [show s0.1 = 2 by omega]; rfl) | (rw [show s0.1 = 3 by omega]; rfl) | (rw [show s0.1 = 4 by omega]; rfl) | (rcases (by omega : s0.1 = 0 ∨ s0.1 = 1 ∨ s0.1 = 2 ∨ s0.1 = 3 ∨ s0.1 = 4) with e | e | e | e | e <;> first | (exfalso; omega) | (rw [e]; rfl)))) dX2_fieldBehind_114
    · rw [nI_eq (by omega) (by omega)] at c98
      refine jx_aload_n (pc := 101) C dX2_fieldBehind_101 rfl ?_
      refine jx_getIv (pc := 102) C kf_X2_22 rfl S.1 H.2.1 dX2_fieldBehind_102 ?_
      refine jx_iconst (pc := 105) C dX2_fieldBehind_105 nc_3 ?_
      refine jx_icmp_ne (pc := 106) C (tgt := 113) dX2_fieldBehind_106 (by decide) (fun c106 => ?_) (fun c106 => ?_)
      · rw [nI_eq (by omega) (by omega)] at c106
        refine jx_iconst (pc := 113) C dX2_fieldBehind_113 nc_m1 ?_
        exact jn_iret (pc := 114) C hr (jD_i (by show _ = oF (tMark s0.1 64); unfold tMark; first | (rw [show s0.1 = 0 by omega]; rfl) | (rw [show s0.1 = 1 by omega]; rfl) | (rw [show s0.1 = 2 by omega]; rfl) | (rw [show s0.1 = 3 by omega]; rfl) | (rw [show s0.1 = 4 by omega]; rfl) | (rcases (by omega : s0.1 = 0 ∨ s0.1 = 1 ∨ s0.1 = 2 ∨ s0.1 = 3 ∨ s0.1 = 4) with e | e | e | e | e <;> first | (exfalso; omega) | (rw [e]; rfl)))) dX2_fieldBehind_114
      · rw [nI_eq (by omega) (by omega)] at c106
        refine jx_iconst (pc := 109) C dX2_fieldBehind_109 nc_4 ?_
        refine jx_goto (pc := 110) C (tgt := 114) dX2_fieldBehind_110 (by decide) ?_
        exact jn_iret (pc := 114) C hr (jD_i (by show _ = oF (tMark s0.1 64); unfold tMark; first | (rw [show s0.1 = 0 by omega]; rfl) | (rw [show s0.1 = 1 by omega]; rfl) | (rw [show s0.1 = 2 by omega]; rfl) | (rw [show s0.1 = 3 by omega]; rfl) | (rw [show s0.1 = 4 by omega]; rfl) | (rcases (by omega : s0.1 = 0 ∨ s0.1 = 1 ∨ s0.1 = 2 ∨ s0.1 = 3 ∨ s0.1 = 4) with e | e | e | e | e <;> first | (exfalso; omega) | (rw [e]; rfl)))) dX2_fieldBehind_114
  by_cases h59 : c0 = 59
  · subst h59
    refine jx_iload_n (pc := 0) C dX2_fieldBehind_0 rfl ?_
    refine jx_lookup (pc := 1) C (off := 114) (tgt := 115) dX2_fieldBehind_1 (by decide) (by decide) (by decide) ?_
    refine jx_aload_n (pc := 115) C dX2_fieldBehind_115 rfl ?_
    refine jx_getIv (pc := 116) C kf_X2_22 rfl S.1 H.2.1 dX2_fieldBehind_116 ?_
    refine jx_iconst (pc := 119) C dX2_fieldBehind_119 nc_2 ?_
    refine jx_icmp_lt (pc := 120) C (tgt := 127) dX2_fieldBehind_120 (by decide) (fun c120 => ?_) (fun c120 => ?_)
    · rw [nI_ltI (by omega) (by omega)] at c120
      refine jx_iconst (pc := 127) C dX2_fieldBehind_127 nc_m1 ?_
      exact jn_iret (pc := 128) C hr (jD_i (by show _ = oF (tMark s0.1 59); unfold tMark; first | (rw [show s0.1 = 0 by omega]; rfl) | (rw [show s0.1 = 1 by omega]; rfl) | (rw [show s0.1 = 2 by omega]; rfl) | (rw [show s0.1 = 3 by omega]; rfl) | (rw [show s0.1 = 4 by omega]; rfl) | (rcases (by omega : s0.1 = 0 ∨ s0.1 = 1 ∨ s0.1 = 2 ∨ s0.1 = 3 ∨ s0.1 = 4) with e | e | e | e | e <;> first | (exfalso; omega) | (rw [e]; rfl)))) dX2_fieldBehind_128
    · rw [nI_ltI (by omega) (by omega)] at c120
      refine jx_iconst (pc := 123) C dX2_fieldBehind_123 nc_0 ?_
      refine jx_goto (pc := 124) C (tgt := 128) dX2_fieldBehind_124 (by decide) ?_
      exact jn_iret (pc := 128) C hr (jD_i (by show _ = oF (tMark s0.1 59); unfold tMark; first | (rw [show s0.1 = 0 by omega]; rfl) | (rw [show s0.1 = 1 by omega]; rfl) | (rw [show s0.1 = 2 by omega]; rfl) | (rw [show s0.1 = 3 by omega]; rfl) | (rw [show s0.1 = 4 by omega]; rfl) | (rcases (by omega : s0.1 = 0 ∨ s0.1 = 1 ∨ s0.1 = 2 ∨ s0.1 = 3 ∨ s0.1 = 4) with e | e | e | e | e <;> first | (exfalso; omega) | (rw [e]; rfl)))) dX2_fieldBehind_128
  refine jx_iload_n (pc := 0) C dX2_fieldBehind_0 rfl ?_
  refine jx_lookup (pc := 1) C (off := 128) (tgt := 129) dX2_fieldBehind_1 (by decide) (by
    have hv : (nI c0).toInt = (c0 : Int) := nI_toInt (by omega)
    rw [hv]
    show Op.lookupswitch.offset [(36, 78), (59, 114), (64, 92), (99, 64), (120, 51)] 128 (c0 : Int) = 128
    rw [Op.lookupswitch.offset_cons, if_neg (by omega), Op.lookupswitch.offset_cons, if_neg (by omega), Op.lookupswitch.offset_cons, if_neg (by omega), Op.lookupswitch.offset_cons, if_neg (by omega), Op.lookupswitch.offset_cons, if_neg (by omega)]
    rfl) (by decide) ?_
  refine jx_iconst (pc := 129) C dX2_fieldBehind_129 nc_m1 ?_
  exact jn_iret (pc := 130) C hr (jD_i (by unfold tMark; rw [if_neg h120, if_neg h99, if_neg h36, if_neg h64, if_neg h59]; rfl)) dX2_fieldBehind_130
theorem t_X2_fieldBehind {l : Launch} {D : va_G} {cA : Nat → ClassId} {N0 : Nat} {Sh : jS} {I : jI} {P : jP} {L : jL} {r : Nat} (S : rS Sh P r) {s0 : tS} (H : rR I r s0) {c0 : Nat} (hc : c0 < 1000) : jN l D cA N0 0 yX2_fieldBehind cX2_fieldBehind 2 (some .int) [.ref r, .int (nI c0)] Sh I P L (jD (some (.int (oF (tMark s0.1 c0)))) I P L) := jN_of (by decide) (Nat.le_of_ble_eq_true rfl) (fun _ _ _ _ _ _ _ _ C hr => b_X2_fieldBehind C hr S H hc)
theorem tMark_le {f c k : Nat} (h : tMark f c = some k) : k ≤ 4 := by
  unfold tMark at h
  by_cases h1 : c = 120
  · rw [if_pos h1] at h; by_cases h2 : f = 0
    · rw [if_pos h2] at h; cases h; decide
    · rw [if_neg h2] at h; cases h
  rw [if_neg h1] at h
  by_cases h1 : c = 99
  · rw [if_pos h1] at h; by_cases h2 : f = 1
    · rw [if_pos h2] at h; cases h; decide
    · rw [if_neg h2] at h; cases h
  rw [if_neg h1] at h
  by_cases h1 : c = 36
  · rw [if_pos h1] at h; by_cases h2 : f = 2
    · rw [if_pos h2] at h; cases h; decide
    · rw [if_neg h2] at h; cases h
  rw [if_neg h1] at h
  by_cases h1 : c = 64
  · rw [if_pos h1] at h; by_cases h2 : f = 2 ∨ f = 3
    · rw [if_pos h2] at h; cases h; decide
    · rw [if_neg h2] at h; cases h
  rw [if_neg h1] at h
  by_cases h1 : c = 59
  · rw [if_pos h1] at h; by_cases h2 : 2 ≤ f
    · rw [if_pos h2] at h; cases h; decide
    · rw [if_neg h2] at h; cases h
  rw [if_neg h1] at h
  cases h
theorem tMark_up {f c k : Nat} (h : tMark f c = some (k + 1)) : f ≤ k + 1 ∧ ∀ j, j ≠ f → j < k + 1 → j < f ∨ 3 ≤ j := by
  unfold tMark at h
  by_cases h1 : c = 120
  · rw [if_pos h1] at h; by_cases h2 : f = 0
    · rw [if_pos h2] at h; cases h; exact ⟨by omega, fun j _ _ => by omega⟩
    · rw [if_neg h2] at h; cases h
  rw [if_neg h1] at h
  by_cases h1 : c = 99
  · rw [if_pos h1] at h; by_cases h2 : f = 1
    · rw [if_pos h2] at h; cases h; exact ⟨by omega, fun j _ _ => by omega⟩
    · rw [if_neg h2] at h; cases h
  rw [if_neg h1] at h
  by_cases h1 : c = 36
  · rw [if_pos h1] at h; by_cases h2 : f = 2
    · rw [if_pos h2] at h; cases h; exact ⟨by omega, fun j _ _ => by omega⟩
    · rw [if_neg h2] at h; cases h
  rw [if_neg h1] at h
  by_cases h1 : c = 64
  · rw [if_pos h1] at h; by_cases h2 : f = 2 ∨ f = 3
    · rw [if_pos h2] at h; cases h; exact ⟨by omega, fun j _ _ => by omega⟩
    · rw [if_neg h2] at h; cases h
  rw [if_neg h1] at h
  by_cases h1 : c = 59
  · rw [if_pos h1] at h; by_cases h2 : 2 ≤ f
    · rw [if_pos h2] at h; cases h
    · rw [if_neg h2] at h; cases h
  rw [if_neg h1] at h
  cases h
set_option maxHeartbeats 4000000 in
theorem b_X2_acceptsMark {p : Program} {l : Launch} {e : Env} {s : State} {m : MethodId} {args : Array Value} {below : List Frame} {meth : Method} {c : Code} {D : va_G} {cA : Nat → ClassId} {N0 : Nat} {Sh : jS} {I : jI} {P : jP} {L : jL} (C : jC p (jRm 1 0 0) s m args meth c D cA N0 cX2_acceptsMark 3 RX2 1) (hr : meth.sig.returnType = (some .boolean)) {r : Nat} (S : rS Sh P r) {s0 : tS} (H : rR I r s0) {c0 : Nat} (hc : c0 < 1000) (hd : ¬ (48 ≤ c0 ∧ c0 ≤ 57)) (hs : tStands s0 = true) : jJ p l e (jRm 1 0 0) s m args below meth c D cA N0 3 (MQ below (jQn D cA N0 Sh (jNi (fun v' I' P' L' => v' = bI (tStep s0 c0).isSome ∧ (∀ s1, tStep s0 c0 = some s1 → rR I' r s1) ∧ rF I r I' ∧ P' = P ∧ L' = L))) args s 0 0 (fun q => N0 ≤ q)) (fun _ => True) Sh I P L 0 0 0 [some (.ref r), some (.int (nI c0)), none] [] := by
  cases hm : tMark s0.1 c0 with
  | none =>
    have hno : tStep s0 c0 = none := by unfold tStep; rw [if_neg hd, if_pos hs, hm]
    refine jx_aload_n (pc := 0) C dX2_acceptsMark_0 rfl ?_
    refine jx_iload_n (pc := 1) C dX2_acceptsMark_1 rfl ?_
    refine jx_callD (pc := 2) C (go_X2_55 C S.1 (Nat.le_of_ble_eq_true rfl) dX2_acceptsMark_2) (t_X2_fieldBehind S H hc) (by decide) (by decide) ⟨Nat.zero_le _, Nat.zero_le _⟩ ?_
    refine jx_top C (show Value.int (oF (tMark s0.1 c0)) = .int (-1 : Int32) by rw [hm]; rfl) ?_
    refine jx_istore_n (pc := 5) C dX2_acceptsMark_5 (jset_2 jc_i) (by decide) ?_
    refine jx_iload_n (pc := 6) C dX2_acceptsMark_6 rfl ?_
    refine jx_iconst (pc := 7) C dX2_acceptsMark_7 nc_m1 ?_
    refine jx_icmp_ne (pc := 8) C (tgt := 13) dX2_acceptsMark_8 (by decide) (fun c8 => (by exfalso; revert c8; decide)) (fun c8 => ?_)
    refine jx_iconst (pc := 11) C dX2_acceptsMark_11 nc_0 ?_
    exact jn_zret (pc := 12) C hr (rfl) (⟨_, rfl, by rw [hno]; rfl, fun s1 z => (by rw [hno] at z; cases z), fun _ _ _ => rfl, rfl, rfl⟩) dX2_acceptsMark_12
  | some k =>
    have hk4 := tMark_le hm
    rcases Nat.eq_zero_or_pos k with hz | hz
    · subst hz
      have hst := tStep_p hd hs hm
      refine jx_aload_n (pc := 0) C dX2_acceptsMark_0 rfl ?_
      refine jx_iload_n (pc := 1) C dX2_acceptsMark_1 rfl ?_
      refine jx_callD (pc := 2) C (go_X2_55 C S.1 (Nat.le_of_ble_eq_true rfl) dX2_acceptsMark_2) (t_X2_fieldBehind S H hc) (by decide) (by decide) ⟨Nat.zero_le _, Nat.zero_le _⟩ ?_
      refine jx_top C (show Value.int (oF (tMark s0.1 c0)) = .int (nI 0) by rw [hm]; rfl) ?_
      refine jx_istore_n (pc := 5) C dX2_acceptsMark_5 (jset_2 jc_i) (by decide) ?_
      refine jx_iload_n (pc := 6) C dX2_acceptsMark_6 rfl ?_
      refine jx_iconst (pc := 7) C dX2_acceptsMark_7 nc_m1 ?_
      refine jx_icmp_ne (pc := 8) C (tgt := 13) dX2_acceptsMark_8 (by decide) (fun c8 => ?_) (fun c8 => (by exfalso; revert c8; decide))
      refine jx_iload_n (pc := 13) C dX2_acceptsMark_13 rfl ?_
      refine jx_if_ne (pc := 14) C (tgt := 21) dX2_acceptsMark_14 (by decide) (fun c14 => (by exfalso; revert c14; decide)) (fun c14 => ?_)
      refine jx_aload_n (pc := 17) C dX2_acceptsMark_17 rfl ?_
      refine jx_callDv (pc := 18) C (go_X2_19 C S.1 (Nat.le_of_ble_eq_true rfl) dX2_acceptsMark_18) (t_X2_startPart S) (by decide) (by decide) ⟨Nat.zero_le _, Nat.zero_le _⟩ ?_
      refine jx_aload_n (pc := 21) C dX2_acceptsMark_21 rfl ?_
      refine jx_iload_n (pc := 22) C dX2_acceptsMark_22 rfl ?_
      refine jx_putI (pc := 23) C kf_X2_22 rfl rfl rfl rfl S.1 dX2_acceptsMark_23 ?_
      refine jx_aload_n (pc := 26) C dX2_acceptsMark_26 rfl ?_
      refine jx_iconst (pc := 27) C dX2_acceptsMark_27 nc_0 ?_
      refine jx_putI (pc := 28) C kf_X2_25 rfl rfl rfl rfl S.1 dX2_acceptsMark_28 ?_
      refine jx_iconst (pc := 31) C dX2_acceptsMark_31 nc_1 ?_
      exact jn_zret (pc := 32) C hr (rfl) (by
        refine ⟨_, rfl, by rw [hst]; rfl, fun s1 z => ?_, fun b h1 h2 => by rw [jst_ne h1, jst_ne h1]; exact rF_start b h1 h2, rfl, rfl⟩
        rw [hst] at z
        obtain rfl := Option.some.inj z
        have R := rR_start (r := r) (I := I) (q := s0.2.2.2.1 + 1) (prev := fun i => if i = s0.2.2.2.1 then s0.2.2.1 else s0.2.2.2.2 i) (by rw [H.1, nI_add])
        obtain ⟨a1, a2, a3, a4, a5, a6, a7⟩ := R
        exact ⟨by rw [jst_eq, upd_n (by decide), jst_eq, upd_n (by decide)]; exact a1, by rw [jst_eq, upd_n (by decide), jst_eq, upd_s], by rw [jst_eq, upd_s], a4, fun j hj h3 => by rw [jst_ne (by omega), jst_ne (by omega)]; exact a5 j hj h3, a6, a7⟩) dX2_acceptsMark_32
    · obtain ⟨k, rfl⟩ : ∃ q, k = q + 1 := ⟨k - 1, by omega⟩
      have hst := tStep_m hd hs hm
      obtain ⟨u1, u2⟩ := tMark_up hm
      obtain ⟨v1, v2, v3⟩ := tStands_i (k := s0.1) (dg := s0.2.1) (g := s0.2.2.1) (r := s0.2.2.2) hs
      refine jx_aload_n (pc := 0) C dX2_acceptsMark_0 rfl ?_
      refine jx_iload_n (pc := 1) C dX2_acceptsMark_1 rfl ?_
      refine jx_callD (pc := 2) C (go_X2_55 C S.1 (Nat.le_of_ble_eq_true rfl) dX2_acceptsMark_2) (t_X2_fieldBehind S H hc) (by decide) (by decide) ⟨Nat.zero_le _, Nat.zero_le _⟩ ?_
      refine jx_top C (show Value.int (oF (tMark s0.1 c0)) = .int (nI (k + 1)) by rw [hm]; rfl) ?_
      refine jx_istore_n (pc := 5) C dX2_acceptsMark_5 (jset_2 jc_i) (by decide) ?_
      refine jx_iload_n (pc := 6) C dX2_acceptsMark_6 rfl ?_
      refine jx_iconst (pc := 7) C dX2_acceptsMark_7 nc_m1 ?_
      refine jx_icmp_ne (pc := 8) C (tgt := 13) dX2_acceptsMark_8 (by decide) (fun c8 => ?_) (fun c8 => (by exfalso; exact (nI_m1 (by omega)).mp c8))
      refine jx_iload_n (pc := 13) C dX2_acceptsMark_13 rfl ?_
      refine jx_if_ne (pc := 14) C (tgt := 21) dX2_acceptsMark_14 (by decide) (fun c14 => ?_) (fun c14 => (by rw [nI_eq0 (by omega)] at c14; exfalso; omega))
      rw [nI_eq0 (by omega)] at c14
      refine jx_aload_n (pc := 21) C dX2_acceptsMark_21 rfl ?_
      refine jx_iload_n (pc := 22) C dX2_acceptsMark_22 rfl ?_
      refine jx_putI (pc := 23) C kf_X2_22 rfl rfl rfl rfl S.1 dX2_acceptsMark_23 ?_
      refine jx_aload_n (pc := 26) C dX2_acceptsMark_26 rfl ?_
      refine jx_iconst (pc := 27) C dX2_acceptsMark_27 nc_0 ?_
      refine jx_putI (pc := 28) C kf_X2_25 rfl rfl rfl rfl S.1 dX2_acceptsMark_28 ?_
      refine jx_iconst (pc := 31) C dX2_acceptsMark_31 nc_1 ?_
      exact jn_zret (pc := 32) C hr (rfl) (by
        refine ⟨_, rfl, by rw [hst]; rfl, fun s1 z => ?_, fun b h1 h2 => by rw [jst_ne h1, jst_ne h1], rfl, rfl⟩
        rw [hst] at z
        obtain rfl := Option.some.inj z
        refine ⟨by rw [jst_eq, upd_n (by decide), jst_eq, upd_n (by decide)]; exact H.1, by rw [jst_eq, upd_n (by decide), jst_eq, upd_s], by rw [jst_eq, upd_s], hk4, fun j hj h3 => ?_, fun z => absurd rfl z, (by decide : (0 : Nat) < 1000)⟩
        rw [jst_ne (by omega), jst_ne (by omega)]
        refine H.2.2.2.2.1 j hj ?_
        rcases h3 with z | z | z
        · exact Or.inl z
        · by_cases hjf : j = s0.1
          · exact Or.inr (Or.inr ⟨hjf, v1⟩)
          · rcases u2 j hjf z with y | y
            · exact Or.inr (Or.inl y)
            · exact Or.inl y
        · exact absurd rfl z.2) dX2_acceptsMark_32
theorem t_X2_acceptsMark {l : Launch} {D : va_G} {cA : Nat → ClassId} {N0 : Nat} {Sh : jS} {I : jI} {P : jP} {L : jL} {r : Nat} (S : rS Sh P r) {s0 : tS} (H : rR I r s0) {c0 : Nat} (hc : c0 < 1000) (hd : ¬ (48 ≤ c0 ∧ c0 ≤ 57)) (hs : tStands s0 = true) : jN l D cA N0 1 yX2_acceptsMark cX2_acceptsMark 3 (some .boolean) [.ref r, .int (nI c0)] Sh I P L (jNi (fun v' I' P' L' => v' = bI (tStep s0 c0).isSome ∧ (∀ s1, tStep s0 c0 = some s1 → rR I' r s1) ∧ rF I r I' ∧ P' = P ∧ L' = L)) := jN_of (by decide) (Nat.le_of_ble_eq_true rfl) (fun _ _ _ _ _ _ _ _ C hr => b_X2_acceptsMark C hr S H hc hd hs)
set_option maxHeartbeats 4000000 in
theorem b_X2_accepts {p : Program} {l : Launch} {e : Env} {s : State} {m : MethodId} {args : Array Value} {below : List Frame} {meth : Method} {c : Code} {D : va_G} {cA : Nat → ClassId} {N0 : Nat} {Sh : jS} {I : jI} {P : jP} {L : jL} (C : jC p (jRm 3 0 0) s m args meth c D cA N0 cX2_accepts 2 RX2 3) (hr : meth.sig.returnType = (some .boolean)) {r : Nat} (S : rS Sh P r) {s0 : tS} (H : rR I r s0) {c0 : Nat} (hc : c0 < 1000) (h5 : s0.2.1 < 500) : jJ p l e (jRm 3 0 0) s m args below meth c D cA N0 2 (MQ below (jQn D cA N0 Sh (jNi (fun v' I' P' L' => v' = bI (tStep s0 c0).isSome ∧ (∀ s1, tStep s0 c0 = some s1 → rR I' r s1) ∧ rF I r I' ∧ P' = P ∧ L' = L))) args s 0 0 (fun q => N0 ≤ q)) (fun _ => True) Sh I P L 0 0 0 [some (.ref r), some (.int (nI c0))] [] := by
  by_cases hd : 48 ≤ c0 ∧ c0 ≤ 57
  · refine jx_iload_n (pc := 0) C dX2_accepts_0 rfl ?_
    refine jx_bipush (pc := 1) C dX2_accepts_1 nb_48 ?_
    refine jx_icmp_lt (pc := 3) C (tgt := 21) dX2_accepts_3 (by decide) (fun c3 => (by rw [nI_ltI (by omega) (by omega)] at c3; exfalso; omega)) (fun c3 => ?_)
    rw [nI_ltI (by omega) (by omega)] at c3
    refine jx_iload_n (pc := 6) C dX2_accepts_6 rfl ?_
    refine jx_bipush (pc := 7) C dX2_accepts_7 nb_57 ?_
    refine jx_icmp_gt (pc := 9) C (tgt := 21) dX2_accepts_9 (by decide) (fun c9 => (by rw [nI_ltI (by omega) (by omega)] at c9; exfalso; omega)) (fun c9 => ?_)
    rw [nI_ltI (by omega) (by omega)] at c9
    refine jx_aload_n (pc := 12) C dX2_accepts_12 rfl ?_
    refine jx_iload_n (pc := 13) C dX2_accepts_13 rfl ?_
    refine jx_bipush (pc := 14) C dX2_accepts_14 nb_48 ?_
    refine jx_isubN (pc := 16) C (by omega) dX2_accepts_16 ?_
    refine jx_calli (pc := 17) C (go_X2_28 C S.1 (Nat.le_of_ble_eq_true rfl) dX2_accepts_17) (t_X2_acceptsDigit S H hd) (by decide) (by decide) ⟨Nat.zero_le _, Nat.zero_le _⟩ (fun r17 I17 P17 L17 q17 => ?_)
    obtain ⟨rfl, z1, z2, rfl, rfl⟩ := q17
    exact jn_zret (pc := 20) C hr (bI_nar _) (⟨_, rfl, rfl, fun s1 z => z1 s1 z h5, z2, rfl, rfl⟩) dX2_accepts_20
  · have key : jJ p l e (jRm 3 0 0) s m args below meth c D cA N0 2 (MQ below (jQn D cA N0 Sh (jNi (fun v' I' P' L' => v' = bI (tStep s0 c0).isSome ∧ (∀ s1, tStep s0 c0 = some s1 → rR I' r s1) ∧ rF I r I' ∧ P' = P ∧ L' = L))) args s 0 0 (fun q => N0 ≤ q)) (fun _ => True) Sh I P L 0 0 21 [some (.ref r), some (.int (nI c0))] [] := by
      cases hs : tStands s0 with
      | false =>
        have hno : tStep s0 c0 = none := by unfold tStep; rw [if_neg hd, if_neg (by rw [hs]; decide)]
        refine jx_aload_n (pc := 21) C dX2_accepts_21 rfl ?_
        refine jx_callD (pc := 22) C (go_X2_32 C S.1 (Nat.le_of_ble_eq_true rfl) dX2_accepts_22) (t_X2_numberStands S H) (by decide) (by decide) ⟨Nat.zero_le _, Nat.zero_le _⟩ ?_
        refine jx_if_eq (pc := 25) C (tgt := 40) dX2_accepts_25 (by decide) (fun c25 => ?_) (fun c25 => (by exfalso; exact c25 (by rw [hs]; rfl)))
        refine jx_iconst (pc := 40) C dX2_accepts_40 nc_0 ?_
        exact jn_zret (pc := 41) C hr (rfl) (⟨_, rfl, by rw [hno]; rfl, fun s1 z => (by rw [hno] at z; cases z), fun _ _ _ => rfl, rfl, rfl⟩) dX2_accepts_41
      | true =>
        refine jx_aload_n (pc := 21) C dX2_accepts_21 rfl ?_
        refine jx_callD (pc := 22) C (go_X2_32 C S.1 (Nat.le_of_ble_eq_true rfl) dX2_accepts_22) (t_X2_numberStands S H) (by decide) (by decide) ⟨Nat.zero_le _, Nat.zero_le _⟩ ?_
        refine jx_if_eq (pc := 25) C (tgt := 40) dX2_accepts_25 (by decide) (fun c25 => (by exfalso; rw [hs] at c25; exact absurd c25 (by decide))) (fun c25 => ?_)
        refine jx_aload_n (pc := 28) C dX2_accepts_28 rfl ?_
        refine jx_iload_n (pc := 29) C dX2_accepts_29 rfl ?_
        refine jx_calli (pc := 30) C (go_X2_36 C S.1 (Nat.le_of_ble_eq_true rfl) dX2_accepts_30) (t_X2_acceptsMark S H hc hd hs) (by decide) (by decide) ⟨Nat.zero_le _, Nat.zero_le _⟩ (fun r30 I30 P30 L30 q30 => ?_)
        obtain ⟨rfl, z1, z2, rfl, rfl⟩ := q30
        refine jx_if_eq (pc := 33) C (tgt := 40) dX2_accepts_33 (by decide) (fun c33 => ?_) (fun c33 => ?_)
        · refine jx_iconst (pc := 40) C dX2_accepts_40 nc_0 ?_
          exact jn_zret (pc := 41) C hr (rfl) (⟨_, rfl, bI_ff (bI_eq0.mp c33), z1, z2, rfl, rfl⟩) dX2_accepts_41
        · refine jx_iconst (pc := 36) C dX2_accepts_36 nc_1 ?_
          refine jx_goto (pc := 37) C (tgt := 41) dX2_accepts_37 (by decide) ?_
          exact jn_zret (pc := 41) C hr (rfl) (⟨_, rfl, bI_tt (Bool.of_not_eq_false (fun z => c33 (by rw [z]; rfl))), z1, z2, rfl, rfl⟩) dX2_accepts_41
    refine jx_iload_n (pc := 0) C dX2_accepts_0 rfl ?_
    refine jx_bipush (pc := 1) C dX2_accepts_1 nb_48 ?_
    refine jx_icmp_lt (pc := 3) C (tgt := 21) dX2_accepts_3 (by decide) (fun c3 => ?_) (fun c3 => ?_)
    · rw [nI_ltI (by omega) (by omega)] at c3
      exact key
    · rw [nI_ltI (by omega) (by omega)] at c3
      refine jx_iload_n (pc := 6) C dX2_accepts_6 rfl ?_
      refine jx_bipush (pc := 7) C dX2_accepts_7 nb_57 ?_
      refine jx_icmp_gt (pc := 9) C (tgt := 21) dX2_accepts_9 (by decide) (fun c9 => ?_) (fun c9 => ?_)
      · rw [nI_ltI (by omega) (by omega)] at c9
        exact key
      · rw [nI_ltI (by omega) (by omega)] at c9
        exact absurd ⟨by omega, by omega⟩ hd
theorem t_X2_accepts {l : Launch} {D : va_G} {cA : Nat → ClassId} {N0 : Nat} {Sh : jS} {I : jI} {P : jP} {L : jL} {r : Nat} (S : rS Sh P r) {s0 : tS} (H : rR I r s0) {c0 : Nat} (hc : c0 < 1000) (h5 : s0.2.1 < 500) : jN l D cA N0 3 yX2_accepts cX2_accepts 2 (some .boolean) [.ref r, .int (nI c0)] Sh I P L (jNi (fun v' I' P' L' => v' = bI (tStep s0 c0).isSome ∧ (∀ s1, tStep s0 c0 = some s1 → rR I' r s1) ∧ rF I r I' ∧ P' = P ∧ L' = L)) := jN_of (by decide) (Nat.le_of_ble_eq_true rfl) (fun _ _ _ _ _ _ _ _ C hr => b_X2_accepts C hr S H hc h5)
