set_option maxHeartbeats 4000000 in
theorem lp_X0_dismissB {p : Program} {l : Launch} {e : Env} {s : State} {m : MethodId} {args : Array Value} {below : List Frame} {meth : Method} {c : Code} {D : va_G} {cA : Nat → ClassId} {N0 : Nat} {Sh : jS} {I : jI} {P : jP} {L : jL} {Qf : State → Prop} (C : jC p (jRm 0 0 0) s m args meth c D cA N0 cX0_dismiss 3 RX0 0) {h : Nat} {og : Nat → Nat} {f : sF} (S : hS Sh h) (T : hP P h) (G : hG P h og) (H : hR I h og f) (hm : f 5 = nI (smany f)) (hk : smany f ≤ 10) {o : Nat} (ho : o < 10) (hx : jJ p l e (jRm 0 0 0) s m args below meth c D cA N0 3 Qf (fun _ => True) Sh I (va_up P (h + 2) (rowb (P (h + 2)) o 9)) L 0 0 52 [some (.ref h), some (.ref (h + 25 + 2 * og o)), some (.int (nI (9)))] []) : ∀ d i, o ≤ i → i + d = 9 → jJ p l e (jRm 0 0 0) s m args below meth c D cA N0 3 Qf (fun _ => True) Sh I (va_up P (h + 2) (rowb (P (h + 2)) o i)) L 0 0 2 [some (.ref h), some (.ref (h + 25 + 2 * og o)), some (.int (nI (i)))] [] := by
  have hb : ∀ (m b : Nat), b ≠ h + 2 → va_up P (h + 2) (rowb (P (h + 2)) o m) b = P b := fun m b h1 => va_up_n h1
  intro d
  induction d with
  | zero =>
    intro i h1 hi
    obtain rfl : i = 9 := by omega
    refine jx_iload_n (pc := 2) C dX0_dismiss_2 rfl ?_
    refine jx_iconst (pc := 3) C dX0_dismiss_3 nc_1 ?_
    refine jx_iaddN (pc := 4) C dX0_dismiss_4 ?_
    refine jx_aload_n (pc := 5) C dX0_dismiss_5 rfl ?_
    refine jx_getP (pc := 6) C kf_X0_19 rfl S.hall ((congrFun (hb _ _ (by omega)) _).trans T.oa) dX0_dismiss_6 ?_
    refine jx_alen13 (pc := 9) C S.oa dX0_dismiss_9 ?_
    refine jx_icmp_ge (pc := 10) C (tgt := 52) dX0_dismiss_10 (by decide) (fun c10 => ?_) (fun c10 => (by rw [nI_leI (by omega) (by omega)] at c10; exfalso; omega))
    rw [nI_leI (by omega) (by omega)] at c10
    exact hx
  | succ d ih =>
    intro i h1 hi
    have e0 : (va_up P (h + 2) (rowb (P (h + 2)) o i)) (h + 2) i = some (h + 25 + 2 * og o) := by rw [va_up_s, rowb_m h1]; exact G.od ho
    have e1 : (va_up P (h + 2) (rowb (P (h + 2)) o i)) (h + 2) (i + 1) = some (h + 25 + 2 * og (i + 1)) := by rw [va_up_s, rowb_m1 h1]; exact G.od (by omega)
    have e2 : jstP (va_up P (h + 2) (rowb (P (h + 2)) o i)) (h + 2) i (some (h + 25 + 2 * og (i + 1))) = va_up P (h + 2) (va_up (rowb (P (h + 2)) o i) i (P (h + 2) (i + 1))) := by rw [jstP_up, G.od (show i + 1 < 10 by omega)]
    have e3 : jstP (va_up P (h + 2) (va_up (rowb (P (h + 2)) o i) i (P (h + 2) (i + 1)))) (h + 2) (i + 1) (some (h + 25 + 2 * og o)) = (va_up P (h + 2) (rowb (P (h + 2)) o (i + 1))) := by rw [jstP_up, ← G.od ho, rowb_s h1]
    refine jx_iload_n (pc := 2) C dX0_dismiss_2 rfl ?_
    refine jx_iconst (pc := 3) C dX0_dismiss_3 nc_1 ?_
    refine jx_iaddN (pc := 4) C dX0_dismiss_4 ?_
    refine jx_aload_n (pc := 5) C dX0_dismiss_5 rfl ?_
    refine jx_getP (pc := 6) C kf_X0_19 rfl S.hall ((congrFun (hb _ _ (by omega)) _).trans T.oa) dX0_dismiss_6 ?_
    refine jx_alen13 (pc := 9) C S.oa dX0_dismiss_9 ?_
    refine jx_icmp_ge (pc := 10) C (tgt := 52) dX0_dismiss_10 (by decide) (fun c10 => (by rw [nI_leI (by omega) (by omega)] at c10; exfalso; omega)) (fun c10 => ?_)
    rw [nI_leI (by omega) (by omega)] at c10
    refine jx_aload_n (pc := 13) C dX0_dismiss_13 rfl ?_
    refine jx_getP (pc := 14) C kf_X0_19 rfl S.hall ((congrFun (hb _ _ (by omega)) _).trans T.oa) dX0_dismiss_14 ?_
    refine jx_iload_n (pc := 17) C dX0_dismiss_17 rfl ?_
    refine jx_aald13 (pc := 18) C S.oa (by omega) (by decide) e0 dX0_dismiss_18 ?_
    refine jx_aload_n (pc := 19) C dX0_dismiss_19 rfl ?_
    refine jx_acmp_ne (rx := some _) (ry := some _) (pc := 20) C (tgt := 46) dX0_dismiss_20 (by decide) (fun c20 => (by exfalso; exact c20 rfl)) (fun c20 => ?_)
    refine jx_aload_n (pc := 23) C dX0_dismiss_23 rfl ?_
    refine jx_getP (pc := 24) C kf_X0_19 rfl S.hall ((congrFun (hb _ _ (by omega)) _).trans T.oa) dX0_dismiss_24 ?_
    refine jx_iload_n (pc := 27) C dX0_dismiss_27 rfl ?_
    refine jx_aload_n (pc := 28) C dX0_dismiss_28 rfl ?_
    refine jx_getP (pc := 29) C kf_X0_19 rfl S.hall ((congrFun (hb _ _ (by omega)) _).trans T.oa) dX0_dismiss_29 ?_
    refine jx_iload_n (pc := 32) C dX0_dismiss_32 rfl ?_
    refine jx_iconst (pc := 33) C dX0_dismiss_33 nc_1 ?_
    refine jx_iaddN (pc := 34) C dX0_dismiss_34 ?_
    refine jx_aald13 (pc := 35) C S.oa (by omega) (by decide) e1 dX0_dismiss_35 ?_
    refine jx_aast13 (pc := 36) C S.oa (S.od (G.lt (i + 1) (by omega))) (by omega) (by decide) dX0_dismiss_36 ?_
    rw [e2]
    refine jx_aload_n (pc := 37) C dX0_dismiss_37 rfl ?_
    refine jx_getP (pc := 38) C kf_X0_19 rfl S.hall ((congrFun (va_up_n (by omega)) _).trans T.oa) dX0_dismiss_38 ?_
    refine jx_iload_n (pc := 41) C dX0_dismiss_41 rfl ?_
    refine jx_iconst (pc := 42) C dX0_dismiss_42 nc_1 ?_
    refine jx_iaddN (pc := 43) C dX0_dismiss_43 ?_
    refine jx_aload_n (pc := 44) C dX0_dismiss_44 rfl ?_
    refine jx_aast13 (pc := 45) C S.oa (S.od (G.lt o (by omega))) (by omega) (by decide) dX0_dismiss_45 ?_
    rw [e3]
    refine jx_iincN (pc := 46) C dX0_dismiss_46 rfl (jset_2 jc_r) (by decide) ?_
    refine jx_goto (pc := 49) C (tgt := 2) dX0_dismiss_49 (by decide) ?_
    exact ih (i + 1) (by omega) (by omega)
set_option maxHeartbeats 4000000 in
theorem lp_X0_dismissA {p : Program} {l : Launch} {e : Env} {s : State} {m : MethodId} {args : Array Value} {below : List Frame} {meth : Method} {c : Code} {D : va_G} {cA : Nat → ClassId} {N0 : Nat} {Sh : jS} {I : jI} {P : jP} {L : jL} {Qf : State → Prop} (C : jC p (jRm 0 0 0) s m args meth c D cA N0 cX0_dismiss 3 RX0 0) {h : Nat} {og : Nat → Nat} {f : sF} (S : hS Sh h) (T : hP P h) (G : hG P h og) (H : hR I h og f) (hm : f 5 = nI (smany f)) (hk : smany f ≤ 10) {o : Nat} (ho : o < 10) (hx : jJ p l e (jRm 0 0 0) s m args below meth c D cA N0 3 Qf (fun _ => True) Sh I (va_up P (h + 2) (rowb (P (h + 2)) o 9)) L 0 0 52 [some (.ref h), some (.ref (h + 25 + 2 * og o)), some (.int (nI (9)))] []) : ∀ d i, i + d = o → jJ p l e (jRm 0 0 0) s m args below meth c D cA N0 3 Qf (fun _ => True) Sh I P L 0 0 2 [some (.ref h), some (.ref (h + 25 + 2 * og o)), some (.int (nI (i)))] [] := by
  intro d
  induction d with
  | zero =>
    intro i hi
    obtain rfl : i = o := by omega
    have h1 := lp_X0_dismissB C S T G H hm hk ho hx (9 - i) i (Nat.le_refl i) (by omega)
    rw [rowb_0, va_up_id] at h1
    exact h1
  | succ d ih =>
    intro i hi
    have hne : ¬ (some (h + 25 + 2 * og i) : Option Nat) = some (h + 25 + 2 * og o) := fun z => absurd (G.2 i o (by omega) ho (by have := Option.some.inj z; omega)) (by omega)
    refine jx_iload_n (pc := 2) C dX0_dismiss_2 rfl ?_
    refine jx_iconst (pc := 3) C dX0_dismiss_3 nc_1 ?_
    refine jx_iaddN (pc := 4) C dX0_dismiss_4 ?_
    refine jx_aload_n (pc := 5) C dX0_dismiss_5 rfl ?_
    refine jx_getP (pc := 6) C kf_X0_19 rfl S.hall T.oa dX0_dismiss_6 ?_
    refine jx_alen13 (pc := 9) C S.oa dX0_dismiss_9 ?_
    refine jx_icmp_ge (pc := 10) C (tgt := 52) dX0_dismiss_10 (by decide) (fun c10 => (by rw [nI_leI (by omega) (by omega)] at c10; exfalso; omega)) (fun c10 => ?_)
    rw [nI_leI (by omega) (by omega)] at c10
    refine jx_aload_n (pc := 13) C dX0_dismiss_13 rfl ?_
    refine jx_getP (pc := 14) C kf_X0_19 rfl S.hall T.oa dX0_dismiss_14 ?_
    refine jx_iload_n (pc := 17) C dX0_dismiss_17 rfl ?_
    refine jx_aald13 (pc := 18) C S.oa (by omega) (by decide) (G.od (show i < 10 by omega)) dX0_dismiss_18 ?_
    refine jx_aload_n (pc := 19) C dX0_dismiss_19 rfl ?_
    refine jx_acmp_ne (rx := some _) (ry := some _) (pc := 20) C (tgt := 46) dX0_dismiss_20 (by decide) (fun c20 => ?_) (fun c20 => (by exfalso; exact hne c20))
    refine jx_iincN (pc := 46) C dX0_dismiss_46 rfl (jset_2 jc_r) (by decide) ?_
    refine jx_goto (pc := 49) C (tgt := 2) dX0_dismiss_49 (by decide) ?_
    exact ih (i + 1) (by omega)
set_option maxHeartbeats 4000000 in
theorem b_X0_dismiss {p : Program} {l : Launch} {e : Env} {s : State} {m : MethodId} {args : Array Value} {below : List Frame} {meth : Method} {c : Code} {D : va_G} {cA : Nat → ClassId} {N0 : Nat} {Sh : jS} {I : jI} {P : jP} {L : jL} (C : jC p (jRm 0 0 0) s m args meth c D cA N0 cX0_dismiss 3 RX0 0) (hr : meth.sig.returnType = none) {h : Nat} {og : Nat → Nat} {f : sF} (S : hS Sh h) (T : hP P h) (G : hG P h og) (H : hR I h og f) (hm : f 5 = nI (smany f)) (hk : smany f ≤ 10) {o : Nat} (ho : o < smany f) : jJ p l e (jRm 0 0 0) s m args below meth c D cA N0 3 (MQ below (jQn D cA N0 Sh (jNv (fun I' P' L' => hR I' h (ogb og o) (sgoes f o) ∧ hG P' h (ogb og o) ∧ I' = jst I h 5 (f 5 - nI 1) ∧ hFP P h P' ∧ L' = L))) args s 0 0 (fun q => N0 ≤ q)) (fun _ => True) Sh I P L 0 0 0 [some (.ref h), some (.ref (h + 25 + 2 * og o)), none] [] := by
  refine jx_iconst (pc := 0) C dX0_dismiss_0 nc_0 ?_
  refine jx_istore_n (pc := 1) C dX0_dismiss_1 (jset_2 jc_r) (by decide) ?_
  refine lp_X0_dismissA C S T G H hm hk (show o < 10 by omega) ?_ o 0 (Nat.zero_add o)
  refine jx_aload_n (pc := 52) C dX0_dismiss_52 rfl ?_
  refine jx_dup (pc := 53) C dX0_dismiss_53 rfl ?_
  refine jx_getIv (pc := 54) C kf_X0_49 rfl S.hall H.n5 dX0_dismiss_54 ?_
  refine jx_iconst (pc := 57) C dX0_dismiss_57 nc_1 ?_
  refine jx_isub (pc := 58) C dX0_dismiss_58 ?_
  refine jx_putI (pc := 59) C kf_X0_49 rfl rfl rfl rfl S.hall dX0_dismiss_59 ?_
  exact jn_vret (pc := 62) C hr (⟨rfl, ogb_R H hm hk G.lt ho, ogb_G G (by omega), rfl, fun b hb => va_up_n hb, rfl⟩) dX0_dismiss_62
theorem t_X0_dismiss {l : Launch} {D : va_G} {cA : Nat → ClassId} {N0 : Nat} {Sh : jS} {I : jI} {P : jP} {L : jL} {h : Nat} {og : Nat → Nat} {f : sF} (S : hS Sh h) (T : hP P h) (G : hG P h og) (H : hR I h og f) (hm : f 5 = nI (smany f)) (hk : smany f ≤ 10) {o : Nat} (ho : o < smany f) : jN l D cA N0 0 yX0_dismiss cX0_dismiss 3 none [.ref h, .ref (h + 25 + 2 * og o)] Sh I P L (jNv (fun I' P' L' => hR I' h (ogb og o) (sgoes f o) ∧ hG P' h (ogb og o) ∧ I' = jst I h 5 (f 5 - nI 1) ∧ hFP P h P' ∧ L' = L)) := jN_of (by decide) (Nat.le_of_ble_eq_true rfl) (fun _ _ _ _ _ _ _ _ C hr => b_X0_dismiss C hr S T G H hm hk ho)
set_option maxHeartbeats 4000000 in
theorem b_X0_takeYarn_a {p : Program} {l : Launch} {e : Env} {s : State} {m : MethodId} {args : Array Value} {below : List Frame} {meth : Method} {c : Code} {D : va_G} {cA : Nat → ClassId} {N0 : Nat} {Sh : jS} {I : jI} {P : jP} {L : jL} (C : jC p (jRm 1 0 0) s m args meth c D cA N0 cX0_takeYarn 5 RX0 1) (hr : meth.sig.returnType = none) {h : Nat} {og : Nat → Nat} {f : sF} (S : hS Sh h) (T : hP P h) (G : hG P h og) (H : hR I h og f) (V : sI f) {w : Nat} (hw : w < 6) {o : Nat} (ho : o < smany f) (ha : (sgrams f o ≤ f (18 + 12 * w + (8 + scol f o)))) {f1 : sF} (ht : stake f w o = some f1) : jJ p l e (jRm 1 0 0) s m args below meth c D cA N0 5 (MQ below (jQn D cA N0 Sh (jNv (fun I' P' L' => hR I' h og f1 ∧ hF I h I' ∧ P' = P ∧ L' = L))) args s 0 0 (fun q => N0 ≤ q)) (fun _ => True) Sh I P L 0 0 0 [some (.ref h), some (.ref (h + 8 + 3 * w)), some (.ref (h + 7 + 3 * w)), some (.ref (h + 25 + 2 * og o)), none] [] := by
  have hk := V.1.2.1
  have hm := V.1.1
  obtain ⟨hc, hc4⟩ := V.1.2.2.1 o ho
  have hcv := (H.od (k := 1) ho (by decide)).trans hc
  have hs : stake f w o = some (upd (upd f (18 + 12 * w + (8 + scol f o)) (f (18 + 12 * w + (8 + scol f o)) + -sgrams f o)) 12 (f 12 + sgrams f o)) := by
    unfold stake
    rw [if_pos ha]
    show some (upd _ 12 (upd f (18 + 12 * w + (8 + scol f o)) (f (18 + 12 * w + (8 + scol f o)) + -sgrams f o) 12 + sgrams f o)) = _
    rw [upd_n (by omega)]
  obtain rfl : _ = f1 := Option.some.inj (hs.symm.trans ht)
  have R1 := H.ps hk G.lt hw hc4 (v := f (18 + 12 * w + (8 + scol f o)) + -sgrams f o)
  have R2 := R1.p11 (by rw [smany_u (by omega)]; exact hk) G.lt (v := f 12 + sgrams f o)
  refine jx_aload_n (pc := 0) C dX0_takeYarn_0 rfl ?_
  refine jx_callD (pc := 1) C (go_X0_115 C (S.od (G.lt o (by omega))) (Nat.le_of_ble_eq_true rfl) dX0_takeYarn_1) (t_H_grams S T G H V ho) (by decide) (by decide) ⟨Nat.zero_le _, Nat.zero_le _⟩ ?_
  refine jx_istore (pc := 4) C dX0_takeYarn_4 (jset_4 jc_r) (by decide) ?_
  refine jx_aload_n (pc := 6) C dX0_takeYarn_6 rfl ?_
  refine jx_aload_n (pc := 7) C dX0_takeYarn_7 rfl ?_
  refine jx_getIv (pc := 8) C kf_X0_122 rfl (S.od (G.lt o (by omega))) hcv dX0_takeYarn_8 ?_
  refine jx_iload (pc := 11) C dX0_takeYarn_11 rfl ?_
  refine jx_ineg (pc := 13) C dX0_takeYarn_13 ?_
  refine jx_callD (pc := 14) C (go_X0_128 C (S.wy hw) (Nat.le_of_ble_eq_true rfl) dX0_takeYarn_14) (t_X4_add (S.wy hw) (S.wg hw) (T.wg hw) hc4) (by decide) (by decide) ⟨Nat.zero_le _, Nat.zero_le _⟩ ?_
  rw [H.sh hw hc4]
  refine jx_pop (pc := 17) C dX0_takeYarn_17 rfl ?_
  refine jx_aload_n (pc := 18) C dX0_takeYarn_18 rfl ?_
  refine jx_aload_n (pc := 19) C dX0_takeYarn_19 rfl ?_
  refine jx_getP (pc := 20) C kf_X0_26 rfl S.hall T.sk dX0_takeYarn_20 ?_
  refine jx_acmp_ne (rx := some _) (ry := some _) (pc := 23) C (tgt := 32) dX0_takeYarn_23 (by decide) (fun c23 => ?_) (fun c23 => (by exfalso; exact absurd (Option.some.inj c23) (by omega)))
  refine jx_aload_n (pc := 32) C dX0_takeYarn_32 rfl ?_
  refine jx_dup (pc := 33) C dX0_takeYarn_33 rfl ?_
  refine jx_getIv (pc := 34) C kf_X0_68 rfl S.hall ((congrFun (jst_ne (by omega)) _).trans H.n11) dX0_takeYarn_34 ?_
  refine jx_iload (pc := 37) C dX0_takeYarn_37 rfl ?_
  refine jx_iadd (pc := 39) C dX0_takeYarn_39 ?_
  refine jx_putI (pc := 40) C kf_X0_68 rfl rfl rfl rfl S.hall dX0_takeYarn_40 ?_
  exact jn_vret (pc := 43) C hr (⟨rfl, R2, (hF.rf.st (by omega)).st (by omega), rfl, rfl⟩) dX0_takeYarn_43
theorem t_X0_takeYarn_a {l : Launch} {D : va_G} {cA : Nat → ClassId} {N0 : Nat} {Sh : jS} {I : jI} {P : jP} {L : jL} {h : Nat} {og : Nat → Nat} {f : sF} (S : hS Sh h) (T : hP P h) (G : hG P h og) (H : hR I h og f) (V : sI f) {w : Nat} (hw : w < 6) {o : Nat} (ho : o < smany f) (ha : (sgrams f o ≤ f (18 + 12 * w + (8 + scol f o)))) {f1 : sF} (ht : stake f w o = some f1) : jN l D cA N0 1 yX0_takeYarn cX0_takeYarn 5 none [.ref h, .ref (h + 8 + 3 * w), .ref (h + 7 + 3 * w), .ref (h + 25 + 2 * og o)] Sh I P L (jNv (fun I' P' L' => hR I' h og f1 ∧ hF I h I' ∧ P' = P ∧ L' = L)) := jN_of (by decide) (Nat.le_of_ble_eq_true rfl) (fun _ _ _ _ _ _ _ _ C hr => b_X0_takeYarn_a C hr S T G H V hw ho ha ht)
set_option maxHeartbeats 4000000 in
theorem b_X0_takeYarn_b {p : Program} {l : Launch} {e : Env} {s : State} {m : MethodId} {args : Array Value} {below : List Frame} {meth : Method} {c : Code} {D : va_G} {cA : Nat → ClassId} {N0 : Nat} {Sh : jS} {I : jI} {P : jP} {L : jL} (C : jC p (jRm 1 0 0) s m args meth c D cA N0 cX0_takeYarn 5 RX0 1) (hr : meth.sig.returnType = none) {h : Nat} {og : Nat → Nat} {f : sF} (S : hS Sh h) (T : hP P h) (G : hG P h og) (H : hR I h og f) (V : sI f) {w : Nat} (hw : w < 6) {o : Nat} (ho : o < smany f) (ha : ¬ (sgrams f o ≤ f (18 + 12 * w + (8 + scol f o)))) (hb : (f 1 = nI 1 ∧ sgrams f o ≤ f (14 + scol f o))) {f1 : sF} (ht : stake f w o = some f1) : jJ p l e (jRm 1 0 0) s m args below meth c D cA N0 5 (MQ below (jQn D cA N0 Sh (jNv (fun I' P' L' => hR I' h og f1 ∧ hF I h I' ∧ P' = P ∧ L' = L))) args s 0 0 (fun q => N0 ≤ q)) (fun _ => True) Sh I P L 0 0 0 [some (.ref h), some (.ref (h + 3)), some (.ref (h + 7 + 3 * w)), some (.ref (h + 25 + 2 * og o)), none] [] := by
  have hk := V.1.2.1
  have hm := V.1.1
  obtain ⟨hc, hc4⟩ := V.1.2.2.1 o ho
  have hcv := (H.od (k := 1) ho (by decide)).trans hc
  have hs : stake f w o = some (upd (upd (upd (upd f (14 + scol f o) (f (14 + scol f o) + -sgrams f o)) (18 + 12 * w + 3) (f (18 + 12 * w + 3) + sgrams f o)) (18 + 12 * w + 7) (f (18 + 12 * w + 7) + sgrams f o)) 12 (f 12 + sgrams f o)) := by
    unfold stake
    rw [if_neg ha, if_pos hb]
    dsimp only
    rw [upd_n (show 12 ≠ 18 + 12 * w + 7 by omega), upd_n (show 12 ≠ 18 + 12 * w + 3 by omega), upd_n (show 12 ≠ 14 + scol f o by omega), upd_n (show 18 + 12 * w + 7 ≠ 18 + 12 * w + 3 by omega), upd_n (show 18 + 12 * w + 7 ≠ 14 + scol f o by omega), upd_n (show 18 + 12 * w + 3 ≠ 14 + scol f o by omega), Int32.sub_eq_add_neg]
  obtain rfl : _ = f1 := Option.some.inj (hs.symm.trans ht)
  have R1 := H.pt hk G.lt hc4 (v := f (14 + scol f o) + -sgrams f o)
  have R2 := R1.pw (k := 3) (by rw [smany_u (by omega)]; exact hk) G.lt hw (by decide) (v := f (18 + 12 * w + 3) + sgrams f o)
  have R3 := R2.pw (k := 7) (by rw [smany_u (by omega), smany_u (by omega)]; exact hk) G.lt hw (by decide) (v := f (18 + 12 * w + 7) + sgrams f o)
  have R4 := R3.p11 (by rw [smany_u (by omega), smany_u (by omega), smany_u (by omega)]; exact hk) G.lt (v := f 12 + sgrams f o)
  have d3 : I (h + 7 + 3 * w) 4 = f (18 + 12 * w + 3) := H.wv (k := 3) hw (by decide)
  have d7 : I (h + 7 + 3 * w) 8 = f (18 + 12 * w + 7) := H.wv (k := 7) hw (by decide)
  have g3 : jst I (h + 4) (scol f o) (f (14 + scol f o) + -sgrams f o) (h + 7 + 3 * w) 4 = f (18 + 12 * w + 3) := (congrFun (jst_ne (by omega)) _).trans d3
  have g7 : jst I (h + 4) (scol f o) (f (14 + scol f o) + -sgrams f o) (h + 7 + 3 * w) 8 = f (18 + 12 * w + 7) := (congrFun (jst_ne (by omega)) _).trans d7
  refine jx_aload_n (pc := 0) C dX0_takeYarn_0 rfl ?_
  refine jx_callD (pc := 1) C (go_X0_115 C (S.od (G.lt o (by omega))) (Nat.le_of_ble_eq_true rfl) dX0_takeYarn_1) (t_H_grams S T G H V ho) (by decide) (by decide) ⟨Nat.zero_le _, Nat.zero_le _⟩ ?_
  refine jx_istore (pc := 4) C dX0_takeYarn_4 (jset_4 jc_r) (by decide) ?_
  refine jx_aload_n (pc := 6) C dX0_takeYarn_6 rfl ?_
  refine jx_aload_n (pc := 7) C dX0_takeYarn_7 rfl ?_
  refine jx_getIv (pc := 8) C kf_X0_122 rfl (S.od (G.lt o (by omega))) hcv dX0_takeYarn_8 ?_
  refine jx_iload (pc := 11) C dX0_takeYarn_11 rfl ?_
  refine jx_ineg (pc := 13) C dX0_takeYarn_13 ?_
  refine jx_callD (pc := 14) C (go_X0_128 C S.sk (Nat.le_of_ble_eq_true rfl) dX0_takeYarn_14) (t_X4_add S.sk S.sg T.sg hc4) (by decide) (by decide) ⟨Nat.zero_le _, Nat.zero_le _⟩ ?_
  rw [H.st hc4]
  refine jx_pop (pc := 17) C dX0_takeYarn_17 rfl ?_
  refine jx_aload_n (pc := 18) C dX0_takeYarn_18 rfl ?_
  refine jx_aload_n (pc := 19) C dX0_takeYarn_19 rfl ?_
  refine jx_getP (pc := 20) C kf_X0_26 rfl S.hall T.sk dX0_takeYarn_20 ?_
  refine jx_acmp_ne (rx := some _) (ry := some _) (pc := 23) C (tgt := 32) dX0_takeYarn_23 (by decide) (fun c23 => (by exfalso; exact c23 rfl)) (fun c23 => ?_)
  refine jx_aload_n (pc := 26) C dX0_takeYarn_26 rfl ?_
  refine jx_iload (pc := 27) C dX0_takeYarn_27 rfl ?_
  refine jx_callDv (pc := 29) C (go_X0_132 C (S.wv hw) (Nat.le_of_ble_eq_true rfl) dX0_takeYarn_29) (t_X3_borrow (S.wv hw)) (by decide) (by decide) ⟨Nat.zero_le _, Nat.zero_le _⟩ ?_
  rw [g3, g7]
  refine jx_aload_n (pc := 32) C dX0_takeYarn_32 rfl ?_
  refine jx_dup (pc := 33) C dX0_takeYarn_33 rfl ?_
  refine jx_getIv (pc := 34) C kf_X0_68 rfl S.hall ((congrFun (jst_ne (by omega)) _).trans ((congrFun (jst_ne (by omega)) _).trans ((congrFun (jst_ne (by omega)) _).trans H.n11))) dX0_takeYarn_34 ?_
  refine jx_iload (pc := 37) C dX0_takeYarn_37 rfl ?_
  refine jx_iadd (pc := 39) C dX0_takeYarn_39 ?_
  refine jx_putI (pc := 40) C kf_X0_68 rfl rfl rfl rfl S.hall dX0_takeYarn_40 ?_
  exact jn_vret (pc := 43) C hr (⟨rfl, R4, (((hF.rf.st (by omega)).st (by omega)).st (by omega)).st (by omega), rfl, rfl⟩) dX0_takeYarn_43
theorem t_X0_takeYarn_b {l : Launch} {D : va_G} {cA : Nat → ClassId} {N0 : Nat} {Sh : jS} {I : jI} {P : jP} {L : jL} {h : Nat} {og : Nat → Nat} {f : sF} (S : hS Sh h) (T : hP P h) (G : hG P h og) (H : hR I h og f) (V : sI f) {w : Nat} (hw : w < 6) {o : Nat} (ho : o < smany f) (ha : ¬ (sgrams f o ≤ f (18 + 12 * w + (8 + scol f o)))) (hb : (f 1 = nI 1 ∧ sgrams f o ≤ f (14 + scol f o))) {f1 : sF} (ht : stake f w o = some f1) : jN l D cA N0 1 yX0_takeYarn cX0_takeYarn 5 none [.ref h, .ref (h + 3), .ref (h + 7 + 3 * w), .ref (h + 25 + 2 * og o)] Sh I P L (jNv (fun I' P' L' => hR I' h og f1 ∧ hF I h I' ∧ P' = P ∧ L' = L)) := jN_of (by decide) (Nat.le_of_ble_eq_true rfl) (fun _ _ _ _ _ _ _ _ C hr => b_X0_takeYarn_b C hr S T G H V hw ho ha hb ht)
theorem t_H_late {l : Launch} {D : va_G} {cA : Nat → ClassId} {N0 : Nat} {Sh : jS} {I : jI} {P : jP} {L : jL} {h : Nat} {og : Nat → Nat} {f : sF} (S : hS Sh h) (G : hG P h og) (H : hR I h og f) (hk : smany f ≤ 10) {o : Nat} (ho : o < smany f) : jN l D cA N0 0 yX1_lateHours cX1_lateHours 2 (some .int) [.ref (h + 25 + 2 * og o), .int (f 4)] Sh I P L (jD (some (.int (slate f o))) I P L) := by
  have e : (if f 4 ≤ I (h + 25 + 2 * og o) 6 then nI 0 else f 4 - I (h + 25 + 2 * og o) 6) = slate f o := by
    rw [show I (h + 25 + 2 * og o) 6 = f (90 + 12 * o + 5) from H.od (k := 5) ho (by decide)]; rfl
  have t := t_X1_lateHours (l := l) (D := D) (cA := cA) (N0 := N0) (P := P) (L := L) (I := I) (v := f 4) (S.od (G.lt o (by omega)))
  rwa [e] at t
theorem t_H_pay {l : Launch} {D : va_G} {cA : Nat → ClassId} {N0 : Nat} {Sh : jS} {I : jI} {P : jP} {L : jL} {h : Nat} {og : Nat → Nat} {f : sF} (S : hS Sh h) (G : hG P h og) (H : hR I h og f) (hk : smany f ≤ 10) {o : Nat} (ho : o < smany f) {len : Int32} {p n : Nat} (hl : sgood f o = len) (hp : f (90 + 12 * o + 4) = nI p) (h99 : p ≤ 99) (hn : len = nI n) (h200 : n ≤ 200) : jN l D cA N0 0 yX1_payFor cX1_payFor 6 (some .int) [.ref (h + 25 + 2 * og o), .int (slate f o), .int (f 2)] Sh I P L (jD (some (.int (swhole f o len))) I P L) := by
  have e : spf (I (h + 25 + 2 * og o) 5 * I (h + 25 + 2 * og o) 7) (slate f o) (f 2) = swhole f o len := by
    rw [show I (h + 25 + 2 * og o) 5 = f (90 + 12 * o + 4) from H.od (k := 4) ho (by decide), H.gd ho, hl]
    exact spf_w hp h99 hn h200
  have t := t_X1_payFor (l := l) (D := D) (cA := cA) (N0 := N0) (P := P) (L := L) (I := I) (lh := slate f o) (lc := f 2) (S.od (G.lt o (by omega)))
  rwa [e] at t
theorem hR.pay {I : jI} {h : Nat} {og : Nat → Nat} {g : sF} (H : hR I h og g) (hm : smany g ≤ 10) (hg : ∀ j, j < 10 → og j < 10) {w : Nat} (hw : w < 6) {du : Nat → Int32} (h3 : 0 ≤ g 3) : hR (jst (jst I (h + 7 + 3 * w) 4 (I (h + 7 + 3 * w) 4 - (if 0 < g 3 then smin (I (h + 7 + 3 * w) 4) (du w / g 3) else I (h + 7 + 3 * w) 4))) (h + 7 + 3 * w) 5 (I (h + 7 + 3 * w) 5 + (du w - (if 0 < g 3 then smin (I (h + 7 + 3 * w) 4) (du w / g 3) else I (h + 7 + 3 * w) 4) * g 3))) h og (spay1 g du w) := by
  rw [show I (h + 7 + 3 * w) 4 = g (18 + 12 * w + 3) from H.wv (k := 3) hw (by decide), show I (h + 7 + 3 * w) 5 = g (18 + 12 * w + 4) from H.wv (k := 4) hw (by decide), spay_g h3]
  generalize hq : (if g 3 = 0 then g (18 + 12 * w + 3) else if du w / g 3 ≤ g (18 + 12 * w + 3) then du w / g 3 else g (18 + 12 * w + 3)) = q
  rw [spay_e hq.symm]
  have R1 := H.pw (k := 3) hm hg hw (by decide) (v := g (18 + 12 * w + 3) - q)
  exact R1.pw (k := 4) (by rw [smany_u (by omega)]; exact hm) hg hw (by decide)
set_option maxHeartbeats 4000000 in
theorem lp_X0_finish {p : Program} {l : Launch} {e : Env} {s : State} {m : MethodId} {args : Array Value} {below : List Frame} {meth : Method} {c : Code} {D : va_G} {cA : Nat → ClassId} {N0 : Nat} {Sh : jS} {I : jI} {P : jP} {L : jL} {Qf : State → Prop} (C : jC p (jRm 2 0 0) s m args meth c D cA N0 cX0_finish 5 RX0 2) {h o : Nat} {og : Nat → Nat} {f : sF} (S : hS Sh h) (T : hP P h) (G : hG P h og) (H : hR I h og f) (J : sJ f o) (ho : o < smany f) {du : Nat → Int32} (hx : ∀ I1, hR I1 h og (spayN f du 6) → hF I h I1 → jJ p l e (jRm 2 0 0) s m args below meth c D cA N0 5 Qf (fun _ => True) Sh I1 P L 0 0 82 [some (.ref h), some (.ref (h + 25 + 2 * og o)), some (.int (slate f o)), some (.int (swhole f o (f (90 + 12 * o + 3)))), some (.int (nI 6))] []) : ∀ d w I1, w + d = 6 → hR I1 h og (spayN f du w) → I1 (h + 6) = du → hF I h I1 → jJ p l e (jRm 2 0 0) s m args below meth c D cA N0 5 Qf (fun _ => True) Sh I1 P L 0 0 33 [some (.ref h), some (.ref (h + 25 + 2 * og o)), some (.int (slate f o)), some (.int (swhole f o (f (90 + 12 * o + 3)))), some (.int (nI w))] [] := by
  have hk := J.1.2.1
  have hm := J.1.1
  have h3 := J.2.1.2.1
  obtain ⟨b1, b2, b3, b4, b5, b6, b7⟩ := J.2.2.1 o ho
  have hl : sgood f o = f (90 + 12 * o + 3) := by rw [(sIb_good (J.2.2.1 o ho)).1, b2, J.2.2.2.2]
  intro d
  induction d with
  | zero =>
    intro w I1 hw H1 hd F1
    obtain rfl : w = 6 := by omega
    refine jx_iload (pc := 33) C dX0_finish_33 rfl ?_
    refine jx_aload_n (pc := 35) C dX0_finish_35 rfl ?_
    refine jx_getP (pc := 36) C kf_X0_11 rfl S.hall T.wa dX0_finish_36 ?_
    refine jx_alen12 (pc := 39) C S.wa dX0_finish_39 ?_
    refine jx_icmp_ge (pc := 40) C (tgt := 82) dX0_finish_40 (by decide) (fun c40 => ?_) (fun c40 => (by rw [nI_leI (by omega) (by omega)] at c40; exfalso; omega))
    rw [nI_leI (by omega) (by omega)] at c40
    exact hx _ H1 F1
  | succ d ih =>
    intro w I1 hw H1 hd F1
    have e3 : spayN f du w 3 = f 3 := spayN_k (fun v hv => ⟨by omega, by omega⟩)
    have e5 : smany (spayN f du w) = smany f := by unfold smany; rw [spayN_k (fun v hv => ⟨by omega, by omega⟩)]
    have R1 := H1.pay (by rw [e5]; exact hk) G.lt (show w < 6 by omega) (du := du) (by rw [e3]; exact h3)
    rw [e3] at R1
    refine jx_iload (pc := 33) C dX0_finish_33 rfl ?_
    refine jx_aload_n (pc := 35) C dX0_finish_35 rfl ?_
    refine jx_getP (pc := 36) C kf_X0_11 rfl S.hall T.wa dX0_finish_36 ?_
    refine jx_alen12 (pc := 39) C S.wa dX0_finish_39 ?_
    refine jx_icmp_ge (pc := 40) C (tgt := 82) dX0_finish_40 (by decide) (fun c40 => (by rw [nI_leI (by omega) (by omega)] at c40; exfalso; omega)) (fun c40 => ?_)
    rw [nI_leI (by omega) (by omega)] at c40
    refine jx_iload (pc := 43) C dX0_finish_43 rfl ?_
    refine jx_aload_n (pc := 45) C dX0_finish_45 rfl ?_
    refine jx_getP (pc := 46) C kf_X0_34 rfl S.hall T.du dX0_finish_46 ?_
    refine jx_alen10 (pc := 49) C S.du dX0_finish_49 ?_
    refine jx_icmp_ge (pc := 50) C (tgt := 82) dX0_finish_50 (by decide) (fun c50 => (by rw [nI_leI (by omega) (by omega)] at c50; exfalso; omega)) (fun c50 => ?_)
    rw [nI_leI (by omega) (by omega)] at c50
    refine jx_aload_n (pc := 53) C dX0_finish_53 rfl ?_
    refine jx_getP (pc := 54) C kf_X0_11 rfl S.hall T.wa dX0_finish_54 ?_
    refine jx_iload (pc := 57) C dX0_finish_57 rfl ?_
    refine jx_aald12 (pc := 59) C S.wa (by omega) (by decide) (T.wv (show w < 6 by omega)) dX0_finish_59 ?_
    refine jx_aload_n (pc := 60) C dX0_finish_60 rfl ?_
    refine jx_getP (pc := 61) C kf_X0_34 rfl S.hall T.du dX0_finish_61 ?_
    refine jx_iload (pc := 64) C dX0_finish_64 rfl ?_
    refine jx_ialdv (pc := 66) C S.du (by omega) (by decide) (congrFun hd _) dX0_finish_66 ?_
    refine jx_aload_n (pc := 67) C dX0_finish_67 rfl ?_
    refine jx_getP (pc := 68) C kf_X0_30 rfl S.hall T.se dX0_finish_68 ?_
    refine jx_iconst (pc := 71) C dX0_finish_71 nc_3 ?_
    refine jx_ialdv (pc := 72) C S.se (by omega) (by decide) ((H1.se (k := 3) (by decide)).trans e3) dX0_finish_72 ?_
    refine jx_callDv (pc := 73) C (go_X0_169 C (S.wv (show w < 6 by omega)) (Nat.le_of_ble_eq_true rfl) dX0_finish_73) (t_X3_receive (S.wv (show w < 6 by omega))) (by decide) (by decide) ⟨Nat.zero_le _, Nat.zero_le _⟩ ?_
    refine jx_iincN (pc := 76) C dX0_finish_76 rfl (jset_4 jc_i) (by decide) ?_
    refine jx_goto (pc := 79) C (tgt := 33) dX0_finish_79 (by decide) ?_
    exact ih (w + 1) _ (by omega) R1 ((jst_ne (by omega)).trans ((jst_ne (by omega)).trans hd)) ((F1.st (by omega)).st (by omega))
set_option maxHeartbeats 4000000 in
theorem b_X0_finish {p : Program} {l : Launch} {e : Env} {s : State} {m : MethodId} {args : Array Value} {below : List Frame} {meth : Method} {c : Code} {D : va_G} {cA : Nat → ClassId} {N0 : Nat} {Sh : jS} {I : jI} {P : jP} {L : jL} (C : jC p (jRm 2 0 0) s m args meth c D cA N0 cX0_finish 5 RX0 2) (hr : meth.sig.returnType = none) {h o : Nat} {og : Nat → Nat} {f : sF} (S : hS Sh h) (T : hP P h) (G : hG P h og) (H : hR I h og f) (J : sJ f o) (ho : o < smany f) : jJ p l e (jRm 2 0 0) s m args below meth c D cA N0 5 (MQ below (jQn D cA N0 Sh (jNv (fun I' P' L' => (∃ og', hR I' h og' (spaysF f o) ∧ hG P' h og') ∧ hF I h I' ∧ hFP P h P' ∧ L' = L))) args s 0 0 (fun q => N0 ≤ q)) (fun _ => True) Sh I P L 0 0 0 [some (.ref h), some (.ref (h + 25 + 2 * og o)), none, none, none] [] := by
  have hk := J.1.2.1
  have hm := J.1.1
  have h3 := J.2.1.2.1
  obtain ⟨b1, b2, b3, b4, b5, b6, b7⟩ := J.2.2.1 o ho
  have hl : sgood f o = f (90 + 12 * o + 3) := by rw [(sIb_good (J.2.2.1 o ho)).1, b2, J.2.2.2.2]
  have hqo := G.lt o (by omega)
  have hby : ∀ w, w < 6 → I (h + 26 + 2 * og o) w = f (90 + 12 * o + (6 + w)) := fun w hw => H.by ho hw
  have hgl : I (h + 25 + 2 * og o) 7 = f (90 + 12 * o + 3) := (H.gd ho).trans hl
  refine jx_aload_n (pc := 0) C dX0_finish_0 rfl ?_
  refine jx_aload_n (pc := 1) C dX0_finish_1 rfl ?_
  refine jx_getIv (pc := 2) C kf_X0_56 rfl S.hall H.n7 dX0_finish_2 ?_
  refine jx_callD (pc := 5) C (go_X0_159 C (S.od (G.lt o (by omega))) (Nat.le_of_ble_eq_true rfl) dX0_finish_5) (t_H_late S G H hk ho) (by decide) (by decide) ⟨Nat.zero_le _, Nat.zero_le _⟩ ?_
  refine jx_istore_n (pc := 8) C dX0_finish_8 (jset_2 jc_r) (by decide) ?_
  refine jx_aload_n (pc := 9) C dX0_finish_9 rfl ?_
  refine jx_iload_n (pc := 10) C dX0_finish_10 rfl ?_
  refine jx_aload_n (pc := 11) C dX0_finish_11 rfl ?_
  refine jx_getP (pc := 12) C kf_X0_30 rfl S.hall T.se dX0_finish_12 ?_
  refine jx_iconst (pc := 15) C dX0_finish_15 nc_2 ?_
  refine jx_ialdv (pc := 16) C S.se (by omega) (by decide) (H.se (k := 2) (by decide)) dX0_finish_16 ?_
  refine jx_callD (pc := 17) C (go_X0_162 C (S.od (G.lt o (by omega))) (Nat.le_of_ble_eq_true rfl) dX0_finish_17) (t_H_pay S G H hk ho hl b3 b4 b2 b5) (by decide) (by decide) ⟨Nat.zero_le _, Nat.zero_le _⟩ ?_
  refine jx_istore_n (pc := 20) C dX0_finish_20 (jset_3 jc_i) (by decide) ?_
  refine jx_aload_n (pc := 21) C dX0_finish_21 rfl ?_
  refine jx_iload_n (pc := 22) C dX0_finish_22 rfl ?_
  refine jx_aload_n (pc := 23) C dX0_finish_23 rfl ?_
  refine jx_getP (pc := 24) C kf_X0_34 rfl S.hall T.du dX0_finish_24 ?_
  refine jx_callDv (pc := 27) C (go_X0_165 C (S.od (G.lt o (by omega))) (Nat.le_of_ble_eq_true rfl) dX0_finish_27) (t_X1_divide (S.od (G.lt o (by omega))) (S.ob (G.lt o (by omega))) (T.ob (G.lt o (by omega))) (by omega) S.du (by omega) (by omega) (f := f) (o := o) hby hgl (by rw [b2, i32_le, nI_toInt (by omega)]; exact Int.natCast_nonneg _) (fun z => swhole_0 z)) (by decide) (by decide) ⟨Nat.zero_le _, Nat.zero_le _⟩ ?_
  refine jx_iconst (pc := 30) C dX0_finish_30 nc_0 ?_
  refine jx_istore (pc := 31) C dX0_finish_31 (jset_4 jc_i) (by decide) ?_
  refine lp_X0_finish (I := I) (du := (sshares f o (swhole f o (f (90 + 12 * o + 3))) (f (90 + 12 * o + 3)) (I (h + 6)))) C S T G H J ho (fun I1 H1 F1 => ?_) 6 0 _ (Nat.zero_add 6) (H.keep hk G.lt (fun b h1 h2 h3 => va_up_n h3)) va_up_s (hF.rf.up (by omega))
  have e5 : smany (spayN f (sshares f o (swhole f o (f (90 + 12 * o + 3))) (f (90 + 12 * o + 3)) (I (h + 6))) 6) = smany f := by unfold smany; rw [spayN_k (fun v hv => ⟨by omega, by omega⟩)]
  have key : ∀ v, v = (if slate f o ≤ 0 then nI 0 else nI 1) → jJ p l e (jRm 2 0 0) s m args below meth c D cA N0 5 (MQ below (jQn D cA N0 Sh (jNv (fun I' P' L' => (∃ og', hR I' h og' (spaysF f o) ∧ hG P' h og') ∧ hF I h I' ∧ hFP P h P' ∧ L' = L))) args s 0 0 (fun q => N0 ≤ q)) (fun _ => True) Sh (jst (jst I1 h 10 ((spayN f (sshares f o (swhole f o (f (90 + 12 * o + 3))) (f (90 + 12 * o + 3)) (I (h + 6))) 6) 9 + swhole f o (f (90 + 12 * o + 3)))) h 8 ((spayN f (sshares f o (swhole f o (f (90 + 12 * o + 3))) (f (90 + 12 * o + 3)) (I (h + 6))) 6) 7 + nI 1)) P L 0 0 116 [some (.ref h), some (.ref (h + 25 + 2 * og o)), some (.int (slate f o)), some (.int (swhole f o (f (90 + 12 * o + 3)))), some (.int (nI 6))] [.int v, .int ((spayN f (sshares f o (swhole f o (f (90 + 12 * o + 3))) (f (90 + 12 * o + 3)) (I (h + 6))) 6) 8), .ref h] := by
    intro v hv
    subst hv
    have R1 := H1.p10 (by rw [e5]; exact hk) G.lt (v := (spayN f (sshares f o (swhole f o (f (90 + 12 * o + 3))) (f (90 + 12 * o + 3)) (I (h + 6))) 6) 9 + swhole f o (f (90 + 12 * o + 3)))
    have R2 := R1.p8 (by rw [smany_u (by omega), e5]; exact hk) G.lt (v := (spayN f (sshares f o (swhole f o (f (90 + 12 * o + 3))) (f (90 + 12 * o + 3)) (I (h + 6))) 6) 7 + nI 1)
    have R3 := R2.p9 (by rw [smany_u (by omega), smany_u (by omega), e5]; exact hk) G.lt (v := (spayN f (sshares f o (swhole f o (f (90 + 12 * o + 3))) (f (90 + 12 * o + 3)) (I (h + 6))) 6) 8 + (if slate f o ≤ 0 then nI 0 else nI 1))
    have eA : spaysA f o (sduR f o) = spaysA f o (sshares f o (swhole f o (f (90 + 12 * o + 3))) (f (90 + 12 * o + 3)) (I (h + 6))) := by
      have hd : ∀ w, w < 6 → sduR f o w = (sshares f o (swhole f o (f (90 + 12 * o + 3))) (f (90 + 12 * o + 3)) (I (h + 6))) w := fun w hw => sshares_c hw
      unfold spaysA
      rw [spayN_c hd]
    have R4 : hR _ h og (spaysA f o (sduR f o)) := R3.cong (by rw [smany_u (by omega), smany_u (by omega), smany_u (by omega), e5]; exact hk) (fun k h1 h2 h3 => by rw [eA]; exact spaysA_p (by omega))
    obtain ⟨c1, c2⟩ := spaysA_OK (o := o) (du := sduR f o) J.1
    refine jx_iadd (pc := 116) C dX0_finish_116 ?_
    refine jx_putI (pc := 117) C kf_X0_62 rfl rfl rfl rfl S.hall dX0_finish_117 ?_
    refine jx_aload_n (pc := 120) C dX0_finish_120 rfl ?_
    refine jx_aload_n (pc := 121) C dX0_finish_121 rfl ?_
    refine jx_callv (pc := 122) C (go_X0_173 C S.hall (Nat.le_of_ble_eq_true rfl) dX0_finish_122) (t_X0_dismiss S T G R4 c1.1 (by rw [c2]; exact hk) (by rw [c2]; exact ho)) (by decide) (by decide) ⟨Nat.zero_le _, Nat.zero_le _⟩ (fun I122 P122 L122 q122 => ?_)
    skip
    exact jn_vret (pc := 125) C hr (by
      obtain ⟨q1, q2, rfl, q4, q5⟩ := q122
      exact ⟨rfl, ⟨_, by unfold spaysF; rw [spays_A]; exact q1, q2⟩, ((((F1.st (by omega)).st (by omega)).st (by omega)).st (by omega)), q4, q5⟩) dX0_finish_125
  refine jx_aload_n (pc := 82) C dX0_finish_82 rfl ?_
  refine jx_dup (pc := 83) C dX0_finish_83 rfl ?_
  refine jx_getIv (pc := 84) C kf_X0_65 rfl S.hall H1.n10 dX0_finish_84 ?_
  refine jx_iload_n (pc := 87) C dX0_finish_87 rfl ?_
  refine jx_iadd (pc := 88) C dX0_finish_88 ?_
  refine jx_putI (pc := 89) C kf_X0_65 rfl rfl rfl rfl S.hall dX0_finish_89 ?_
  refine jx_aload_n (pc := 92) C dX0_finish_92 rfl ?_
  refine jx_dup (pc := 93) C dX0_finish_93 rfl ?_
  refine jx_getIv (pc := 94) C kf_X0_59 rfl S.hall ((congrFun jst_eq 8).trans ((upd_n (by decide)).trans H1.n8)) dX0_finish_94 ?_
  refine jx_iconst (pc := 97) C dX0_finish_97 nc_1 ?_
  refine jx_iadd (pc := 98) C dX0_finish_98 ?_
  refine jx_putI (pc := 99) C kf_X0_59 rfl rfl rfl rfl S.hall dX0_finish_99 ?_
  refine jx_aload_n (pc := 102) C dX0_finish_102 rfl ?_
  refine jx_dup (pc := 103) C dX0_finish_103 rfl ?_
  refine jx_getIv (pc := 104) C kf_X0_62 rfl S.hall ((congrFun jst_eq 9).trans ((upd_n (by decide)).trans ((congrFun jst_eq 9).trans ((upd_n (by decide)).trans H1.n9)))) dX0_finish_104 ?_
  refine jx_iload_n (pc := 107) C dX0_finish_107 rfl ?_
  refine jx_if_le (pc := 108) C (tgt := 115) dX0_finish_108 (by decide) (fun c108 => ?_) (fun c108 => ?_)
  · refine jx_iconst (pc := 115) C dX0_finish_115 nc_0 ?_
    first | exact key _ (if_pos c108).symm | exact key _ (if_neg c108).symm
  · refine jx_iconst (pc := 111) C dX0_finish_111 nc_1 ?_
    refine jx_goto (pc := 112) C (tgt := 116) dX0_finish_112 (by decide) ?_
    first | exact key _ (if_pos c108).symm | exact key _ (if_neg c108).symm
theorem t_X0_finish {l : Launch} {D : va_G} {cA : Nat → ClassId} {N0 : Nat} {Sh : jS} {I : jI} {P : jP} {L : jL} {h o : Nat} {og : Nat → Nat} {f : sF} (S : hS Sh h) (T : hP P h) (G : hG P h og) (H : hR I h og f) (J : sJ f o) (ho : o < smany f) : jN l D cA N0 2 yX0_finish cX0_finish 5 none [.ref h, .ref (h + 25 + 2 * og o)] Sh I P L (jNv (fun I' P' L' => (∃ og', hR I' h og' (spaysF f o) ∧ hG P' h og') ∧ hF I h I' ∧ hFP P h P' ∧ L' = L)) := jN_of (by decide) (Nat.le_of_ble_eq_true rfl) (fun _ _ _ _ _ _ _ _ C hr => b_X0_finish C hr S T G H J ho)
theorem lp_und {I1 : jI} {h o : Nat} {og : Nat → Nat} {f1 : sF} (H1 : hR I1 h og f1) (V1 : sI f1) (ho : o < smany f1) : ¬ I1 (h + 25 + 2 * og o) 4 ≤ I1 (h + 25 + 2 * og o) 7 := by
  obtain ⟨hb, hs⟩ := V1.2.2 o ho
  obtain ⟨b1, b2, b3, b4, b5, b6, b7⟩ := hb
  rw [show I1 (h + 25 + 2 * og o) 4 = f1 (90 + 12 * o + 3) from H1.od (k := 3) ho (by decide), H1.gd ho, (sIb_good (V1.2.2 o ho).1).1, b2]
  intro z
  have := (nI_leI (by omega) (by omega)).mp z
  omega
set_option maxHeartbeats 4000000 in
theorem lp_X0_wl79 {p : Program} {l : Launch} {e : Env} {s : State} {m : MethodId} {args : Array Value} {below : List Frame} {meth : Method} {c : Code} {D : va_G} {cA : Nat → ClassId} {N0 : Nat} {Sh : jS} {I : jI} {P : jP} {L : jL} (C : jC p (jRm 3 0 0) s m args meth c D cA N0 cX0_workLoom 7 RX0 3) {h w : Nat} {og : Nat → Nat} (S : hS Sh h) (T : hP P h) (G : hG P h og) {o N : Nat} {F : sF} (hr : meth.sig.returnType = some .int) {f1 : sF} {I1 : jI} (H1 : hR I1 h og f1) (J : sJ f1 o) (ho : o < smany f1) (F1 : hF I h I1) (hF1 : spaysF f1 o = F) (n i : Nat) (x : Option Value) (hN : n = N) : jJ p l e (jRm 3 0 0) s m args below meth c D cA N0 7 (MQ below (jQn D cA N0 Sh (jNi (fun v' I' P' L' => v' = nI N ∧ (∃ og', hR I' h og' F ∧ hG P' h og') ∧ hF I h I' ∧ hFP P h P' ∧ L' = L))) args s 0 0 (fun q => N0 ≤ q)) (fun _ => True) Sh I1 P L 0 0 79 [some (.ref h), some (.ref (h + 7 + 3 * w)), some (.int (nI w)), some (.ref (h + 25 + 2 * og o)), some (.int (nI (n))), some (.int (nI (i))), x] [] := by
  subst hN
  have hk := J.1.2.1
  obtain ⟨b1, b2, b3, b4, b5, b6, b7⟩ := J.2.2.1 o ho
  have hd : I1 (h + 25 + 2 * og o) 4 ≤ I1 (h + 25 + 2 * og o) 7 := by
    rw [show I1 (h + 25 + 2 * og o) 4 = f1 (90 + 12 * o + 3) from H1.od (k := 3) ho (by decide), H1.gd ho, (sIb_good (J.2.2.1 o ho)).1, b2, J.2.2.2.2]
    exact (nI_leI (by omega) (by omega)).mpr (Nat.le_refl _)
  refine jx_aload_n (pc := 79) C dX0_workLoom_79 rfl ?_
  refine jx_callD (pc := 80) C (go_X0_143 C (S.od (G.lt o (by omega))) (Nat.le_of_ble_eq_true rfl) dX0_workLoom_80) (t_X1_isDone (S.od (G.lt o (by omega)))) (by decide) (by decide) ⟨Nat.zero_le _, Nat.zero_le _⟩ ?_
  refine jx_if_eq (pc := 83) C (tgt := 91) dX0_workLoom_83 (by decide) (fun c83 => (by exfalso; rw [bI_0] at c83; exact of_decide_eq_false c83 hd)) (fun c83 => ?_)
  rw [bI_0, decide_eq_false_iff_not, Decidable.not_not] at c83
  refine jx_aload_n (pc := 86) C dX0_workLoom_86 rfl ?_
  refine jx_aload_n (pc := 87) C dX0_workLoom_87 rfl ?_
  refine jx_callv (pc := 88) C (go_X0_156 C S.hall (Nat.le_of_ble_eq_true rfl) dX0_workLoom_88) (t_X0_finish S T G H1 J ho) (by decide) (by decide) ⟨Nat.zero_le _, Nat.zero_le _⟩ (fun I88 P88 L88 q88 => ?_)
  skip
  refine jx_iload (pc := 91) C dX0_workLoom_91 rfl ?_
  exact jn_iret (pc := 93) C hr (by
    obtain ⟨⟨og2, q1, q2⟩, q3, q4, q5⟩ := q88
    exact ⟨_, rfl, rfl, ⟨og2, by rw [← hF1]; exact q1, q2⟩, F1.tr q3, q4, q5⟩) dX0_workLoom_93
set_option maxHeartbeats 4000000 in
theorem lp_X0_wl79n {p : Program} {l : Launch} {e : Env} {s : State} {m : MethodId} {args : Array Value} {below : List Frame} {meth : Method} {c : Code} {D : va_G} {cA : Nat → ClassId} {N0 : Nat} {Sh : jS} {I : jI} {P : jP} {L : jL} (C : jC p (jRm 3 0 0) s m args meth c D cA N0 cX0_workLoom 7 RX0 3) {h w : Nat} {og : Nat → Nat} (S : hS Sh h) (T : hP P h) (G : hG P h og) {o N : Nat} {F : sF} (hr : meth.sig.returnType = some .int) {f1 : sF} {I1 : jI} (H1 : hR I1 h og f1) (V1 : sI f1) (ho : o < smany f1) (F1 : hF I h I1) (hF1 : f1 = F) (n i : Nat) (x : Option Value) (hN : n = N) : jJ p l e (jRm 3 0 0) s m args below meth c D cA N0 7 (MQ below (jQn D cA N0 Sh (jNi (fun v' I' P' L' => v' = nI N ∧ (∃ og', hR I' h og' F ∧ hG P' h og') ∧ hF I h I' ∧ hFP P h P' ∧ L' = L))) args s 0 0 (fun q => N0 ≤ q)) (fun _ => True) Sh I1 P L 0 0 79 [some (.ref h), some (.ref (h + 7 + 3 * w)), some (.int (nI w)), some (.ref (h + 25 + 2 * og o)), some (.int (nI (n))), some (.int (nI (i))), x] [] := by
  subst hN
  subst hF1
  have hk := V1.1.2.1
  have hnd : ¬ I1 (h + 25 + 2 * og o) 4 ≤ I1 (h + 25 + 2 * og o) 7 := lp_und H1 V1 ho
  refine jx_aload_n (pc := 79) C dX0_workLoom_79 rfl ?_
  refine jx_callD (pc := 80) C (go_X0_143 C (S.od (G.lt o (by omega))) (Nat.le_of_ble_eq_true rfl) dX0_workLoom_80) (t_X1_isDone (S.od (G.lt o (by omega)))) (by decide) (by decide) ⟨Nat.zero_le _, Nat.zero_le _⟩ ?_
  refine jx_if_eq (pc := 83) C (tgt := 91) dX0_workLoom_83 (by decide) (fun c83 => ?_) (fun c83 => (by exfalso; exact c83 (by rw [bI_0]; exact decide_eq_false hnd)))
  rw [bI_0, decide_eq_false_iff_not] at c83
  refine jx_iload (pc := 91) C dX0_workLoom_91 rfl ?_
  exact jn_iret (pc := 93) C hr (⟨_, rfl, rfl, ⟨og, H1, G⟩, F1, hFP.rf, rfl⟩) dX0_workLoom_93
set_option maxHeartbeats 4000000 in
theorem lp_X0_wl {p : Program} {l : Launch} {e : Env} {s : State} {m : MethodId} {args : Array Value} {below : List Frame} {meth : Method} {c : Code} {D : va_G} {cA : Nat → ClassId} {N0 : Nat} {Sh : jS} {I : jI} {P : jP} {L : jL} (C : jC p (jRm 3 0 0) s m args meth c D cA N0 cX0_workLoom 7 RX0 3) {h w : Nat} {og : Nat → Nat} (S : hS Sh h) (T : hP P h) (G : hG P h og) (hw : w < 6) {o sp N : Nat} {F : sF} (hsp : sp ≤ 9) (hr : meth.sig.returnType = some .int) : ∀ r i n I1 f1 x, i + r = sp → hR I1 h og f1 → sI f1 → o < smany f1 → f1 (18 + 12 * w + 1) = nI sp → hF I h I1 → (swv w o r f1).1 = F → n + (swv w o r f1).2 = N → jJ p l e (jRm 3 0 0) s m args below meth c D cA N0 7 (MQ below (jQn D cA N0 Sh (jNi (fun v' I' P' L' => v' = nI N ∧ (∃ og', hR I' h og' F ∧ hG P' h og') ∧ hF I h I' ∧ hFP P h P' ∧ L' = L))) args s 0 0 (fun q => N0 ≤ q)) (fun _ => True) Sh I1 P L 0 0 18 [some (.ref h), some (.ref (h + 7 + 3 * w)), some (.int (nI w)), some (.ref (h + 25 + 2 * og o)), some (.int (nI (n))), some (.int (nI (i))), x] [] := by
  intro r
  induction r with
  | zero =>
    intro i n I1 f1 x hi H1 V1 ho hs F1 e1 e2
    obtain rfl : i = sp := by omega
    refine jx_iload (pc := 18) C dX0_workLoom_18 rfl ?_
    refine jx_aload_n (pc := 20) C dX0_workLoom_20 rfl ?_
    refine jx_getIv (pc := 21) C kf_X0_140 rfl (S.wv hw) ((H1.wv (k := 1) hw (by decide)).trans hs) dX0_workLoom_21 ?_
    refine jx_icmp_ge (pc := 24) C (tgt := 79) dX0_workLoom_24 (by decide) (fun c24 => ?_) (fun c24 => (by rw [nI_leI (by omega) (by omega)] at c24; exfalso; omega))
    rw [nI_leI (by omega) (by omega)] at c24
    exact lp_X0_wl79n C S T G hr H1 V1 ho F1 e1 n _ x e2
  | succ r ih =>
    intro i n I1 f1 x hi H1 V1 ho hs F1 e1 e2
    have hk := V1.1.2.1
    have hnd : ¬ I1 (h + 25 + 2 * og o) 4 ≤ I1 (h + 25 + 2 * og o) 7 := lp_und H1 V1 ho
    cases ht : stake f1 w o with
    | none =>
      have hsw : swv w o (r + 1) f1 = (f1, 0) := by
        show (match stake f1 w o with | none => _ | some _ => _) = _
        rw [ht]
      rw [hsw] at e1 e2
      have hab : ¬ (sgrams f1 o ≤ f1 (18 + 12 * w + (8 + scol f1 o))) ∧ ¬ (f1 1 = nI 1 ∧ sgrams f1 o ≤ f1 (14 + scol f1 o)) := by
        unfold stake at ht
        split at ht
        · cases ht
        · rename_i q1
          split at ht
          · cases ht
          · rename_i q2
            exact ⟨q1, q2⟩
      refine jx_iload (pc := 18) C dX0_workLoom_18 rfl ?_
      refine jx_aload_n (pc := 20) C dX0_workLoom_20 rfl ?_
      refine jx_getIv (pc := 21) C kf_X0_140 rfl (S.wv hw) ((H1.wv (k := 1) hw (by decide)).trans hs) dX0_workLoom_21 ?_
      refine jx_icmp_ge (pc := 24) C (tgt := 79) dX0_workLoom_24 (by decide) (fun c24 => (by rw [nI_leI (by omega) (by omega)] at c24; exfalso; omega)) (fun c24 => ?_)
      rw [nI_leI (by omega) (by omega)] at c24
      refine jx_aload_n (pc := 27) C dX0_workLoom_27 rfl ?_
      refine jx_callD (pc := 28) C (go_X0_143 C (S.od (G.lt o (by omega))) (Nat.le_of_ble_eq_true rfl) dX0_workLoom_28) (t_X1_isDone (S.od (G.lt o (by omega)))) (by decide) (by decide) ⟨Nat.zero_le _, Nat.zero_le _⟩ ?_
      refine jx_if_ne (pc := 31) C (tgt := 79) dX0_workLoom_31 (by decide) (fun c31 => (by exfalso; exact c31 (by rw [bI_0]; exact decide_eq_false hnd))) (fun c31 => ?_)
      rw [bI_0, decide_eq_false_iff_not] at c31
      refine jx_aload_n (pc := 34) C dX0_workLoom_34 rfl ?_
      refine jx_aload_n (pc := 35) C dX0_workLoom_35 rfl ?_
      refine jx_aload_n (pc := 36) C dX0_workLoom_36 rfl ?_
      refine jx_callD (pc := 37) C (go_X0_111 C S.hall (Nat.le_of_ble_eq_true rfl) dX0_workLoom_37) (t_X0_sourceOf_n S T G H1 V1 hw ho hab.1 hab.2) (by decide) (by decide) ⟨Nat.zero_le _, Nat.zero_le _⟩ ?_
      refine jx_astoreN (pc := 40) C dX0_workLoom_40 (jset_6 jc_i) (by decide) ?_
      refine jx_aloadN (pc := 42) C dX0_workLoom_42 rfl ?_
      refine jx_ifnonnullN (pc := 44) C dX0_workLoom_44 ?_
      refine jx_goto (pc := 47) C (tgt := 79) dX0_workLoom_47 (by decide) ?_
      exact lp_X0_wl79n C S T G hr H1 V1 ho F1 e1 n _ _ (by omega)
    | some f2 =>
      obtain ⟨V2, m2⟩ := stake_I V1 hw ho ht
      have hs2 : f2 (18 + 12 * w + 1) = nI sp := (stake_k ht (by omega) (by have := (V1.1.2.2.1 o ho).2; omega) (by omega) (by omega) (by omega)).trans hs
      have ho2 : o < smany f2 := by rw [m2]; exact ho
      have m3 := (smake_I V2 hw ho2).1
      have hs3 : smake f2 w o (18 + 12 * w + 1) = nI sp := (smake_k (by omega) (by omega) (by omega) (by omega) (by omega)).trans hs2
      have hsw : swv w o (r + 1) f1 = if sgood (smake f2 w o) o = smake f2 w o (90 + 12 * o + 3) then (spaysF (smake f2 w o) o, 1) else ((swv w o r (smake f2 w o)).1, (swv w o r (smake f2 w o)).2 + 1) := by
        show (match stake f1 w o with | none => _ | some _ => _) = _
        rw [ht]
      rw [hsw] at e1 e2
      have ho3 : o < smany (smake f2 w o) := by rw [m3]; exact ho2
      have key : ∀ (I3 : jI) (y : Option Value), hR I3 h og (smake f2 w o) → hF I h I3 → jJ p l e (jRm 3 0 0) s m args below meth c D cA N0 7 (MQ below (jQn D cA N0 Sh (jNi (fun v' I' P' L' => v' = nI N ∧ (∃ og', hR I' h og' F ∧ hG P' h og') ∧ hF I h I' ∧ hFP P h P' ∧ L' = L))) args s 0 0 (fun q => N0 ≤ q)) (fun _ => True) Sh I3 P L 0 0 73 [some (.ref h), some (.ref (h + 7 + 3 * w)), some (.int (nI w)), some (.ref (h + 25 + 2 * og o)), some (.int (nI (n + 1))), some (.int (nI (i))), y] [] := by
        intro I3 y H3 F3
        rcases smake_IJ V2 hw ho2 with ⟨c1, J3⟩ | ⟨c1, V3⟩
        · rw [if_pos c1] at e1 e2
          have k79 := fun j => lp_X0_wl79 (p := p) (l := l) (e := e) (below := below) (w := w) (P := P) (L := L) C S T G hr H3 J3 ho3 F3 e1 (n + 1) j y e2
          have hd : I3 (h + 25 + 2 * og o) 4 ≤ I3 (h + 25 + 2 * og o) 7 := by
            rw [show I3 (h + 25 + 2 * og o) 4 = smake f2 w o (90 + 12 * o + 3) from H3.od (k := 3) ho3 (by decide), H3.gd ho3, c1]
            exact (i32_le _ _).mpr (Int.le_refl _)
          refine jx_iincN (pc := 73) C dX0_workLoom_73 rfl (jset_5 jc_i) (by decide) ?_
          refine jx_goto (pc := 76) C (tgt := 18) dX0_workLoom_76 (by decide) ?_
          refine jx_iload (pc := 18) C dX0_workLoom_18 rfl ?_
          refine jx_aload_n (pc := 20) C dX0_workLoom_20 rfl ?_
          refine jx_getIv (pc := 21) C kf_X0_140 rfl (S.wv hw) ((H3.wv (k := 1) hw (by decide)).trans hs3) dX0_workLoom_21 ?_
          refine jx_icmp_ge (pc := 24) C (tgt := 79) dX0_workLoom_24 (by decide) (fun c24 => ?_) (fun c24 => ?_)
          · rw [nI_leI (by omega) (by omega)] at c24
            exact k79 (i + 1)
          · rw [nI_leI (by omega) (by omega)] at c24
            refine jx_aload_n (pc := 27) C dX0_workLoom_27 rfl ?_
            refine jx_callD (pc := 28) C (go_X0_143 C (S.od (G.lt o (by omega))) (Nat.le_of_ble_eq_true rfl) dX0_workLoom_28) (t_X1_isDone (S.od (G.lt o (by omega)))) (by decide) (by decide) ⟨Nat.zero_le _, Nat.zero_le _⟩ ?_
            refine jx_if_ne (pc := 31) C (tgt := 79) dX0_workLoom_31 (by decide) (fun c31 => ?_) (fun c31 => (by exfalso; rw [bI_0] at c31; exact of_decide_eq_false c31 hd))
            rw [bI_0, decide_eq_false_iff_not, Decidable.not_not] at c31
            exact k79 (i + 1)
        · rw [if_neg c1] at e1 e2
          refine jx_iincN (pc := 73) C dX0_workLoom_73 rfl (jset_5 jc_i) (by decide) ?_
          refine jx_goto (pc := 76) C (tgt := 18) dX0_workLoom_76 (by decide) ?_
          exact ih (i + 1) (n + 1) I3 _ y (by omega) H3 V3 ho3 hs3 F3 e1 (by omega)
      have hc4 := (V1.1.2.2.1 o ho).2
      have key62 : ∀ (I2 : jI) (y : Option Value), hR I2 h og f2 → hF I h I2 → jJ p l e (jRm 3 0 0) s m args below meth c D cA N0 7 (MQ below (jQn D cA N0 Sh (jNi (fun v' I' P' L' => v' = nI N ∧ (∃ og', hR I' h og' F ∧ hG P' h og') ∧ hF I h I' ∧ hFP P h P' ∧ L' = L))) args s 0 0 (fun q => N0 ≤ q)) (fun _ => True) Sh I2 P L 0 0 61 [some (.ref h), some (.ref (h + 7 + 3 * w)), some (.int (nI w)), some (.ref (h + 25 + 2 * og o)), some (.int (nI (n + 1))), some (.int (nI (i))), y] [] := by
        intro I2 y H2 F2
        have k2 := V2.1.2.1
        have d2 : I2 (h + 7 + 3 * w) 3 = f2 (18 + 12 * w + 2) := H2.wv (k := 2) hw (by decide)
        have d5 : I2 (h + 7 + 3 * w) 6 = f2 (18 + 12 * w + 5) := H2.wv (k := 5) hw (by decide)
        have d6 : I2 (h + 7 + 3 * w) 7 = f2 (18 + 12 * w + 6) := H2.wv (k := 6) hw (by decide)
        have R1 := H2.pw (k := 5) k2 G.lt hw (by decide) (v := f2 (18 + 12 * w + 5) + nI 1)
        have e5 : smany (upd f2 (18 + 12 * w + 5) (f2 (18 + 12 * w + 5) + nI 1)) = smany f2 := smany_u (by omega)
        refine jx_aload_n (pc := 61) C dX0_workLoom_61 rfl ?_
        refine jx_callD (pc := 62) C (go_X0_150 C (S.wv hw) (Nat.le_of_ble_eq_true rfl) dX0_workLoom_62) (t_X3_weavesGood (S.wv hw)) (by decide) (by decide) ⟨Nat.zero_le _, Nat.zero_le _⟩ ?_
        rw [d2, d5, d6]
        by_cases hg : 0 < f2 (18 + 12 * w + 2) ∧ (f2 (18 + 12 * w + 5) + nI 1) - (f2 (18 + 12 * w + 5) + nI 1) / f2 (18 + 12 * w + 2) * f2 (18 + 12 * w + 2) = 0
        · rw [if_pos hg]
          have hb0 : bI (decide ¬ (0 < f2 (18 + 12 * w + 2) ∧ (f2 (18 + 12 * w + 5) + nI 1) - (f2 (18 + 12 * w + 5) + nI 1) / f2 (18 + 12 * w + 2) * f2 (18 + 12 * w + 2) = 0)) = 0 := by rw [bI_0]; exact decide_eq_false (fun z => z hg)
          have R2 := R1.pw (k := 6) (by rw [e5]; exact k2) G.lt hw (by decide) (v := f2 (18 + 12 * w + 6) + nI 1)
          have R3 : hR _ h og (smake f2 w o) := R2.cong (by rw [smany_u (by omega), e5]; exact k2) (fun k q1 q2 q3 => by
            rw [smake_y hg, upd_n q3]
            simp only [upd, q2, if_false])
          refine jx_if_eq (pc := 65) C (tgt := 73) dX0_workLoom_65 (by decide) (fun c65 => ?_) (fun c65 => (by exfalso; exact c65 hb0))
          exact key _ _ R3 ((F2.st (by omega)).st (by omega))
        · rw [if_neg hg]
          have hb0 : ¬ bI (decide ¬ (0 < f2 (18 + 12 * w + 2) ∧ (f2 (18 + 12 * w + 5) + nI 1) - (f2 (18 + 12 * w + 5) + nI 1) / f2 (18 + 12 * w + 2) * f2 (18 + 12 * w + 2) = 0)) = 0 := by rw [bI_0]; exact fun z => of_decide_eq_false z hg
          have R2 := R1.good (by rw [e5]; exact k2) G.lt G.2 (show o < smany (upd f2 (18 + 12 * w + 5) (f2 (18 + 12 * w + 5) + nI 1)) by rw [e5]; exact ho2) hw
          have hqo := G.lt o (by omega)
          have R3 : hR _ h og (smake f2 w o) := R2.cong (by rw [smany_u (by omega), e5]; exact k2) (fun k q1 q2 q3 => by
            rw [smake_n hg hw, upd_n (show 90 + 12 * o + 6 + w ≠ 18 + 12 * w + 5 by omega)]
            simp only [upd, q2, if_false])
          refine jx_if_eq (pc := 65) C (tgt := 73) dX0_workLoom_65 (by decide) (fun c65 => (by exfalso; exact hb0 c65)) (fun c65 => ?_)
          refine jx_aload_n (pc := 68) C dX0_workLoom_68 rfl ?_
          refine jx_iload_n (pc := 69) C dX0_workLoom_69 rfl ?_
          refine jx_callDv (pc := 70) C (go_X0_153 C (S.od (G.lt o (by omega))) (Nat.le_of_ble_eq_true rfl) dX0_workLoom_70) (t_X1_addGood (S.od (G.lt o (by omega))) (S.ob (G.lt o (by omega))) (T.ob (G.lt o (by omega))) (by omega) hw) (by decide) (by decide) ⟨Nat.zero_le _, Nat.zero_le _⟩ ?_
          exact key _ _ R3 (((F2.st (by omega)).st (by omega)).st (by omega))
      by_cases ha : sgrams f1 o ≤ f1 (18 + 12 * w + (8 + scol f1 o))
      · refine jx_iload (pc := 18) C dX0_workLoom_18 rfl ?_
        refine jx_aload_n (pc := 20) C dX0_workLoom_20 rfl ?_
        refine jx_getIv (pc := 21) C kf_X0_140 rfl (S.wv hw) ((H1.wv (k := 1) hw (by decide)).trans hs) dX0_workLoom_21 ?_
        refine jx_icmp_ge (pc := 24) C (tgt := 79) dX0_workLoom_24 (by decide) (fun c24 => (by rw [nI_leI (by omega) (by omega)] at c24; exfalso; omega)) (fun c24 => ?_)
        rw [nI_leI (by omega) (by omega)] at c24
        refine jx_aload_n (pc := 27) C dX0_workLoom_27 rfl ?_
        refine jx_callD (pc := 28) C (go_X0_143 C (S.od (G.lt o (by omega))) (Nat.le_of_ble_eq_true rfl) dX0_workLoom_28) (t_X1_isDone (S.od (G.lt o (by omega)))) (by decide) (by decide) ⟨Nat.zero_le _, Nat.zero_le _⟩ ?_
        refine jx_if_ne (pc := 31) C (tgt := 79) dX0_workLoom_31 (by decide) (fun c31 => (by exfalso; exact c31 (by rw [bI_0]; exact decide_eq_false hnd))) (fun c31 => ?_)
        rw [bI_0, decide_eq_false_iff_not] at c31
        refine jx_aload_n (pc := 34) C dX0_workLoom_34 rfl ?_
        refine jx_aload_n (pc := 35) C dX0_workLoom_35 rfl ?_
        refine jx_aload_n (pc := 36) C dX0_workLoom_36 rfl ?_
        refine jx_callD (pc := 37) C (go_X0_111 C S.hall (Nat.le_of_ble_eq_true rfl) dX0_workLoom_37) (t_X0_sourceOf_a S T G H1 V1 hw ho ha) (by decide) (by decide) ⟨Nat.zero_le _, Nat.zero_le _⟩ ?_
        refine jx_astore (pc := 40) C dX0_workLoom_40 (jset_6 jc_i) (by decide) ?_
        refine jx_aload (pc := 42) C dX0_workLoom_42 rfl ?_
        refine jx_ifnonnull (pc := 44) C (tgt := 50) dX0_workLoom_44 (by decide) ?_
        refine jx_aload_n (pc := 50) C dX0_workLoom_50 rfl ?_
        refine jx_aload (pc := 51) C dX0_workLoom_51 rfl ?_
        refine jx_aload_n (pc := 53) C dX0_workLoom_53 rfl ?_
        refine jx_aload_n (pc := 54) C dX0_workLoom_54 rfl ?_
        refine jx_callv (pc := 55) C (go_X0_146 C S.hall (Nat.le_of_ble_eq_true rfl) dX0_workLoom_55) (t_X0_takeYarn_a S T G H1 V1 hw ho ha ht) (by decide) (by decide) ⟨Nat.zero_le _, Nat.zero_le _⟩ (fun I55 P55 L55 q55 => ?_)
        obtain ⟨H2, F2, rfl, rfl⟩ := q55
        refine jx_iincN (pc := 58) C dX0_workLoom_58 rfl (jset_4 jc_r) (by decide) ?_
        exact key62 _ _ H2 (F1.tr F2)
      · have hb : f1 1 = nI 1 ∧ sgrams f1 o ≤ f1 (14 + scol f1 o) := by
          refine Decidable.of_not_not (fun z => ?_)
          unfold stake at ht
          rw [if_neg ha, if_neg z] at ht
          cases ht
        refine jx_iload (pc := 18) C dX0_workLoom_18 rfl ?_
        refine jx_aload_n (pc := 20) C dX0_workLoom_20 rfl ?_
        refine jx_getIv (pc := 21) C kf_X0_140 rfl (S.wv hw) ((H1.wv (k := 1) hw (by decide)).trans hs) dX0_workLoom_21 ?_
        refine jx_icmp_ge (pc := 24) C (tgt := 79) dX0_workLoom_24 (by decide) (fun c24 => (by rw [nI_leI (by omega) (by omega)] at c24; exfalso; omega)) (fun c24 => ?_)
        rw [nI_leI (by omega) (by omega)] at c24
        refine jx_aload_n (pc := 27) C dX0_workLoom_27 rfl ?_
        refine jx_callD (pc := 28) C (go_X0_143 C (S.od (G.lt o (by omega))) (Nat.le_of_ble_eq_true rfl) dX0_workLoom_28) (t_X1_isDone (S.od (G.lt o (by omega)))) (by decide) (by decide) ⟨Nat.zero_le _, Nat.zero_le _⟩ ?_
        refine jx_if_ne (pc := 31) C (tgt := 79) dX0_workLoom_31 (by decide) (fun c31 => (by exfalso; exact c31 (by rw [bI_0]; exact decide_eq_false hnd))) (fun c31 => ?_)
        rw [bI_0, decide_eq_false_iff_not] at c31
        refine jx_aload_n (pc := 34) C dX0_workLoom_34 rfl ?_
        refine jx_aload_n (pc := 35) C dX0_workLoom_35 rfl ?_
        refine jx_aload_n (pc := 36) C dX0_workLoom_36 rfl ?_
        refine jx_callD (pc := 37) C (go_X0_111 C S.hall (Nat.le_of_ble_eq_true rfl) dX0_workLoom_37) (t_X0_sourceOf_b S T G H1 V1 hw ho ha hb) (by decide) (by decide) ⟨Nat.zero_le _, Nat.zero_le _⟩ ?_
        refine jx_astore (pc := 40) C dX0_workLoom_40 (jset_6 jc_i) (by decide) ?_
        refine jx_aload (pc := 42) C dX0_workLoom_42 rfl ?_
        refine jx_ifnonnull (pc := 44) C (tgt := 50) dX0_workLoom_44 (by decide) ?_
        refine jx_aload_n (pc := 50) C dX0_workLoom_50 rfl ?_
        refine jx_aload (pc := 51) C dX0_workLoom_51 rfl ?_
        refine jx_aload_n (pc := 53) C dX0_workLoom_53 rfl ?_
        refine jx_aload_n (pc := 54) C dX0_workLoom_54 rfl ?_
        refine jx_callv (pc := 55) C (go_X0_146 C S.hall (Nat.le_of_ble_eq_true rfl) dX0_workLoom_55) (t_X0_takeYarn_b S T G H1 V1 hw ho ha hb ht) (by decide) (by decide) ⟨Nat.zero_le _, Nat.zero_le _⟩ (fun I55 P55 L55 q55 => ?_)
        obtain ⟨H2, F2, rfl, rfl⟩ := q55
        refine jx_iincN (pc := 58) C dX0_workLoom_58 rfl (jset_4 jc_r) (by decide) ?_
        exact key62 _ _ H2 (F1.tr F2)
set_option maxHeartbeats 4000000 in
theorem b_X0_workLoom {p : Program} {l : Launch} {e : Env} {s : State} {m : MethodId} {args : Array Value} {below : List Frame} {meth : Method} {c : Code} {D : va_G} {cA : Nat → ClassId} {N0 : Nat} {Sh : jS} {I : jI} {P : jP} {L : jL} (C : jC p (jRm 3 0 0) s m args meth c D cA N0 cX0_workLoom 7 RX0 3) (hr : meth.sig.returnType = (some .int)) {h : Nat} {og : Nat → Nat} {f : sF} (S : hS Sh h) (T : hP P h) (G : hG P h og) (H : hR I h og f) (V : sI f) {w : Nat} (hw : w < 6) : jJ p l e (jRm 3 0 0) s m args below meth c D cA N0 7 (MQ below (jQn D cA N0 Sh (jNi (fun v' I' P' L' => v' = nI (sweaves f w).2 ∧ (∃ og', hR I' h og' (sweaves f w).1 ∧ hG P' h og') ∧ hF I h I' ∧ hFP P h P' ∧ L' = L))) args s 0 0 (fun q => N0 ≤ q)) (fun _ => True) Sh I P L 0 0 0 [some (.ref h), some (.ref (h + 7 + 3 * w)), some (.int (nI w)), none, none, none, none] [] := by
  have hk := V.1.2.1
  have hm := V.1.1
  obtain ⟨hs, hs9⟩ := V.1.2.2.2 w hw
  cases hq : schos f w with
  | none =>
    have e : sweaves f w = (f, 0) := by unfold sweaves; rw [hq]
    refine jx_aload_n (pc := 0) C dX0_workLoom_0 rfl ?_
    refine jx_aload_n (pc := 1) C dX0_workLoom_1 rfl ?_
    refine jx_callD (pc := 2) C (go_X0_103 C S.hall (Nat.le_of_ble_eq_true rfl) dX0_workLoom_2) (t_X0_choiceOf_n S T G H V hw hq) (by decide) (by decide) ⟨Nat.zero_le _, Nat.zero_le _⟩ ?_
    refine jx_astore_nN (pc := 5) C dX0_workLoom_5 (jset_3 jc_i) (by decide) ?_
    refine jx_aload_nN (pc := 6) C dX0_workLoom_6 rfl ?_
    refine jx_ifnonnullN (pc := 7) C dX0_workLoom_7 ?_
    refine jx_iconst (pc := 10) C dX0_workLoom_10 nc_0 ?_
    exact jn_iret (pc := 11) C hr (⟨_, rfl, by rw [e], ⟨og, by rw [e]; exact H, G⟩, hF.rf, hFP.rf, rfl⟩) dX0_workLoom_11
  | some o =>
    have ho := (schosN_lt hq).1
    have e : sweaves f w = swv w o (sspd f w) f := by unfold sweaves; rw [hq]
    rw [e]
    refine jx_aload_n (pc := 0) C dX0_workLoom_0 rfl ?_
    refine jx_aload_n (pc := 1) C dX0_workLoom_1 rfl ?_
    refine jx_callD (pc := 2) C (go_X0_103 C S.hall (Nat.le_of_ble_eq_true rfl) dX0_workLoom_2) (t_X0_choiceOf_s S T G H V hw hq) (by decide) (by decide) ⟨Nat.zero_le _, Nat.zero_le _⟩ ?_
    refine jx_astore_n (pc := 5) C dX0_workLoom_5 (jset_3 jc_i) (by decide) ?_
    refine jx_aload_n (pc := 6) C dX0_workLoom_6 rfl ?_
    refine jx_ifnonnull (pc := 7) C (tgt := 12) dX0_workLoom_7 (by decide) ?_
    refine jx_iconst (pc := 12) C dX0_workLoom_12 nc_0 ?_
    refine jx_istore (pc := 13) C dX0_workLoom_13 (jset_4 jc_r) (by decide) ?_
    refine jx_iconst (pc := 15) C dX0_workLoom_15 nc_0 ?_
    refine jx_istore (pc := 16) C dX0_workLoom_16 (jset_5 jc_i) (by decide) ?_
    exact lp_X0_wl C S T G hw hs9 hr (sspd f w) 0 0 I f none (Nat.zero_add _) H V ho hs hF.rf rfl (Nat.zero_add _)
theorem t_X0_workLoom {l : Launch} {D : va_G} {cA : Nat → ClassId} {N0 : Nat} {Sh : jS} {I : jI} {P : jP} {L : jL} {h : Nat} {og : Nat → Nat} {f : sF} (S : hS Sh h) (T : hP P h) (G : hG P h og) (H : hR I h og f) (V : sI f) {w : Nat} (hw : w < 6) : jN l D cA N0 3 yX0_workLoom cX0_workLoom 7 (some .int) [.ref h, .ref (h + 7 + 3 * w), .int (nI w)] Sh I P L (jNi (fun v' I' P' L' => v' = nI (sweaves f w).2 ∧ (∃ og', hR I' h og' (sweaves f w).1 ∧ hG P' h og') ∧ hF I h I' ∧ hFP P h P' ∧ L' = L)) := jN_of (by decide) (Nat.le_of_ble_eq_true rfl) (fun _ _ _ _ _ _ _ _ C hr => b_X0_workLoom C hr S T G H V hw)
set_option maxHeartbeats 4000000 in
theorem lp_X0_passHour {p : Program} {l : Launch} {e : Env} {s : State} {m : MethodId} {args : Array Value} {below : List Frame} {meth : Method} {c : Code} {D : va_G} {cA : Nat → ClassId} {N0 : Nat} {Sh : jS} {I : jI} {P : jP} {L : jL} {Qf : State → Prop} (C : jC p (jRm 4 0 0) s m args meth c D cA N0 cX0_passHour 4 RX0 4) {h : Nat} {og : Nat → Nat} {f : sF} (S : hS Sh h) (T : hP P h) (V : sI f) (hx : ∀ I1 P1 og1 x, hR I1 h og1 (shourN f 6) → hG P1 h og1 → hF I h I1 → hFP P h P1 → jJ p l e (jRm 4 0 0) s m args below meth c D cA N0 4 Qf (fun _ => True) Sh I1 P1 L 0 0 65 [some (.ref h), some (.int (nI (swork f 6))), some (.int (nI (6))), x] []) : ∀ d w I1 P1 og1 x, w + d = 6 → hR I1 h og1 (shourN f w) → hG P1 h og1 → hF I h I1 → hFP P h P1 → jJ p l e (jRm 4 0 0) s m args below meth c D cA N0 4 Qf (fun _ => True) Sh I1 P1 L 0 0 4 [some (.ref h), some (.int (nI (swork f w))), some (.int (nI (w))), x] [] := by
  have hk := V.1.2.1
  intro d
  induction d with
  | zero =>
    intro w I1 P1 og1 x hw H1 G1 F1 E1
    obtain rfl : w = 6 := by omega
    have T1 := T.fr E1
    refine jx_iload_n (pc := 4) C dX0_passHour_4 rfl ?_
    refine jx_aload_n (pc := 5) C dX0_passHour_5 rfl ?_
    refine jx_getP (pc := 6) C kf_X0_11 rfl S.hall T1.wa dX0_passHour_6 ?_
    refine jx_alen12 (pc := 9) C S.wa dX0_passHour_9 ?_
    refine jx_icmp_ge (pc := 10) C (tgt := 65) dX0_passHour_10 (by decide) (fun c10 => ?_) (fun c10 => (by rw [nI_leI (by omega) (by omega)] at c10; exfalso; omega))
    rw [nI_leI (by omega) (by omega)] at c10
    exact hx _ _ _ _ H1 G1 F1 E1
  | succ d ih =>
    intro w I1 P1 og1 x hw H1 G1 F1 E1
    have T1 := T.fr E1
    have V1 := shourN_I V w (by omega)
    have hw6 : w < 6 := by omega
    have hsl := swork_le V.1 w (by omega)
    have hs2 := sweaves_2 V1.1 hw6
    have d0 : I1 (h + 7 + 3 * w) 1 = shourN f w (18 + 12 * w + 0) := H1.wv (k := 0) hw6 (by decide)
    by_cases hl : 0 < shourN f w (18 + 12 * w + 0)
    · have hb : ¬ bI (decide (0 < I1 (h + 7 + 3 * w) 1)) = 0 := by rw [bI_0, d0]; exact fun z => of_decide_eq_false z hl
      have es : shourN f (w + 1) = sweave (shourN f w) w := if_pos hl
      have en : swork f (w + 1) = swork f w + (sweaves (shourN f w) w).2 := by show swork f w + (if _ then _ else _) = _; rw [if_pos hl]
      have V2 := sweaves_I hw6 V1
      have key : ∀ (I2 : jI) (P2 : jP) (og2 : Nat → Nat) (v y : Int32), hR I2 h og2 (sweaves (shourN f w) w).1 → hG P2 h og2 → hF I h I2 → hFP P h P2 → v = (if (sweaves (shourN f w) w).2 = 0 then nI 1 else nI 0) → jJ p l e (jRm 4 0 0) s m args below meth c D cA N0 4 Qf (fun _ => True) Sh I2 P2 L 0 0 55 [some (.ref h), some (.int (nI (swork f w + (sweaves (shourN f w) w).2))), some (.int (nI w)), some (.int y)] [.int v, .int ((sweaves (shourN f w) w).1 13), .ref h] := by
        intro I2 P2 og2 v y H2 G2 F2 E2 hv
        subst hv
        have R := H2.p12 V2.1.2.1 G2.lt (v := (sweaves (shourN f w) w).1 13 + (if (sweaves (shourN f w) w).2 = 0 then nI 1 else nI 0))
        have h6 := ih (w + 1) _ P2 og2 (some (.int y)) (by omega) (by rw [es]; exact R) G2 (F2.st (by omega)) E2
        rw [en] at h6
        refine jx_iadd (pc := 55) C dX0_passHour_55 ?_
        refine jx_putI (pc := 56) C kf_X0_71 rfl rfl rfl rfl S.hall dX0_passHour_56 ?_
        refine jx_iincN (pc := 59) C dX0_passHour_59 rfl (jset_2 jc_i) (by decide) ?_
        refine jx_goto (pc := 62) C (tgt := 4) dX0_passHour_62 (by decide) ?_
        exact h6
      refine jx_iload_n (pc := 4) C dX0_passHour_4 rfl ?_
      refine jx_aload_n (pc := 5) C dX0_passHour_5 rfl ?_
      refine jx_getP (pc := 6) C kf_X0_11 rfl S.hall T1.wa dX0_passHour_6 ?_
      refine jx_alen12 (pc := 9) C S.wa dX0_passHour_9 ?_
      refine jx_icmp_ge (pc := 10) C (tgt := 65) dX0_passHour_10 (by decide) (fun c10 => (by rw [nI_leI (by omega) (by omega)] at c10; exfalso; omega)) (fun c10 => ?_)
      rw [nI_leI (by omega) (by omega)] at c10
      refine jx_aload_n (pc := 13) C dX0_passHour_13 rfl ?_
      refine jx_getP (pc := 14) C kf_X0_11 rfl S.hall T1.wa dX0_passHour_14 ?_
      refine jx_iload_n (pc := 17) C dX0_passHour_17 rfl ?_
      refine jx_aald12 (pc := 18) C S.wa (by omega) (by decide) (T1.wv (show w < 6 by omega)) dX0_passHour_18 ?_
      refine jx_callD (pc := 19) C (go_X0_107 C (S.wv (show w < 6 by omega)) (Nat.le_of_ble_eq_true rfl) dX0_passHour_19) (t_X3_hasLoom (S.wv hw6)) (by decide) (by decide) ⟨Nat.zero_le _, Nat.zero_le _⟩ ?_
      refine jx_if_eq (pc := 22) C (tgt := 59) dX0_passHour_22 (by decide) (fun c22 => (by exfalso; exact hb c22)) (fun c22 => ?_)
      refine jx_aload_n (pc := 25) C dX0_passHour_25 rfl ?_
      refine jx_aload_n (pc := 26) C dX0_passHour_26 rfl ?_
      refine jx_getP (pc := 27) C kf_X0_11 rfl S.hall T1.wa dX0_passHour_27 ?_
      refine jx_iload_n (pc := 30) C dX0_passHour_30 rfl ?_
      refine jx_aald12 (pc := 31) C S.wa (by omega) (by decide) (T1.wv (show w < 6 by omega)) dX0_passHour_31 ?_
      refine jx_iload_n (pc := 32) C dX0_passHour_32 rfl ?_
      refine jx_calli (pc := 33) C (go_X0_136 C S.hall (Nat.le_of_ble_eq_true rfl) dX0_passHour_33) (t_X0_workLoom S T1 G1 H1 V1 hw6) (by decide) (by decide) ⟨Nat.zero_le _, Nat.zero_le _⟩ (fun r33 I33 P33 L33 q33 => ?_)
      obtain ⟨rfl, ⟨og2, H2, G2⟩, F2, E2, rfl⟩ := q33
      refine jx_istore_n (pc := 36) C dX0_passHour_36 (jset_3 jc_i) (by decide) ?_
      refine jx_iload_n (pc := 37) C dX0_passHour_37 rfl ?_
      refine jx_iload_n (pc := 38) C dX0_passHour_38 rfl ?_
      refine jx_iaddN (pc := 39) C dX0_passHour_39 ?_
      refine jx_istore_n (pc := 40) C dX0_passHour_40 (jset_1 jc_r) (by decide) ?_
      refine jx_aload_n (pc := 41) C dX0_passHour_41 rfl ?_
      refine jx_dup (pc := 42) C dX0_passHour_42 rfl ?_
      refine jx_getIv (pc := 43) C kf_X0_71 rfl S.hall H2.n12 dX0_passHour_43 ?_
      refine jx_iload_n (pc := 46) C dX0_passHour_46 rfl ?_
      refine jx_if_ne (pc := 47) C (tgt := 54) dX0_passHour_47 (by decide) (fun c47 => ?_) (fun c47 => ?_)
      · rw [nI_eq0 (by omega)] at c47
        refine jx_iconst (pc := 54) C dX0_passHour_54 nc_0 ?_
        first | exact key _ _ _ _ _ H2 G2 (F1.tr F2) (E1.tr E2) (if_pos c47).symm | exact key _ _ _ _ _ H2 G2 (F1.tr F2) (E1.tr E2) (if_neg c47).symm
      · rw [nI_eq0 (by omega)] at c47
        refine jx_iconst (pc := 50) C dX0_passHour_50 nc_1 ?_
        refine jx_goto (pc := 51) C (tgt := 55) dX0_passHour_51 (by decide) ?_
        first | exact key _ _ _ _ _ H2 G2 (F1.tr F2) (E1.tr E2) (if_pos c47).symm | exact key _ _ _ _ _ H2 G2 (F1.tr F2) (E1.tr E2) (if_neg c47).symm
    · have hb : bI (decide (0 < I1 (h + 7 + 3 * w) 1)) = 0 := by rw [bI_0, d0]; exact decide_eq_false hl
      have es : shourN f (w + 1) = shourN f w := if_neg hl
      have en : swork f (w + 1) = swork f w := by show swork f w + (if _ then _ else _) = _; rw [if_neg hl]; rfl
      have h6 := ih (w + 1) I1 P1 og1 x (by omega) (by rw [es]; exact H1) G1 F1 E1
      rw [en] at h6
      refine jx_iload_n (pc := 4) C dX0_passHour_4 rfl ?_
      refine jx_aload_n (pc := 5) C dX0_passHour_5 rfl ?_
      refine jx_getP (pc := 6) C kf_X0_11 rfl S.hall T1.wa dX0_passHour_6 ?_
      refine jx_alen12 (pc := 9) C S.wa dX0_passHour_9 ?_
      refine jx_icmp_ge (pc := 10) C (tgt := 65) dX0_passHour_10 (by decide) (fun c10 => (by rw [nI_leI (by omega) (by omega)] at c10; exfalso; omega)) (fun c10 => ?_)
      rw [nI_leI (by omega) (by omega)] at c10
      refine jx_aload_n (pc := 13) C dX0_passHour_13 rfl ?_
      refine jx_getP (pc := 14) C kf_X0_11 rfl S.hall T1.wa dX0_passHour_14 ?_
      refine jx_iload_n (pc := 17) C dX0_passHour_17 rfl ?_
      refine jx_aald12 (pc := 18) C S.wa (by omega) (by decide) (T1.wv (show w < 6 by omega)) dX0_passHour_18 ?_
      refine jx_callD (pc := 19) C (go_X0_107 C (S.wv (show w < 6 by omega)) (Nat.le_of_ble_eq_true rfl) dX0_passHour_19) (t_X3_hasLoom (S.wv hw6)) (by decide) (by decide) ⟨Nat.zero_le _, Nat.zero_le _⟩ ?_
      refine jx_if_eq (pc := 22) C (tgt := 59) dX0_passHour_22 (by decide) (fun c22 => ?_) (fun c22 => (by exfalso; exact c22 hb))
      refine jx_iincN (pc := 59) C dX0_passHour_59 rfl (jset_2 jc_i) (by decide) ?_
      refine jx_goto (pc := 62) C (tgt := 4) dX0_passHour_62 (by decide) ?_
      exact h6
set_option maxHeartbeats 4000000 in
theorem b_X0_passHour {p : Program} {l : Launch} {e : Env} {s : State} {m : MethodId} {args : Array Value} {below : List Frame} {meth : Method} {c : Code} {D : va_G} {cA : Nat → ClassId} {N0 : Nat} {Sh : jS} {I : jI} {P : jP} {L : jL} (C : jC p (jRm 4 0 0) s m args meth c D cA N0 cX0_passHour 4 RX0 4) (hr : meth.sig.returnType = (some .int)) {h : Nat} {og : Nat → Nat} {f : sF} (S : hS Sh h) (T : hP P h) (G : hG P h og) (H : hR I h og f) (V : sI f) : jJ p l e (jRm 4 0 0) s m args below meth c D cA N0 4 (MQ below (jQn D cA N0 Sh (jNi (fun v' I' P' L' => v' = nI (swork f 6) ∧ (∃ og', hR I' h og' (shour f) ∧ hG P' h og') ∧ hF I h I' ∧ hFP P h P' ∧ L' = L))) args s 0 0 (fun q => N0 ≤ q)) (fun _ => True) Sh I P L 0 0 0 [some (.ref h), none, none, none] [] := by
  refine jx_iconst (pc := 0) C dX0_passHour_0 nc_0 ?_
  refine jx_istore_n (pc := 1) C dX0_passHour_1 (jset_1 jc_r) (by decide) ?_
  refine jx_iconst (pc := 2) C dX0_passHour_2 nc_0 ?_
  refine jx_istore_n (pc := 3) C dX0_passHour_3 (jset_2 jc_i) (by decide) ?_
  refine lp_X0_passHour (I := I) (P := P) (og := og) C S T V (fun I1 P1 og1 x H1 G1 F1 E1 => ?_) 6 0 I P og none (Nat.zero_add 6) H G hF.rf hFP.rf
  have R := H1.p7 (shourN_OK V.1 6 (Nat.le_refl 6)).2.1 G1.lt (v := shourN f 6 4 + nI 1)
  refine jx_aload_n (pc := 65) C dX0_passHour_65 rfl ?_
  refine jx_dup (pc := 66) C dX0_passHour_66 rfl ?_
  refine jx_getIv (pc := 67) C kf_X0_56 rfl S.hall H1.n7 dX0_passHour_67 ?_
  refine jx_iconst (pc := 70) C dX0_passHour_70 nc_1 ?_
  refine jx_iadd (pc := 71) C dX0_passHour_71 ?_
  refine jx_putI (pc := 72) C kf_X0_56 rfl rfl rfl rfl S.hall dX0_passHour_72 ?_
  refine jx_iload_n (pc := 75) C dX0_passHour_75 rfl ?_
  exact jn_iret (pc := 76) C hr (⟨_, rfl, rfl, ⟨og1, R, G1⟩, F1.st (by omega), E1, rfl⟩) dX0_passHour_76
theorem t_X0_passHour {l : Launch} {D : va_G} {cA : Nat → ClassId} {N0 : Nat} {Sh : jS} {I : jI} {P : jP} {L : jL} {h : Nat} {og : Nat → Nat} {f : sF} (S : hS Sh h) (T : hP P h) (G : hG P h og) (H : hR I h og f) (V : sI f) : jN l D cA N0 4 yX0_passHour cX0_passHour 4 (some .int) [.ref h] Sh I P L (jNi (fun v' I' P' L' => v' = nI (swork f 6) ∧ (∃ og', hR I' h og' (shour f) ∧ hG P' h og') ∧ hF I h I' ∧ hFP P h P' ∧ L' = L)) := jN_of (by decide) (Nat.le_of_ble_eq_true rfl) (fun _ _ _ _ _ _ _ _ C hr => b_X0_passHour C hr S T G H V)
set_option maxHeartbeats 4000000 in
theorem b_X0_dueOf {p : Program} {l : Launch} {e : Env} {s : State} {m : MethodId} {args : Array Value} {below : List Frame} {meth : Method} {c : Code} {D : va_G} {cA : Nat → ClassId} {N0 : Nat} {Sh : jS} {I : jI} {P : jP} {L : jL} (C : jC p (jRm 1 0 0) s m args meth c D cA N0 cX0_dueOf 4 RX0 1) (hr : meth.sig.returnType = (some .int)) {h : Nat} {og : Nat → Nat} {f : sF} (S : hS Sh h) (T : hP P h) (G : hG P h og) (H : hR I h og f) (V : sI f) {w : Nat} (hw : w < 6) {o : Nat} (ho : o < smany f) : jJ p l e (jRm 1 0 0) s m args below meth c D cA N0 4 (MQ below (jQn D cA N0 Sh (jNi (fun v' I' P' L' => v' = sdueN f o w ∧ (∀ b, b ≠ h + 6 → I' b = I b) ∧ P' = P ∧ L' = L))) args s 0 0 (fun q => N0 ≤ q)) (fun _ => True) Sh I P L 0 0 0 [some (.ref h), some (.ref (h + 25 + 2 * og o)), some (.int (nI w)), none] [] := by
  have hk := V.1.2.1
  have hm := V.1.1
  have hb := (V.2.2 o ho).1
  obtain ⟨b1, b2, b3, b4, b5, b6, b7⟩ := hb
  have hgs := sIb_good (V.2.2 o ho).1
  have hqo := G.lt o (by omega)
  have hby : ∀ w, w < 6 → I (h + 26 + 2 * og o) w = f (90 + 12 * o + (6 + w)) := fun w hw => H.by ho hw
  refine jx_aload_n (pc := 0) C dX0_dueOf_0 rfl ?_
  refine jx_aload_n (pc := 1) C dX0_dueOf_1 rfl ?_
  refine jx_aload_n (pc := 2) C dX0_dueOf_2 rfl ?_
  refine jx_getIv (pc := 3) C kf_X0_56 rfl S.hall H.n7 dX0_dueOf_3 ?_
  refine jx_callD (pc := 6) C (go_X0_159 C (S.od (G.lt o (by omega))) (Nat.le_of_ble_eq_true rfl) dX0_dueOf_6) (t_H_late S G H hk ho) (by decide) (by decide) ⟨Nat.zero_le _, Nat.zero_le _⟩ ?_
  refine jx_aload_n (pc := 9) C dX0_dueOf_9 rfl ?_
  refine jx_getP (pc := 10) C kf_X0_30 rfl S.hall T.se dX0_dueOf_10 ?_
  refine jx_iconst (pc := 13) C dX0_dueOf_13 nc_2 ?_
  refine jx_ialdv (pc := 14) C S.se (by omega) (by decide) (H.se (k := 2) (by decide)) dX0_dueOf_14 ?_
  refine jx_callD (pc := 15) C (go_X0_162 C (S.od (G.lt o (by omega))) (Nat.le_of_ble_eq_true rfl) dX0_dueOf_15) (t_H_pay S G H hk ho rfl b3 b4 hgs.1 hgs.2) (by decide) (by decide) ⟨Nat.zero_le _, Nat.zero_le _⟩ ?_
  refine jx_istore_n (pc := 18) C dX0_dueOf_18 (jset_3 jc_i) (by decide) ?_
  refine jx_aload_n (pc := 19) C dX0_dueOf_19 rfl ?_
  refine jx_iload_n (pc := 20) C dX0_dueOf_20 rfl ?_
  refine jx_aload_n (pc := 21) C dX0_dueOf_21 rfl ?_
  refine jx_getP (pc := 22) C kf_X0_34 rfl S.hall T.du dX0_dueOf_22 ?_
  refine jx_callDv (pc := 25) C (go_X0_165 C (S.od (G.lt o (by omega))) (Nat.le_of_ble_eq_true rfl) dX0_dueOf_25) (t_X1_divide (S.od (G.lt o (by omega))) (S.ob (G.lt o (by omega))) (T.ob (G.lt o (by omega))) (by omega) S.du (by omega) (by omega) (f := f) (o := o) hby (H.gd ho) (by rw [hgs.1, i32_le, nI_toInt (by omega)]; exact Int.natCast_nonneg _) (fun z => swhole_0 z)) (by decide) (by decide) ⟨Nat.zero_le _, Nat.zero_le _⟩ ?_
  refine jx_iload_n (pc := 28) C dX0_dueOf_28 rfl ?_
  refine jx_if_lt (pc := 29) C (tgt := 50) dX0_dueOf_29 (by decide) (fun c29 => (by rw [nI_lt0 (by omega)] at c29; exfalso; omega)) (fun c29 => ?_)
  rw [nI_lt0 (by omega)] at c29
  refine jx_iload_n (pc := 32) C dX0_dueOf_32 rfl ?_
  refine jx_aload_n (pc := 33) C dX0_dueOf_33 rfl ?_
  refine jx_getP (pc := 34) C kf_X0_34 rfl S.hall T.du dX0_dueOf_34 ?_
  refine jx_alen10 (pc := 37) C S.du dX0_dueOf_37 ?_
  refine jx_icmp_ge (pc := 38) C (tgt := 50) dX0_dueOf_38 (by decide) (fun c38 => (by rw [nI_leI (by omega) (by omega)] at c38; exfalso; omega)) (fun c38 => ?_)
  rw [nI_leI (by omega) (by omega)] at c38
  refine jx_aload_n (pc := 41) C dX0_dueOf_41 rfl ?_
  refine jx_getP (pc := 42) C kf_X0_34 rfl S.hall T.du dX0_dueOf_42 ?_
  refine jx_iload_n (pc := 45) C dX0_dueOf_45 rfl ?_
  refine jx_ialdv (pc := 46) C S.du (by omega) (by decide) ((congrFun va_up_s _).trans (sshares_c (du' := fun _ => nI 0) hw)) dX0_dueOf_46 ?_
  refine jx_goto (pc := 47) C (tgt := 51) dX0_dueOf_47 (by decide) ?_
  exact jn_iret (pc := 51) C hr (⟨_, rfl, rfl, fun b hb => va_up_n hb, rfl, rfl⟩) dX0_dueOf_51
theorem t_X0_dueOf {l : Launch} {D : va_G} {cA : Nat → ClassId} {N0 : Nat} {Sh : jS} {I : jI} {P : jP} {L : jL} {h : Nat} {og : Nat → Nat} {f : sF} (S : hS Sh h) (T : hP P h) (G : hG P h og) (H : hR I h og f) (V : sI f) {w : Nat} (hw : w < 6) {o : Nat} (ho : o < smany f) : jN l D cA N0 1 yX0_dueOf cX0_dueOf 4 (some .int) [.ref h, .ref (h + 25 + 2 * og o), .int (nI w)] Sh I P L (jNi (fun v' I' P' L' => v' = sdueN f o w ∧ (∀ b, b ≠ h + 6 → I' b = I b) ∧ P' = P ∧ L' = L)) := jN_of (by decide) (Nat.le_of_ble_eq_true rfl) (fun _ _ _ _ _ _ _ _ C hr => b_X0_dueOf C hr S T G H V hw ho)
