theorem in_No {v : Int32} {n : Nat} (hn : n < 2 ^ 31) (h : 0 ≤ v ∧ v < nI n) : ∃ w : Nat, w < n ∧ v = nI w := by
  have h1 := h.1
  have h2 := h.2
  rw [i32_le] at h1
  rw [i32_lt, nI_toInt hn] at h2
  have h3 : (0 : Int32).toInt = 0 := by decide
  rw [h3] at h1
  refine ⟨v.toInt.toNat, by omega, Int32.toInt_inj.mp ?_⟩
  rw [nI_toInt (by omega)]
  omega
set_option maxHeartbeats 4000000 in
theorem b_X0_orderAt_s {p : Program} {l : Launch} {e : Env} {s : State} {m : MethodId} {args : Array Value} {below : List Frame} {meth : Method} {c : Code} {D : va_G} {cA : Nat → ClassId} {N0 : Nat} {Sh : jS} {I : jI} {P : jP} {L : jL} (C : jC p (jRm 0 0 0) s m args meth c D cA N0 cX0_orderAt 3 RX0 0) (hr : meth.sig.returnType = (some (.object "WeaveShares$Order"))) {h : Nat} {og : Nat → Nat} {f : sF} (S : hS Sh h) (T : hP P h) (G : hG P h og) (H : hR I h og f) (V : sI f) {o : Nat} (ho : o < smany f) : jJ p l e (jRm 0 0 0) s m args below meth c D cA N0 3 (MQ below (jQn D cA N0 Sh (jD (some (.ref (h + 25 + 2 * og o))) I P L)) args s 0 0 (fun q => N0 ≤ q)) (fun _ => True) Sh I P L 0 0 0 [some (.ref h), some (.int (nI o)), none] [] := by
  have hk := V.1.2.1
  have hm := V.1.1
  refine jx_iload_n (pc := 0) C dX0_orderAt_0 rfl ?_
  refine jx_if_lt (pc := 1) C (tgt := 25) dX0_orderAt_1 (by decide) (fun c1 => (by rw [nI_lt0 (by omega)] at c1; exfalso; omega)) (fun c1 => ?_)
  rw [nI_lt0 (by omega)] at c1
  refine jx_iload_n (pc := 4) C dX0_orderAt_4 rfl ?_
  refine jx_aload_n (pc := 5) C dX0_orderAt_5 rfl ?_
  refine jx_getIv (pc := 6) C kf_X0_49 rfl S.hall (H.n5.trans hm) dX0_orderAt_6 ?_
  refine jx_icmp_ge (pc := 9) C (tgt := 25) dX0_orderAt_9 (by decide) (fun c9 => (by rw [nI_leI (by omega) (by omega)] at c9; exfalso; omega)) (fun c9 => ?_)
  rw [nI_leI (by omega) (by omega)] at c9
  refine jx_iload_n (pc := 12) C dX0_orderAt_12 rfl ?_
  refine jx_aload_n (pc := 13) C dX0_orderAt_13 rfl ?_
  refine jx_getP (pc := 14) C kf_X0_19 rfl S.hall T.oa dX0_orderAt_14 ?_
  refine jx_alen13 (pc := 17) C S.oa dX0_orderAt_17 ?_
  refine jx_icmp_ge (pc := 18) C (tgt := 25) dX0_orderAt_18 (by decide) (fun c18 => (by rw [nI_leI (by omega) (by omega)] at c18; exfalso; omega)) (fun c18 => ?_)
  rw [nI_leI (by omega) (by omega)] at c18
  refine jx_iconst (pc := 21) C dX0_orderAt_21 nc_1 ?_
  refine jx_goto (pc := 22) C (tgt := 26) dX0_orderAt_22 (by decide) ?_
  refine jx_istore_n (pc := 26) C dX0_orderAt_26 (jset_2 jc_i) (by decide) ?_
  refine jx_iload_n (pc := 27) C dX0_orderAt_27 rfl ?_
  refine jx_if_eq (pc := 28) C (tgt := 40) dX0_orderAt_28 (by decide) (fun c28 => (by exfalso; revert c28; decide)) (fun c28 => ?_)
  refine jx_aload_n (pc := 31) C dX0_orderAt_31 rfl ?_
  refine jx_getP (pc := 32) C kf_X0_19 rfl S.hall T.oa dX0_orderAt_32 ?_
  refine jx_iload_n (pc := 35) C dX0_orderAt_35 rfl ?_
  refine jx_aald13 (pc := 36) C S.oa (by omega) (by decide) (G.od (show o < 10 by omega)) dX0_orderAt_36 ?_
  refine jx_goto (pc := 37) C (tgt := 41) dX0_orderAt_37 (by decide) ?_
  exact jn_aret (pc := 41) C hr (Or.inl ⟨_, rfl⟩) (Or.inr ⟨_, rfl⟩) (jD_r) dX0_orderAt_41
theorem t_X0_orderAt_s {l : Launch} {D : va_G} {cA : Nat → ClassId} {N0 : Nat} {Sh : jS} {I : jI} {P : jP} {L : jL} {h : Nat} {og : Nat → Nat} {f : sF} (S : hS Sh h) (T : hP P h) (G : hG P h og) (H : hR I h og f) (V : sI f) {o : Nat} (ho : o < smany f) : jN l D cA N0 0 yX0_orderAt cX0_orderAt 3 (some (.object "WeaveShares$Order")) [.ref h, .int (nI o)] Sh I P L (jD (some (.ref (h + 25 + 2 * og o))) I P L) := jN_of (by decide) (Nat.le_of_ble_eq_true rfl) (fun _ _ _ _ _ _ _ _ C hr => b_X0_orderAt_s C hr S T G H V ho)
set_option maxHeartbeats 4000000 in
theorem b_X0_orderAt_n {p : Program} {l : Launch} {e : Env} {s : State} {m : MethodId} {args : Array Value} {below : List Frame} {meth : Method} {c : Code} {D : va_G} {cA : Nat → ClassId} {N0 : Nat} {Sh : jS} {I : jI} {P : jP} {L : jL} (C : jC p (jRm 0 0 0) s m args meth c D cA N0 cX0_orderAt 3 RX0 0) (hr : meth.sig.returnType = (some (.object "WeaveShares$Order"))) {h : Nat} {og : Nat → Nat} {f : sF} (S : hS Sh h) (T : hP P h) (G : hG P h og) (H : hR I h og f) (V : sI f) {v : Int32} (hv : ¬ (0 ≤ v ∧ v < nI (smany f))) : jJ p l e (jRm 0 0 0) s m args below meth c D cA N0 3 (MQ below (jQn D cA N0 Sh (jD (some .null) I P L)) args s 0 0 (fun q => N0 ≤ q)) (fun _ => True) Sh I P L 0 0 0 [some (.ref h), some (.int v), none] [] := by
  have hk := V.1.2.1
  have hm := V.1.1
  refine jx_iload_n (pc := 0) C dX0_orderAt_0 rfl ?_
  refine jx_if_lt (pc := 1) C (tgt := 25) dX0_orderAt_1 (by decide) (fun c1 => ?_) (fun c1 => ?_)
  · refine jx_iconst (pc := 25) C dX0_orderAt_25 nc_0 ?_
    refine jx_istore_n (pc := 26) C dX0_orderAt_26 (jset_2 jc_i) (by decide) ?_
    refine jx_iload_n (pc := 27) C dX0_orderAt_27 rfl ?_
    refine jx_if_eq (pc := 28) C (tgt := 40) dX0_orderAt_28 (by decide) (fun c28 => ?_) (fun c28 => (by exfalso; revert c28; decide))
    refine jx_null (pc := 40) C dX0_orderAt_40 ?_
    exact jn_aret (pc := 41) C hr (Or.inl ⟨_, rfl⟩) (Or.inl rfl) (jD_r) dX0_orderAt_41
  · refine jx_iload_n (pc := 4) C dX0_orderAt_4 rfl ?_
    refine jx_aload_n (pc := 5) C dX0_orderAt_5 rfl ?_
    refine jx_getIv (pc := 6) C kf_X0_49 rfl S.hall (H.n5.trans hm) dX0_orderAt_6 ?_
    refine jx_icmp_ge (pc := 9) C (tgt := 25) dX0_orderAt_9 (by decide) (fun c9 => ?_) (fun c9 => (by exfalso; exact hv ⟨i32_nlt.mp c1, i32_nle.mp c9⟩))
    refine jx_iconst (pc := 25) C dX0_orderAt_25 nc_0 ?_
    refine jx_istore_n (pc := 26) C dX0_orderAt_26 (jset_2 jc_i) (by decide) ?_
    refine jx_iload_n (pc := 27) C dX0_orderAt_27 rfl ?_
    refine jx_if_eq (pc := 28) C (tgt := 40) dX0_orderAt_28 (by decide) (fun c28 => ?_) (fun c28 => (by exfalso; revert c28; decide))
    refine jx_null (pc := 40) C dX0_orderAt_40 ?_
    exact jn_aret (pc := 41) C hr (Or.inl ⟨_, rfl⟩) (Or.inl rfl) (jD_r) dX0_orderAt_41
theorem t_X0_orderAt_n {l : Launch} {D : va_G} {cA : Nat → ClassId} {N0 : Nat} {Sh : jS} {I : jI} {P : jP} {L : jL} {h : Nat} {og : Nat → Nat} {f : sF} (S : hS Sh h) (T : hP P h) (G : hG P h og) (H : hR I h og f) (V : sI f) {v : Int32} (hv : ¬ (0 ≤ v ∧ v < nI (smany f))) : jN l D cA N0 0 yX0_orderAt cX0_orderAt 3 (some (.object "WeaveShares$Order")) [.ref h, .int v] Sh I P L (jD (some .null) I P L) := jN_of (by decide) (Nat.le_of_ble_eq_true rfl) (fun _ _ _ _ _ _ _ _ C hr => b_X0_orderAt_n C hr S T G H V hv)
set_option maxHeartbeats 4000000 in
theorem lp_X0_placeOf {p : Program} {l : Launch} {e : Env} {s : State} {m : MethodId} {args : Array Value} {below : List Frame} {meth : Method} {c : Code} {D : va_G} {cA : Nat → ClassId} {N0 : Nat} {Sh : jS} {I : jI} {P : jP} {L : jL} {Qf : State → Prop} (C : jC p (jRm 0 0 0) s m args meth c D cA N0 cX0_placeOf 3 RX0 0) {h : Nat} {og : Nat → Nat} {f : sF} (S : hS Sh h) (T : hP P h) (G : hG P h og) (H : hR I h og f) (V : sI f) {num : Int32} (hx : sfst (fun o => decide (f (90 + 12 * o + 0) = num)) (smany f) = none → jJ p l e (jRm 0 0 0) s m args below meth c D cA N0 3 Qf (fun _ => True) Sh I P L 0 0 40 [some (.ref h), some (.int num), some (.int (nI (smany f)))] []) (hy : ∀ i, i < 10 → splace f num = some i → jJ p l e (jRm 0 0 0) s m args below meth c D cA N0 3 Qf (fun _ => True) Sh I P L 0 0 32 [some (.ref h), some (.int num), some (.int (nI i))] []) : ∀ d i, i + d = smany f → sfst (fun o => decide (f (90 + 12 * o + 0) = num)) i = none → jJ p l e (jRm 0 0 0) s m args below meth c D cA N0 3 Qf (fun _ => True) Sh I P L 0 0 2 [some (.ref h), some (.int num), some (.int (nI i))] [] := by
  have hk := V.1.2.1
  have hm := V.1.1
  intro d
  induction d with
  | zero =>
    intro i hi hn
    obtain rfl : i = smany f := by omega
    refine jx_iload_n (pc := 2) C dX0_placeOf_2 rfl ?_
    refine jx_aload_n (pc := 3) C dX0_placeOf_3 rfl ?_
    refine jx_getIv (pc := 4) C kf_X0_49 rfl S.hall (H.n5.trans hm) dX0_placeOf_4 ?_
    refine jx_icmp_ge (pc := 7) C (tgt := 40) dX0_placeOf_7 (by decide) (fun c7 => ?_) (fun c7 => (by rw [nI_leI (by omega) (by omega)] at c7; exfalso; omega))
    rw [nI_leI (by omega) (by omega)] at c7
    exact hx hn
  | succ d ih =>
    intro i hi hn
    refine jx_iload_n (pc := 2) C dX0_placeOf_2 rfl ?_
    refine jx_aload_n (pc := 3) C dX0_placeOf_3 rfl ?_
    refine jx_getIv (pc := 4) C kf_X0_49 rfl S.hall (H.n5.trans hm) dX0_placeOf_4 ?_
    refine jx_icmp_ge (pc := 7) C (tgt := 40) dX0_placeOf_7 (by decide) (fun c7 => (by rw [nI_leI (by omega) (by omega)] at c7; exfalso; omega)) (fun c7 => ?_)
    rw [nI_leI (by omega) (by omega)] at c7
    refine jx_iload_n (pc := 10) C dX0_placeOf_10 rfl ?_
    refine jx_aload_n (pc := 11) C dX0_placeOf_11 rfl ?_
    refine jx_getP (pc := 12) C kf_X0_19 rfl S.hall T.oa dX0_placeOf_12 ?_
    refine jx_alen13 (pc := 15) C S.oa dX0_placeOf_15 ?_
    refine jx_icmp_ge (pc := 16) C (tgt := 40) dX0_placeOf_16 (by decide) (fun c16 => (by rw [nI_leI (by omega) (by omega)] at c16; exfalso; omega)) (fun c16 => ?_)
    rw [nI_leI (by omega) (by omega)] at c16
    refine jx_aload_n (pc := 19) C dX0_placeOf_19 rfl ?_
    refine jx_getP (pc := 20) C kf_X0_19 rfl S.hall T.oa dX0_placeOf_20 ?_
    refine jx_iload_n (pc := 23) C dX0_placeOf_23 rfl ?_
    refine jx_aald13 (pc := 24) C S.oa (by omega) (by decide) (G.od (show i < 10 by omega)) dX0_placeOf_24 ?_
    refine jx_getIv (pc := 25) C kf_X0_74 rfl (S.od (G.lt i (by omega))) (H.od (k := 0) (show i < smany f by omega) (by decide)) dX0_placeOf_25 ?_
    refine jx_iload_n (pc := 28) C dX0_placeOf_28 rfl ?_
    refine jx_icmp_ne (pc := 29) C (tgt := 34) dX0_placeOf_29 (by decide) (fun c29 => ?_) (fun c29 => ?_)
    · refine jx_iincN (pc := 34) C dX0_placeOf_34 rfl (jset_2 jc_i) (by decide) ?_
      refine jx_goto (pc := 37) C (tgt := 2) dX0_placeOf_37 (by decide) ?_
      exact ih (i + 1) (by omega) (sfst_miss hn (by simpa using c29))
    · exact hy i (by omega) (by have h := sfst_up (sfst_hit hn (by simpa using c29)) d; rwa [show i + 1 + d = smany f by omega] at h)
set_option maxHeartbeats 4000000 in
theorem b_X0_placeOf {p : Program} {l : Launch} {e : Env} {s : State} {m : MethodId} {args : Array Value} {below : List Frame} {meth : Method} {c : Code} {D : va_G} {cA : Nat → ClassId} {N0 : Nat} {Sh : jS} {I : jI} {P : jP} {L : jL} (C : jC p (jRm 0 0 0) s m args meth c D cA N0 cX0_placeOf 3 RX0 0) (hr : meth.sig.returnType = (some .int)) {h : Nat} {og : Nat → Nat} {f : sF} (S : hS Sh h) (T : hP P h) (G : hG P h og) (H : hR I h og f) (V : sI f) {num : Int32} : jJ p l e (jRm 0 0 0) s m args below meth c D cA N0 3 (MQ below (jQn D cA N0 Sh (jD (some (.int (oI (splace f num)))) I P L)) args s 0 0 (fun q => N0 ≤ q)) (fun _ => True) Sh I P L 0 0 0 [some (.ref h), some (.int num), none] [] := by
  refine jx_iconst (pc := 0) C dX0_placeOf_0 nc_0 ?_
  refine jx_istore_n (pc := 1) C dX0_placeOf_1 (jset_2 jc_i) (by decide) ?_
  refine lp_X0_placeOf C S T G H V (fun hn => ?_) (fun i hi hn => ?_) (smany f) 0 (Nat.zero_add _) rfl
  · refine jx_iconst (pc := 40) C dX0_placeOf_40 nc_m1 ?_
    exact jn_iret (pc := 41) C hr (jD_i (by show _ = oI (sfst _ _); rw [hn]; rfl)) dX0_placeOf_41
  · refine jx_iload_n (pc := 32) C dX0_placeOf_32 rfl ?_
    exact jn_iret (pc := 33) C hr (jD_i (by rw [hn]; rfl)) dX0_placeOf_33
theorem t_X0_placeOf {l : Launch} {D : va_G} {cA : Nat → ClassId} {N0 : Nat} {Sh : jS} {I : jI} {P : jP} {L : jL} {h : Nat} {og : Nat → Nat} {f : sF} (S : hS Sh h) (T : hP P h) (G : hG P h og) (H : hR I h og f) (V : sI f) {num : Int32} : jN l D cA N0 0 yX0_placeOf cX0_placeOf 3 (some .int) [.ref h, .int num] Sh I P L (jD (some (.int (oI (splace f num)))) I P L) := jN_of (by decide) (Nat.le_of_ble_eq_true rfl) (fun _ _ _ _ _ _ _ _ C hr => b_X0_placeOf C hr S T G H V)
set_option maxHeartbeats 4000000 in
theorem b_X0_find_s {p : Program} {l : Launch} {e : Env} {s : State} {m : MethodId} {args : Array Value} {below : List Frame} {meth : Method} {c : Code} {D : va_G} {cA : Nat → ClassId} {N0 : Nat} {Sh : jS} {I : jI} {P : jP} {L : jL} (C : jC p (jRm 1 0 0) s m args meth c D cA N0 cX0_find 2 RX0 1) (hr : meth.sig.returnType = (some (.object "WeaveShares$Order"))) {h : Nat} {og : Nat → Nat} {f : sF} (S : hS Sh h) (T : hP P h) (G : hG P h og) (H : hR I h og f) (V : sI f) {num : Int32} {o : Nat} (hq : splace f num = some o) : jJ p l e (jRm 1 0 0) s m args below meth c D cA N0 2 (MQ below (jQn D cA N0 Sh (jD (some (.ref (h + 25 + 2 * og o))) I P L)) args s 0 0 (fun q => N0 ≤ q)) (fun _ => True) Sh I P L 0 0 0 [some (.ref h), some (.int num)] [] := by
  have hk := V.1.2.1
  have hm := V.1.1
  have ho := (sfst_lt hq).1
  refine jx_aload_n (pc := 0) C dX0_find_0 rfl ?_
  refine jx_aload_n (pc := 1) C dX0_find_1 rfl ?_
  refine jx_iload_n (pc := 2) C dX0_find_2 rfl ?_
  refine jx_callD (pc := 3) C (go_X0_77 C S.hall (Nat.le_of_ble_eq_true rfl) dX0_find_3) (t_X0_placeOf S T G H V) (by decide) (by decide) ⟨Nat.zero_le _, Nat.zero_le _⟩ ?_
  refine jx_top C (show Value.int (oI (splace f num)) = .int (nI o) by rw [hq]; rfl) ?_
  refine jx_callD (pc := 6) C (go_X0_81 C S.hall (Nat.le_of_ble_eq_true rfl) dX0_find_6) (t_X0_orderAt_s S T G H V ho) (by decide) (by decide) ⟨Nat.zero_le _, Nat.zero_le _⟩ ?_
  exact jn_aret (pc := 9) C hr (Or.inl ⟨_, rfl⟩) (Or.inr ⟨_, rfl⟩) (jD_r) dX0_find_9
theorem t_X0_find_s {l : Launch} {D : va_G} {cA : Nat → ClassId} {N0 : Nat} {Sh : jS} {I : jI} {P : jP} {L : jL} {h : Nat} {og : Nat → Nat} {f : sF} (S : hS Sh h) (T : hP P h) (G : hG P h og) (H : hR I h og f) (V : sI f) {num : Int32} {o : Nat} (hq : splace f num = some o) : jN l D cA N0 1 yX0_find cX0_find 2 (some (.object "WeaveShares$Order")) [.ref h, .int num] Sh I P L (jD (some (.ref (h + 25 + 2 * og o))) I P L) := jN_of (by decide) (Nat.le_of_ble_eq_true rfl) (fun _ _ _ _ _ _ _ _ C hr => b_X0_find_s C hr S T G H V hq)
set_option maxHeartbeats 4000000 in
theorem b_X0_find_n {p : Program} {l : Launch} {e : Env} {s : State} {m : MethodId} {args : Array Value} {below : List Frame} {meth : Method} {c : Code} {D : va_G} {cA : Nat → ClassId} {N0 : Nat} {Sh : jS} {I : jI} {P : jP} {L : jL} (C : jC p (jRm 1 0 0) s m args meth c D cA N0 cX0_find 2 RX0 1) (hr : meth.sig.returnType = (some (.object "WeaveShares$Order"))) {h : Nat} {og : Nat → Nat} {f : sF} (S : hS Sh h) (T : hP P h) (G : hG P h og) (H : hR I h og f) (V : sI f) {num : Int32} (hq : splace f num = none) : jJ p l e (jRm 1 0 0) s m args below meth c D cA N0 2 (MQ below (jQn D cA N0 Sh (jD (some .null) I P L)) args s 0 0 (fun q => N0 ≤ q)) (fun _ => True) Sh I P L 0 0 0 [some (.ref h), some (.int num)] [] := by
  have hk := V.1.2.1
  have hm := V.1.1
  refine jx_aload_n (pc := 0) C dX0_find_0 rfl ?_
  refine jx_aload_n (pc := 1) C dX0_find_1 rfl ?_
  refine jx_iload_n (pc := 2) C dX0_find_2 rfl ?_
  refine jx_callD (pc := 3) C (go_X0_77 C S.hall (Nat.le_of_ble_eq_true rfl) dX0_find_3) (t_X0_placeOf S T G H V) (by decide) (by decide) ⟨Nat.zero_le _, Nat.zero_le _⟩ ?_
  refine jx_top C (show Value.int (oI (splace f num)) = .int (-1 : Int32) by rw [hq]; rfl) ?_
  refine jx_callD (pc := 6) C (go_X0_81 C S.hall (Nat.le_of_ble_eq_true rfl) dX0_find_6) (t_X0_orderAt_n S T G H V (fun z => absurd z.1 (by decide))) (by decide) (by decide) ⟨Nat.zero_le _, Nat.zero_le _⟩ ?_
  exact jn_aret (pc := 9) C hr (Or.inl ⟨_, rfl⟩) (Or.inl rfl) (jD_r) dX0_find_9
theorem t_X0_find_n {l : Launch} {D : va_G} {cA : Nat → ClassId} {N0 : Nat} {Sh : jS} {I : jI} {P : jP} {L : jL} {h : Nat} {og : Nat → Nat} {f : sF} (S : hS Sh h) (T : hP P h) (G : hG P h og) (H : hR I h og f) (V : sI f) {num : Int32} (hq : splace f num = none) : jN l D cA N0 1 yX0_find cX0_find 2 (some (.object "WeaveShares$Order")) [.ref h, .int num] Sh I P L (jD (some .null) I P L) := jN_of (by decide) (Nat.le_of_ble_eq_true rfl) (fun _ _ _ _ _ _ _ _ C hr => b_X0_find_n C hr S T G H V hq)
set_option maxHeartbeats 4000000 in
theorem b_X0_merit {p : Program} {l : Launch} {e : Env} {s : State} {m : MethodId} {args : Array Value} {below : List Frame} {meth : Method} {c : Code} {D : va_G} {cA : Nat → ClassId} {N0 : Nat} {Sh : jS} {I : jI} {P : jP} {L : jL} (C : jC p (jRm 0 0 0) s m args meth c D cA N0 cX0_merit 2 RX0 0) (hr : meth.sig.returnType = (some .int)) {h : Nat} {og : Nat → Nat} {f : sF} (S : hS Sh h) (T : hP P h) (G : hG P h og) (H : hR I h og f) (V : sI f) {o : Nat} (ho : o < smany f) : jJ p l e (jRm 0 0 0) s m args below meth c D cA N0 2 (MQ below (jQn D cA N0 Sh (jD (some (.int (sworth f o))) I P L)) args s 0 0 (fun q => N0 ≤ q)) (fun _ => True) Sh I P L 0 0 0 [some (.ref h), some (.ref (h + 25 + 2 * og o))] [] := by
  have hk := V.1.2.1
  have hm := V.1.1
  have hw2 := H.od (k := 2) ho (by decide)
  have hw4 := H.od (k := 4) ho (by decide)
  rcases V.2.1.1 with h0 | h0 | h0
  · refine jx_aload_n (pc := 0) C dX0_merit_0 rfl ?_
    refine jx_getP (pc := 1) C kf_X0_30 rfl S.hall T.se dX0_merit_1 ?_
    refine jx_iconst (pc := 4) C dX0_merit_4 nc_0 ?_
    refine jx_ialdv (pc := 5) C S.se (by omega) (by decide) ((H.se (k := 0) (by decide)).trans h0) dX0_merit_5 ?_
    refine jx_lookup (pc := 6) C (off := 36) (tgt := 42) dX0_merit_6 (by decide) (by decide) (by decide) ?_
    refine jx_iconst (pc := 42) C dX0_merit_42 nc_0 ?_
    exact jn_iret (pc := 43) C hr (jD_i (by unfold sworth; rw [if_pos (by rw [h0]; rfl)])) dX0_merit_43
  · refine jx_aload_n (pc := 0) C dX0_merit_0 rfl ?_
    refine jx_getP (pc := 1) C kf_X0_30 rfl S.hall T.se dX0_merit_1 ?_
    refine jx_iconst (pc := 4) C dX0_merit_4 nc_0 ?_
    refine jx_ialdv (pc := 5) C S.se (by omega) (by decide) ((H.se (k := 0) (by decide)).trans h0) dX0_merit_5 ?_
    refine jx_lookup (pc := 6) C (off := 26) (tgt := 32) dX0_merit_6 (by decide) (by decide) (by decide) ?_
    refine jx_aload_n (pc := 32) C dX0_merit_32 rfl ?_
    refine jx_getIv (pc := 33) C kf_X0_92 rfl (S.od (G.lt o (by omega))) hw2 dX0_merit_33 ?_
    exact jn_iret (pc := 36) C hr (jD_i (by unfold sworth; rw [if_neg (by rw [h0]; decide), if_pos h0])) dX0_merit_36
  · refine jx_aload_n (pc := 0) C dX0_merit_0 rfl ?_
    refine jx_getP (pc := 1) C kf_X0_30 rfl S.hall T.se dX0_merit_1 ?_
    refine jx_iconst (pc := 4) C dX0_merit_4 nc_0 ?_
    refine jx_ialdv (pc := 5) C S.se (by omega) (by decide) ((H.se (k := 0) (by decide)).trans h0) dX0_merit_5 ?_
    refine jx_lookup (pc := 6) C (off := 31) (tgt := 37) dX0_merit_6 (by decide) (by decide) (by decide) ?_
    refine jx_aload_n (pc := 37) C dX0_merit_37 rfl ?_
    refine jx_getIv (pc := 38) C kf_X0_95 rfl (S.od (G.lt o (by omega))) hw4 dX0_merit_38 ?_
    exact jn_iret (pc := 41) C hr (jD_i (by unfold sworth; rw [if_neg (by rw [h0]; decide), if_neg (by rw [h0]; decide)])) dX0_merit_41
theorem t_X0_merit {l : Launch} {D : va_G} {cA : Nat → ClassId} {N0 : Nat} {Sh : jS} {I : jI} {P : jP} {L : jL} {h : Nat} {og : Nat → Nat} {f : sF} (S : hS Sh h) (T : hP P h) (G : hG P h og) (H : hR I h og f) (V : sI f) {o : Nat} (ho : o < smany f) : jN l D cA N0 0 yX0_merit cX0_merit 2 (some .int) [.ref h, .ref (h + 25 + 2 * og o)] Sh I P L (jD (some (.int (sworth f o))) I P L) := jN_of (by decide) (Nat.le_of_ble_eq_true rfl) (fun _ _ _ _ _ _ _ _ C hr => b_X0_merit C hr S T G H V ho)
set_option maxHeartbeats 4000000 in
theorem lp_X0_choiceOf {p : Program} {l : Launch} {e : Env} {s : State} {m : MethodId} {args : Array Value} {below : List Frame} {meth : Method} {c : Code} {D : va_G} {cA : Nat → ClassId} {N0 : Nat} {Sh : jS} {I : jI} {P : jP} {L : jL} {Qf : State → Prop} (C : jC p (jRm 1 0 0) s m args meth c D cA N0 cX0_choiceOf 5 RX0 1) {h : Nat} {og : Nat → Nat} {f : sF} (S : hS Sh h) (T : hP P h) (G : hG P h og) (H : hR I h og f) (V : sI f) {w : Nat} (hw : w < 6) (hx : ∀ x z, z = va_rf ((schos f w).map (fun o => h + 25 + 2 * og o)) → jJ p l e (jRm 1 0 0) s m args below meth c D cA N0 5 Qf (fun _ => True) Sh I P L 0 0 68 [some (.ref h), some (.ref (h + 7 + 3 * w)), some z, some (.int (nI (smany f))), x] []) : ∀ d i x z, i + d = smany f → z = va_rf ((schosN f w i).map (fun o => h + 25 + 2 * og o)) → jJ p l e (jRm 1 0 0) s m args below meth c D cA N0 5 Qf (fun _ => True) Sh I P L 0 0 4 [some (.ref h), some (.ref (h + 7 + 3 * w)), some z, some (.int (nI i)), x] [] := by
  have hk := V.1.2.1
  have hm := V.1.1
  intro d
  induction d with
  | zero =>
    intro i x z hi hz
    obtain rfl : i = smany f := by omega
    refine jx_iload_n (pc := 4) C dX0_choiceOf_4 rfl ?_
    refine jx_aload_n (pc := 5) C dX0_choiceOf_5 rfl ?_
    refine jx_getIv (pc := 6) C kf_X0_49 rfl S.hall (H.n5.trans hm) dX0_choiceOf_6 ?_
    refine jx_icmp_ge (pc := 9) C (tgt := 68) dX0_choiceOf_9 (by decide) (fun c9 => ?_) (fun c9 => (by rw [nI_leI (by omega) (by omega)] at c9; exfalso; omega))
    rw [nI_leI (by omega) (by omega)] at c9
    exact hx _ _ hz
  | succ d ih =>
    intro i x z hi hz
    cases hq : schosN f w i with
    | none =>
      obtain rfl : z = .null := by rw [hz, hq]; rfl
      refine jx_iload_n (pc := 4) C dX0_choiceOf_4 rfl ?_
      refine jx_aload_n (pc := 5) C dX0_choiceOf_5 rfl ?_
      refine jx_getIv (pc := 6) C kf_X0_49 rfl S.hall (H.n5.trans hm) dX0_choiceOf_6 ?_
      refine jx_icmp_ge (pc := 9) C (tgt := 68) dX0_choiceOf_9 (by decide) (fun c9 => (by rw [nI_leI (by omega) (by omega)] at c9; exfalso; omega)) (fun c9 => ?_)
      rw [nI_leI (by omega) (by omega)] at c9
      refine jx_iload_n (pc := 12) C dX0_choiceOf_12 rfl ?_
      refine jx_aload_n (pc := 13) C dX0_choiceOf_13 rfl ?_
      refine jx_getP (pc := 14) C kf_X0_19 rfl S.hall T.oa dX0_choiceOf_14 ?_
      refine jx_alen13 (pc := 17) C S.oa dX0_choiceOf_17 ?_
      refine jx_icmp_ge (pc := 18) C (tgt := 68) dX0_choiceOf_18 (by decide) (fun c18 => (by rw [nI_leI (by omega) (by omega)] at c18; exfalso; omega)) (fun c18 => ?_)
      rw [nI_leI (by omega) (by omega)] at c18
      refine jx_aload_n (pc := 21) C dX0_choiceOf_21 rfl ?_
      refine jx_getP (pc := 22) C kf_X0_19 rfl S.hall T.oa dX0_choiceOf_22 ?_
      refine jx_iload_n (pc := 25) C dX0_choiceOf_25 rfl ?_
      refine jx_aald13 (pc := 26) C S.oa (by omega) (by decide) (G.od (show i < 10 by omega)) dX0_choiceOf_26 ?_
      refine jx_astore (pc := 27) C dX0_choiceOf_27 (jset_4 jc_i) (by decide) ?_
      refine jx_aload (pc := 29) C dX0_choiceOf_29 rfl ?_
      refine jx_getIv (pc := 31) C kf_X0_92 rfl (S.od (G.lt i (by omega))) (H.od (k := 2) (show i < smany f by omega) (by decide)) dX0_choiceOf_31 ?_
      refine jx_aload_n (pc := 34) C dX0_choiceOf_34 rfl ?_
      refine jx_getIv (pc := 35) C kf_X0_98 rfl (S.wv hw) (H.wv (k := 0) hw (by decide)) dX0_choiceOf_35 ?_
      refine jx_icmp_gt (pc := 38) C (tgt := 62) dX0_choiceOf_38 (by decide) (fun c38 => ?_) (fun c38 => ?_)
      · refine jx_iincN (pc := 62) C dX0_choiceOf_62 rfl (jset_3 jc_z) (by decide) ?_
        refine jx_goto (pc := 65) C (tgt := 4) dX0_choiceOf_65 (by decide) ?_
        first | exact ih (i + 1) _ _ (by omega) (by rw [schosN_n hq, if_pos (i32_nlt.mp c38)]; rfl) | exact ih (i + 1) _ _ (by omega) (by rw [schosN_n hq, if_neg (fun z => i32_nlt.mpr z c38)]; rfl)
      · refine jx_aload_nN (pc := 41) C dX0_choiceOf_41 rfl ?_
        refine jx_ifnullN (pc := 42) C (tgt := 59) dX0_choiceOf_42 (by decide) ?_
        refine jx_aload (pc := 59) C dX0_choiceOf_59 rfl ?_
        refine jx_astore_n (pc := 61) C dX0_choiceOf_61 (jset_2 jc_r) (by decide) ?_
        refine jx_iincN (pc := 62) C dX0_choiceOf_62 rfl (jset_3 jc_r) (by decide) ?_
        refine jx_goto (pc := 65) C (tgt := 4) dX0_choiceOf_65 (by decide) ?_
        first | exact ih (i + 1) _ _ (by omega) (by rw [schosN_n hq, if_pos (i32_nlt.mp c38)]; rfl) | exact ih (i + 1) _ _ (by omega) (by rw [schosN_n hq, if_neg (fun z => i32_nlt.mpr z c38)]; rfl)
    | some q =>
      obtain ⟨hq1, hq2⟩ := schosN_lt hq
      obtain rfl : z = .ref (h + 25 + 2 * og q) := by rw [hz, hq]; rfl
      refine jx_iload_n (pc := 4) C dX0_choiceOf_4 rfl ?_
      refine jx_aload_n (pc := 5) C dX0_choiceOf_5 rfl ?_
      refine jx_getIv (pc := 6) C kf_X0_49 rfl S.hall (H.n5.trans hm) dX0_choiceOf_6 ?_
      refine jx_icmp_ge (pc := 9) C (tgt := 68) dX0_choiceOf_9 (by decide) (fun c9 => (by rw [nI_leI (by omega) (by omega)] at c9; exfalso; omega)) (fun c9 => ?_)
      rw [nI_leI (by omega) (by omega)] at c9
      refine jx_iload_n (pc := 12) C dX0_choiceOf_12 rfl ?_
      refine jx_aload_n (pc := 13) C dX0_choiceOf_13 rfl ?_
      refine jx_getP (pc := 14) C kf_X0_19 rfl S.hall T.oa dX0_choiceOf_14 ?_
      refine jx_alen13 (pc := 17) C S.oa dX0_choiceOf_17 ?_
      refine jx_icmp_ge (pc := 18) C (tgt := 68) dX0_choiceOf_18 (by decide) (fun c18 => (by rw [nI_leI (by omega) (by omega)] at c18; exfalso; omega)) (fun c18 => ?_)
      rw [nI_leI (by omega) (by omega)] at c18
      refine jx_aload_n (pc := 21) C dX0_choiceOf_21 rfl ?_
      refine jx_getP (pc := 22) C kf_X0_19 rfl S.hall T.oa dX0_choiceOf_22 ?_
      refine jx_iload_n (pc := 25) C dX0_choiceOf_25 rfl ?_
      refine jx_aald13 (pc := 26) C S.oa (by omega) (by decide) (G.od (show i < 10 by omega)) dX0_choiceOf_26 ?_
      refine jx_astore (pc := 27) C dX0_choiceOf_27 (jset_4 jc_i) (by decide) ?_
      refine jx_aload (pc := 29) C dX0_choiceOf_29 rfl ?_
      refine jx_getIv (pc := 31) C kf_X0_92 rfl (S.od (G.lt i (by omega))) (H.od (k := 2) (show i < smany f by omega) (by decide)) dX0_choiceOf_31 ?_
      refine jx_aload_n (pc := 34) C dX0_choiceOf_34 rfl ?_
      refine jx_getIv (pc := 35) C kf_X0_98 rfl (S.wv hw) (H.wv (k := 0) hw (by decide)) dX0_choiceOf_35 ?_
      refine jx_icmp_gt (pc := 38) C (tgt := 62) dX0_choiceOf_38 (by decide) (fun c38 => ?_) (fun c38 => ?_)
      · refine jx_iincN (pc := 62) C dX0_choiceOf_62 rfl (jset_3 jc_r) (by decide) ?_
        refine jx_goto (pc := 65) C (tgt := 4) dX0_choiceOf_65 (by decide) ?_
        first | exact ih (i + 1) _ _ (by omega) (by rw [schosN_s hq, if_pos ⟨i32_nlt.mp c38, i32_nle.mp c56⟩]; rfl) | exact ih (i + 1) _ _ (by omega) (by rw [schosN_s hq, if_neg (fun z => i32_nlt.mpr z.1 c38)]; rfl) | exact ih (i + 1) _ _ (by omega) (by rw [schosN_s hq, if_neg (fun z => i32_nle.mpr z.2 c56)]; rfl)
      · refine jx_aload_n (pc := 41) C dX0_choiceOf_41 rfl ?_
        refine jx_ifnull (pc := 42) C dX0_choiceOf_42 ?_
        refine jx_aload_n (pc := 45) C dX0_choiceOf_45 rfl ?_
        refine jx_aload (pc := 46) C dX0_choiceOf_46 rfl ?_
        refine jx_callD (pc := 48) C (go_X0_99 C S.hall (Nat.le_of_ble_eq_true rfl) dX0_choiceOf_48) (t_X0_merit S T G H V (show i < smany f by omega)) (by decide) (by decide) ⟨Nat.zero_le _, Nat.zero_le _⟩ ?_
        refine jx_aload_n (pc := 51) C dX0_choiceOf_51 rfl ?_
        refine jx_aload_n (pc := 52) C dX0_choiceOf_52 rfl ?_
        refine jx_callD (pc := 53) C (go_X0_99 C S.hall (Nat.le_of_ble_eq_true rfl) dX0_choiceOf_53) (t_X0_merit S T G H V (show q < smany f by omega)) (by decide) (by decide) ⟨Nat.zero_le _, Nat.zero_le _⟩ ?_
        refine jx_icmp_le (pc := 56) C (tgt := 62) dX0_choiceOf_56 (by decide) (fun c56 => ?_) (fun c56 => ?_)
        · refine jx_iincN (pc := 62) C dX0_choiceOf_62 rfl (jset_3 jc_r) (by decide) ?_
          refine jx_goto (pc := 65) C (tgt := 4) dX0_choiceOf_65 (by decide) ?_
          first | exact ih (i + 1) _ _ (by omega) (by rw [schosN_s hq, if_pos ⟨i32_nlt.mp c38, i32_nle.mp c56⟩]; rfl) | exact ih (i + 1) _ _ (by omega) (by rw [schosN_s hq, if_neg (fun z => i32_nlt.mpr z.1 c38)]; rfl) | exact ih (i + 1) _ _ (by omega) (by rw [schosN_s hq, if_neg (fun z => i32_nle.mpr z.2 c56)]; rfl)
        · refine jx_aload (pc := 59) C dX0_choiceOf_59 rfl ?_
          refine jx_astore_n (pc := 61) C dX0_choiceOf_61 (jset_2 jc_r) (by decide) ?_
          refine jx_iincN (pc := 62) C dX0_choiceOf_62 rfl (jset_3 jc_r) (by decide) ?_
          refine jx_goto (pc := 65) C (tgt := 4) dX0_choiceOf_65 (by decide) ?_
          first | exact ih (i + 1) _ _ (by omega) (by rw [schosN_s hq, if_pos ⟨i32_nlt.mp c38, i32_nle.mp c56⟩]; rfl) | exact ih (i + 1) _ _ (by omega) (by rw [schosN_s hq, if_neg (fun z => i32_nlt.mpr z.1 c38)]; rfl) | exact ih (i + 1) _ _ (by omega) (by rw [schosN_s hq, if_neg (fun z => i32_nle.mpr z.2 c56)]; rfl)
set_option maxHeartbeats 4000000 in
theorem b_X0_choiceOf_s {p : Program} {l : Launch} {e : Env} {s : State} {m : MethodId} {args : Array Value} {below : List Frame} {meth : Method} {c : Code} {D : va_G} {cA : Nat → ClassId} {N0 : Nat} {Sh : jS} {I : jI} {P : jP} {L : jL} (C : jC p (jRm 1 0 0) s m args meth c D cA N0 cX0_choiceOf 5 RX0 1) (hr : meth.sig.returnType = (some (.object "WeaveShares$Order"))) {h : Nat} {og : Nat → Nat} {f : sF} (S : hS Sh h) (T : hP P h) (G : hG P h og) (H : hR I h og f) (V : sI f) {w : Nat} (hw : w < 6) {o : Nat} (hq : schos f w = some o) : jJ p l e (jRm 1 0 0) s m args below meth c D cA N0 5 (MQ below (jQn D cA N0 Sh (jD (some (.ref (h + 25 + 2 * og o))) I P L)) args s 0 0 (fun q => N0 ≤ q)) (fun _ => True) Sh I P L 0 0 0 [some (.ref h), some (.ref (h + 7 + 3 * w)), none, none, none] [] := by
  refine jx_null (pc := 0) C dX0_choiceOf_0 ?_
  refine jx_astore_nN (pc := 1) C dX0_choiceOf_1 (jset_2 jc_r) (by decide) ?_
  refine jx_iconst (pc := 2) C dX0_choiceOf_2 nc_0 ?_
  refine jx_istore_n (pc := 3) C dX0_choiceOf_3 (jset_3 jc_z) (by decide) ?_
  refine lp_X0_choiceOf C S T G H V hw (fun x z hz => ?_) (smany f) 0 _ _ (Nat.zero_add _) rfl
  obtain rfl : z = .ref (h + 25 + 2 * og o) := by rw [hz, hq]; rfl
  refine jx_aload_n (pc := 68) C dX0_choiceOf_68 rfl ?_
  exact jn_aret (pc := 69) C hr (Or.inl ⟨_, rfl⟩) (Or.inr ⟨_, rfl⟩) (jD_r) dX0_choiceOf_69
theorem t_X0_choiceOf_s {l : Launch} {D : va_G} {cA : Nat → ClassId} {N0 : Nat} {Sh : jS} {I : jI} {P : jP} {L : jL} {h : Nat} {og : Nat → Nat} {f : sF} (S : hS Sh h) (T : hP P h) (G : hG P h og) (H : hR I h og f) (V : sI f) {w : Nat} (hw : w < 6) {o : Nat} (hq : schos f w = some o) : jN l D cA N0 1 yX0_choiceOf cX0_choiceOf 5 (some (.object "WeaveShares$Order")) [.ref h, .ref (h + 7 + 3 * w)] Sh I P L (jD (some (.ref (h + 25 + 2 * og o))) I P L) := jN_of (by decide) (Nat.le_of_ble_eq_true rfl) (fun _ _ _ _ _ _ _ _ C hr => b_X0_choiceOf_s C hr S T G H V hw hq)
set_option maxHeartbeats 4000000 in
theorem b_X0_choiceOf_n {p : Program} {l : Launch} {e : Env} {s : State} {m : MethodId} {args : Array Value} {below : List Frame} {meth : Method} {c : Code} {D : va_G} {cA : Nat → ClassId} {N0 : Nat} {Sh : jS} {I : jI} {P : jP} {L : jL} (C : jC p (jRm 1 0 0) s m args meth c D cA N0 cX0_choiceOf 5 RX0 1) (hr : meth.sig.returnType = (some (.object "WeaveShares$Order"))) {h : Nat} {og : Nat → Nat} {f : sF} (S : hS Sh h) (T : hP P h) (G : hG P h og) (H : hR I h og f) (V : sI f) {w : Nat} (hw : w < 6) (hq : schos f w = none) : jJ p l e (jRm 1 0 0) s m args below meth c D cA N0 5 (MQ below (jQn D cA N0 Sh (jD (some (.null)) I P L)) args s 0 0 (fun q => N0 ≤ q)) (fun _ => True) Sh I P L 0 0 0 [some (.ref h), some (.ref (h + 7 + 3 * w)), none, none, none] [] := by
  refine jx_null (pc := 0) C dX0_choiceOf_0 ?_
  refine jx_astore_nN (pc := 1) C dX0_choiceOf_1 (jset_2 jc_r) (by decide) ?_
  refine jx_iconst (pc := 2) C dX0_choiceOf_2 nc_0 ?_
  refine jx_istore_n (pc := 3) C dX0_choiceOf_3 (jset_3 jc_z) (by decide) ?_
  refine lp_X0_choiceOf C S T G H V hw (fun x z hz => ?_) (smany f) 0 _ _ (Nat.zero_add _) rfl
  obtain rfl : z = .null := by rw [hz, hq]; rfl
  refine jx_aload_nN (pc := 68) C dX0_choiceOf_68 rfl ?_
  exact jn_aret (pc := 69) C hr (Or.inl ⟨_, rfl⟩) (Or.inl rfl) (jD_r) dX0_choiceOf_69
theorem t_X0_choiceOf_n {l : Launch} {D : va_G} {cA : Nat → ClassId} {N0 : Nat} {Sh : jS} {I : jI} {P : jP} {L : jL} {h : Nat} {og : Nat → Nat} {f : sF} (S : hS Sh h) (T : hP P h) (G : hG P h og) (H : hR I h og f) (V : sI f) {w : Nat} (hw : w < 6) (hq : schos f w = none) : jN l D cA N0 1 yX0_choiceOf cX0_choiceOf 5 (some (.object "WeaveShares$Order")) [.ref h, .ref (h + 7 + 3 * w)] Sh I P L (jD (some (.null)) I P L) := jN_of (by decide) (Nat.le_of_ble_eq_true rfl) (fun _ _ _ _ _ _ _ _ C hr => b_X0_choiceOf_n C hr S T G H V hw hq)
theorem schosN_0 {f : sF} {w : Nat} (hW : f (18 + 12 * w + 0) = nI 0) : ∀ n, n ≤ smany f → (∀ o, o < smany f → nI 40 ≤ f (90 + 12 * o + 2)) → schosN f w n = none := by
  intro n
  induction n with
  | zero => intro _ _; rfl
  | succ n ih =>
    intro hn hb
    rw [schosN_n (ih (by omega) hb), if_neg]
    rw [hW]
    intro z
    have h1 := hb n (by omega)
    have h40 : (nI 40).toInt = 40 := by decide
    have h0 : (nI 0).toInt = 0 := by decide
    rw [i32_le] at z h1
    omega
theorem schos_0 {f : sF} {w : Nat} (V : sI f) (hW : f (18 + 12 * w + 0) = nI 0) : schos f w = none := schosN_0 hW _ (Nat.le_refl _) (fun o ho => (V.2.2 o ho).1.2.2.2.2.2.2)
theorem snch_e {f : sF} {w : Nat} (V : sI f) : snch f w = schos f w := by
  unfold snch
  by_cases h : f (18 + 12 * w + 0) = 0
  · rw [if_pos h, schos_0 V h]
  · exact if_neg h
set_option maxHeartbeats 4000000 in
theorem b_X0_chosenNumber {p : Program} {l : Launch} {e : Env} {s : State} {m : MethodId} {args : Array Value} {below : List Frame} {meth : Method} {c : Code} {D : va_G} {cA : Nat → ClassId} {N0 : Nat} {Sh : jS} {I : jI} {P : jP} {L : jL} (C : jC p (jRm 2 0 0) s m args meth c D cA N0 cX0_chosenNumber 3 RX0 2) (hr : meth.sig.returnType = (some .int)) {h : Nat} {og : Nat → Nat} {f : sF} (S : hS Sh h) (T : hP P h) (G : hG P h og) (H : hR I h og f) (V : sI f) {w : Nat} (hw : w < 6) : jJ p l e (jRm 2 0 0) s m args below meth c D cA N0 3 (MQ below (jQn D cA N0 Sh (jD (some (.int (snext0 f w))) I P L)) args s 0 0 (fun q => N0 ≤ q)) (fun _ => True) Sh I P L 0 0 0 [some (.ref h), some (.ref (h + 7 + 3 * w)), none] [] := by
  have hk := V.1.2.1
  have hm := V.1.1
  cases hq : schos f w with
  | none =>
    refine jx_aload_n (pc := 0) C dX0_chosenNumber_0 rfl ?_
    refine jx_aload_n (pc := 1) C dX0_chosenNumber_1 rfl ?_
    refine jx_callD (pc := 2) C (go_X0_103 C S.hall (Nat.le_of_ble_eq_true rfl) dX0_chosenNumber_2) (t_X0_choiceOf_n S T G H V hw hq) (by decide) (by decide) ⟨Nat.zero_le _, Nat.zero_le _⟩ ?_
    refine jx_astore_nN (pc := 5) C dX0_chosenNumber_5 (jset_2 jc_r) (by decide) ?_
    refine jx_aload_nN (pc := 6) C dX0_chosenNumber_6 rfl ?_
    refine jx_ifnonnullN (pc := 7) C dX0_chosenNumber_7 ?_
    refine jx_iconst (pc := 10) C dX0_chosenNumber_10 nc_m1 ?_
    refine jx_goto (pc := 11) C (tgt := 18) dX0_chosenNumber_11 (by decide) ?_
    exact jn_iret (pc := 18) C hr (jD_i (by unfold snext0; rw [snch_e V, hq])) dX0_chosenNumber_18
  | some o =>
    have ho := (schosN_lt hq).1
    refine jx_aload_n (pc := 0) C dX0_chosenNumber_0 rfl ?_
    refine jx_aload_n (pc := 1) C dX0_chosenNumber_1 rfl ?_
    refine jx_callD (pc := 2) C (go_X0_103 C S.hall (Nat.le_of_ble_eq_true rfl) dX0_chosenNumber_2) (t_X0_choiceOf_s S T G H V hw hq) (by decide) (by decide) ⟨Nat.zero_le _, Nat.zero_le _⟩ ?_
    refine jx_astore_n (pc := 5) C dX0_chosenNumber_5 (jset_2 jc_r) (by decide) ?_
    refine jx_aload_n (pc := 6) C dX0_chosenNumber_6 rfl ?_
    refine jx_ifnonnull (pc := 7) C (tgt := 14) dX0_chosenNumber_7 (by decide) ?_
    refine jx_aload_n (pc := 14) C dX0_chosenNumber_14 rfl ?_
    refine jx_getIv (pc := 15) C kf_X0_74 rfl (S.od (G.lt o (by omega))) (H.od (k := 0) ho (by decide)) dX0_chosenNumber_15 ?_
    exact jn_iret (pc := 18) C hr (jD_i (by unfold snext0; rw [snch_e V, hq])) dX0_chosenNumber_18
theorem t_X0_chosenNumber {l : Launch} {D : va_G} {cA : Nat → ClassId} {N0 : Nat} {Sh : jS} {I : jI} {P : jP} {L : jL} {h : Nat} {og : Nat → Nat} {f : sF} (S : hS Sh h) (T : hP P h) (G : hG P h og) (H : hR I h og f) (V : sI f) {w : Nat} (hw : w < 6) : jN l D cA N0 2 yX0_chosenNumber cX0_chosenNumber 3 (some .int) [.ref h, .ref (h + 7 + 3 * w)] Sh I P L (jD (some (.int (snext0 f w))) I P L) := jN_of (by decide) (Nat.le_of_ble_eq_true rfl) (fun _ _ _ _ _ _ _ _ C hr => b_X0_chosenNumber C hr S T G H V hw)
theorem t_H_grams {l : Launch} {D : va_G} {cA : Nat → ClassId} {N0 : Nat} {Sh : jS} {I : jI} {P : jP} {L : jL} {h : Nat} {og : Nat → Nat} {f : sF} (S : hS Sh h) (T : hP P h) (G : hG P h og) (H : hR I h og f) (V : sI f) {o : Nat} (ho : o < smany f) : jN l D cA N0 0 yX1_gramsEach cX1_gramsEach 1 (some .int) [.ref (h + 25 + 2 * og o)] Sh I P L (jD (some (.int (sgrams f o))) I P L) := by
  have hk := V.1.2.1
  have e : (I (h + 25 + 2 * og o) 3 + nI 9) / nI 10 = sgrams f o := congrArg (fun z => (z + nI 9) / nI 10) (H.od (k := 2) ho (by decide))
  have t := t_X1_gramsEach (l := l) (D := D) (cA := cA) (N0 := N0) (P := P) (L := L) (I := I) (S.od (G.lt o (by omega)))
  rwa [e] at t
set_option maxHeartbeats 4000000 in
theorem b_X0_sourceOf_a {p : Program} {l : Launch} {e : Env} {s : State} {m : MethodId} {args : Array Value} {below : List Frame} {meth : Method} {c : Code} {D : va_G} {cA : Nat → ClassId} {N0 : Nat} {Sh : jS} {I : jI} {P : jP} {L : jL} (C : jC p (jRm 1 0 0) s m args meth c D cA N0 cX0_sourceOf 4 RX0 1) (hr : meth.sig.returnType = (some (.object "WeaveShares$Yarn"))) {h : Nat} {og : Nat → Nat} {f : sF} (S : hS Sh h) (T : hP P h) (G : hG P h og) (H : hR I h og f) (V : sI f) {w : Nat} (hw : w < 6) {o : Nat} (ho : o < smany f) (ha : (sgrams f o ≤ f (18 + 12 * w + (8 + scol f o)))) : jJ p l e (jRm 1 0 0) s m args below meth c D cA N0 4 (MQ below (jQn D cA N0 Sh (jD (some (.ref (h + 8 + 3 * w))) I P L)) args s 0 0 (fun q => N0 ≤ q)) (fun _ => True) Sh I P L 0 0 0 [some (.ref h), some (.ref (h + 7 + 3 * w)), some (.ref (h + 25 + 2 * og o)), none] [] := by
  have hk := V.1.2.1
  have hm := V.1.1
  obtain ⟨hc, hc4⟩ := V.1.2.2.1 o ho
  have hcv := (H.od (k := 1) ho (by decide)).trans hc
  refine jx_aload_n (pc := 0) C dX0_sourceOf_0 rfl ?_
  refine jx_callD (pc := 1) C (go_X0_115 C (S.od (G.lt o (by omega))) (Nat.le_of_ble_eq_true rfl) dX0_sourceOf_1) (t_H_grams S T G H V ho) (by decide) (by decide) ⟨Nat.zero_le _, Nat.zero_le _⟩ ?_
  refine jx_istore_n (pc := 4) C dX0_sourceOf_4 (jset_3 jc_r) (by decide) ?_
  refine jx_aload_n (pc := 5) C dX0_sourceOf_5 rfl ?_
  refine jx_getP (pc := 6) C kf_X0_119 rfl (S.wv hw) (T.wy hw) dX0_sourceOf_6 ?_
  refine jx_aload_n (pc := 9) C dX0_sourceOf_9 rfl ?_
  refine jx_getIv (pc := 10) C kf_X0_122 rfl (S.od (G.lt o (by omega))) hcv dX0_sourceOf_10 ?_
  refine jx_callD (pc := 13) C (go_X0_125 C (S.wy hw) (Nat.le_of_ble_eq_true rfl) dX0_sourceOf_13) (t_X4_of (S.wy hw) (S.wg hw) (T.wg hw) hc4) (by decide) (by decide) ⟨Nat.zero_le _, Nat.zero_le _⟩ ?_
  rw [H.sh hw hc4]
  refine jx_iload_n (pc := 16) C dX0_sourceOf_16 rfl ?_
  refine jx_icmp_lt (pc := 17) C (tgt := 25) dX0_sourceOf_17 (by decide) (fun c17 => (by exfalso; exact i32_nlt.mpr ha c17)) (fun c17 => ?_)
  refine jx_aload_n (pc := 20) C dX0_sourceOf_20 rfl ?_
  refine jx_getP (pc := 21) C kf_X0_119 rfl (S.wv hw) (T.wy hw) dX0_sourceOf_21 ?_
  exact jn_aret (pc := 24) C hr (Or.inl ⟨_, rfl⟩) (Or.inr ⟨_, rfl⟩) (jD_r) dX0_sourceOf_24
theorem t_X0_sourceOf_a {l : Launch} {D : va_G} {cA : Nat → ClassId} {N0 : Nat} {Sh : jS} {I : jI} {P : jP} {L : jL} {h : Nat} {og : Nat → Nat} {f : sF} (S : hS Sh h) (T : hP P h) (G : hG P h og) (H : hR I h og f) (V : sI f) {w : Nat} (hw : w < 6) {o : Nat} (ho : o < smany f) (ha : (sgrams f o ≤ f (18 + 12 * w + (8 + scol f o)))) : jN l D cA N0 1 yX0_sourceOf cX0_sourceOf 4 (some (.object "WeaveShares$Yarn")) [.ref h, .ref (h + 7 + 3 * w), .ref (h + 25 + 2 * og o)] Sh I P L (jD (some (.ref (h + 8 + 3 * w))) I P L) := jN_of (by decide) (Nat.le_of_ble_eq_true rfl) (fun _ _ _ _ _ _ _ _ C hr => b_X0_sourceOf_a C hr S T G H V hw ho ha)
set_option maxHeartbeats 4000000 in
theorem b_X0_sourceOf_b {p : Program} {l : Launch} {e : Env} {s : State} {m : MethodId} {args : Array Value} {below : List Frame} {meth : Method} {c : Code} {D : va_G} {cA : Nat → ClassId} {N0 : Nat} {Sh : jS} {I : jI} {P : jP} {L : jL} (C : jC p (jRm 1 0 0) s m args meth c D cA N0 cX0_sourceOf 4 RX0 1) (hr : meth.sig.returnType = (some (.object "WeaveShares$Yarn"))) {h : Nat} {og : Nat → Nat} {f : sF} (S : hS Sh h) (T : hP P h) (G : hG P h og) (H : hR I h og f) (V : sI f) {w : Nat} (hw : w < 6) {o : Nat} (ho : o < smany f) (ha : ¬ (sgrams f o ≤ f (18 + 12 * w + (8 + scol f o)))) (hb : (f 1 = nI 1 ∧ sgrams f o ≤ f (14 + scol f o))) : jJ p l e (jRm 1 0 0) s m args below meth c D cA N0 4 (MQ below (jQn D cA N0 Sh (jD (some (.ref (h + 3))) I P L)) args s 0 0 (fun q => N0 ≤ q)) (fun _ => True) Sh I P L 0 0 0 [some (.ref h), some (.ref (h + 7 + 3 * w)), some (.ref (h + 25 + 2 * og o)), none] [] := by
  have hk := V.1.2.1
  have hm := V.1.1
  obtain ⟨hc, hc4⟩ := V.1.2.2.1 o ho
  have hcv := (H.od (k := 1) ho (by decide)).trans hc
  refine jx_aload_n (pc := 0) C dX0_sourceOf_0 rfl ?_
  refine jx_callD (pc := 1) C (go_X0_115 C (S.od (G.lt o (by omega))) (Nat.le_of_ble_eq_true rfl) dX0_sourceOf_1) (t_H_grams S T G H V ho) (by decide) (by decide) ⟨Nat.zero_le _, Nat.zero_le _⟩ ?_
  refine jx_istore_n (pc := 4) C dX0_sourceOf_4 (jset_3 jc_r) (by decide) ?_
  refine jx_aload_n (pc := 5) C dX0_sourceOf_5 rfl ?_
  refine jx_getP (pc := 6) C kf_X0_119 rfl (S.wv hw) (T.wy hw) dX0_sourceOf_6 ?_
  refine jx_aload_n (pc := 9) C dX0_sourceOf_9 rfl ?_
  refine jx_getIv (pc := 10) C kf_X0_122 rfl (S.od (G.lt o (by omega))) hcv dX0_sourceOf_10 ?_
  refine jx_callD (pc := 13) C (go_X0_125 C (S.wy hw) (Nat.le_of_ble_eq_true rfl) dX0_sourceOf_13) (t_X4_of (S.wy hw) (S.wg hw) (T.wg hw) hc4) (by decide) (by decide) ⟨Nat.zero_le _, Nat.zero_le _⟩ ?_
  rw [H.sh hw hc4]
  refine jx_iload_n (pc := 16) C dX0_sourceOf_16 rfl ?_
  refine jx_icmp_lt (pc := 17) C (tgt := 25) dX0_sourceOf_17 (by decide) (fun c17 => ?_) (fun c17 => (by exfalso; exact ha (i32_nlt.mp c17)))
  refine jx_aload_n (pc := 25) C dX0_sourceOf_25 rfl ?_
  refine jx_getP (pc := 26) C kf_X0_30 rfl S.hall T.se dX0_sourceOf_26 ?_
  refine jx_iconst (pc := 29) C dX0_sourceOf_29 nc_1 ?_
  refine jx_ialdv (pc := 30) C S.se (by omega) (by decide) (H.se (k := 1) (by decide)) dX0_sourceOf_30 ?_
  refine jx_iconst (pc := 31) C dX0_sourceOf_31 nc_1 ?_
  refine jx_icmp_ne (pc := 32) C (tgt := 57) dX0_sourceOf_32 (by decide) (fun c32 => (by exfalso; exact c32 hb.1)) (fun c32 => ?_)
  refine jx_aload_n (pc := 35) C dX0_sourceOf_35 rfl ?_
  refine jx_getP (pc := 36) C kf_X0_26 rfl S.hall T.sk dX0_sourceOf_36 ?_
  refine jx_aload_n (pc := 39) C dX0_sourceOf_39 rfl ?_
  refine jx_getIv (pc := 40) C kf_X0_122 rfl (S.od (G.lt o (by omega))) hcv dX0_sourceOf_40 ?_
  refine jx_callD (pc := 43) C (go_X0_125 C S.sk (Nat.le_of_ble_eq_true rfl) dX0_sourceOf_43) (t_X4_of S.sk S.sg T.sg hc4) (by decide) (by decide) ⟨Nat.zero_le _, Nat.zero_le _⟩ ?_
  rw [H.st hc4]
  refine jx_iload_n (pc := 46) C dX0_sourceOf_46 rfl ?_
  refine jx_icmp_lt (pc := 47) C (tgt := 57) dX0_sourceOf_47 (by decide) (fun c47 => (by exfalso; exact i32_nlt.mpr hb.2 c47)) (fun c47 => ?_)
  refine jx_aload_n (pc := 50) C dX0_sourceOf_50 rfl ?_
  refine jx_getP (pc := 51) C kf_X0_26 rfl S.hall T.sk dX0_sourceOf_51 ?_
  refine jx_goto (pc := 54) C (tgt := 58) dX0_sourceOf_54 (by decide) ?_
  exact jn_aret (pc := 58) C hr (Or.inl ⟨_, rfl⟩) (Or.inr ⟨_, rfl⟩) (jD_r) dX0_sourceOf_58
theorem t_X0_sourceOf_b {l : Launch} {D : va_G} {cA : Nat → ClassId} {N0 : Nat} {Sh : jS} {I : jI} {P : jP} {L : jL} {h : Nat} {og : Nat → Nat} {f : sF} (S : hS Sh h) (T : hP P h) (G : hG P h og) (H : hR I h og f) (V : sI f) {w : Nat} (hw : w < 6) {o : Nat} (ho : o < smany f) (ha : ¬ (sgrams f o ≤ f (18 + 12 * w + (8 + scol f o)))) (hb : (f 1 = nI 1 ∧ sgrams f o ≤ f (14 + scol f o))) : jN l D cA N0 1 yX0_sourceOf cX0_sourceOf 4 (some (.object "WeaveShares$Yarn")) [.ref h, .ref (h + 7 + 3 * w), .ref (h + 25 + 2 * og o)] Sh I P L (jD (some (.ref (h + 3))) I P L) := jN_of (by decide) (Nat.le_of_ble_eq_true rfl) (fun _ _ _ _ _ _ _ _ C hr => b_X0_sourceOf_b C hr S T G H V hw ho ha hb)
set_option maxHeartbeats 4000000 in
theorem b_X0_sourceOf_n {p : Program} {l : Launch} {e : Env} {s : State} {m : MethodId} {args : Array Value} {below : List Frame} {meth : Method} {c : Code} {D : va_G} {cA : Nat → ClassId} {N0 : Nat} {Sh : jS} {I : jI} {P : jP} {L : jL} (C : jC p (jRm 1 0 0) s m args meth c D cA N0 cX0_sourceOf 4 RX0 1) (hr : meth.sig.returnType = (some (.object "WeaveShares$Yarn"))) {h : Nat} {og : Nat → Nat} {f : sF} (S : hS Sh h) (T : hP P h) (G : hG P h og) (H : hR I h og f) (V : sI f) {w : Nat} (hw : w < 6) {o : Nat} (ho : o < smany f) (ha : ¬ (sgrams f o ≤ f (18 + 12 * w + (8 + scol f o)))) (hb : ¬ (f 1 = nI 1 ∧ sgrams f o ≤ f (14 + scol f o))) : jJ p l e (jRm 1 0 0) s m args below meth c D cA N0 4 (MQ below (jQn D cA N0 Sh (jD (some .null) I P L)) args s 0 0 (fun q => N0 ≤ q)) (fun _ => True) Sh I P L 0 0 0 [some (.ref h), some (.ref (h + 7 + 3 * w)), some (.ref (h + 25 + 2 * og o)), none] [] := by
  have hk := V.1.2.1
  have hm := V.1.1
  obtain ⟨hc, hc4⟩ := V.1.2.2.1 o ho
  have hcv := (H.od (k := 1) ho (by decide)).trans hc
  refine jx_aload_n (pc := 0) C dX0_sourceOf_0 rfl ?_
  refine jx_callD (pc := 1) C (go_X0_115 C (S.od (G.lt o (by omega))) (Nat.le_of_ble_eq_true rfl) dX0_sourceOf_1) (t_H_grams S T G H V ho) (by decide) (by decide) ⟨Nat.zero_le _, Nat.zero_le _⟩ ?_
  refine jx_istore_n (pc := 4) C dX0_sourceOf_4 (jset_3 jc_r) (by decide) ?_
  refine jx_aload_n (pc := 5) C dX0_sourceOf_5 rfl ?_
  refine jx_getP (pc := 6) C kf_X0_119 rfl (S.wv hw) (T.wy hw) dX0_sourceOf_6 ?_
  refine jx_aload_n (pc := 9) C dX0_sourceOf_9 rfl ?_
  refine jx_getIv (pc := 10) C kf_X0_122 rfl (S.od (G.lt o (by omega))) hcv dX0_sourceOf_10 ?_
  refine jx_callD (pc := 13) C (go_X0_125 C (S.wy hw) (Nat.le_of_ble_eq_true rfl) dX0_sourceOf_13) (t_X4_of (S.wy hw) (S.wg hw) (T.wg hw) hc4) (by decide) (by decide) ⟨Nat.zero_le _, Nat.zero_le _⟩ ?_
  rw [H.sh hw hc4]
  refine jx_iload_n (pc := 16) C dX0_sourceOf_16 rfl ?_
  refine jx_icmp_lt (pc := 17) C (tgt := 25) dX0_sourceOf_17 (by decide) (fun c17 => ?_) (fun c17 => (by exfalso; exact ha (i32_nlt.mp c17)))
  refine jx_aload_n (pc := 25) C dX0_sourceOf_25 rfl ?_
  refine jx_getP (pc := 26) C kf_X0_30 rfl S.hall T.se dX0_sourceOf_26 ?_
  refine jx_iconst (pc := 29) C dX0_sourceOf_29 nc_1 ?_
  refine jx_ialdv (pc := 30) C S.se (by omega) (by decide) (H.se (k := 1) (by decide)) dX0_sourceOf_30 ?_
  refine jx_iconst (pc := 31) C dX0_sourceOf_31 nc_1 ?_
  refine jx_icmp_ne (pc := 32) C (tgt := 57) dX0_sourceOf_32 (by decide) (fun c32 => ?_) (fun c32 => ?_)
  · refine jx_null (pc := 57) C dX0_sourceOf_57 ?_
    exact jn_aret (pc := 58) C hr (Or.inl ⟨_, rfl⟩) (Or.inl rfl) (jD_r) dX0_sourceOf_58
  · refine jx_aload_n (pc := 35) C dX0_sourceOf_35 rfl ?_
    refine jx_getP (pc := 36) C kf_X0_26 rfl S.hall T.sk dX0_sourceOf_36 ?_
    refine jx_aload_n (pc := 39) C dX0_sourceOf_39 rfl ?_
    refine jx_getIv (pc := 40) C kf_X0_122 rfl (S.od (G.lt o (by omega))) hcv dX0_sourceOf_40 ?_
    refine jx_callD (pc := 43) C (go_X0_125 C S.sk (Nat.le_of_ble_eq_true rfl) dX0_sourceOf_43) (t_X4_of S.sk S.sg T.sg hc4) (by decide) (by decide) ⟨Nat.zero_le _, Nat.zero_le _⟩ ?_
    rw [H.st hc4]
    refine jx_iload_n (pc := 46) C dX0_sourceOf_46 rfl ?_
    refine jx_icmp_lt (pc := 47) C (tgt := 57) dX0_sourceOf_47 (by decide) (fun c47 => ?_) (fun c47 => (by exfalso; exact hb ⟨c32, i32_nlt.mp c47⟩))
    refine jx_null (pc := 57) C dX0_sourceOf_57 ?_
    exact jn_aret (pc := 58) C hr (Or.inl ⟨_, rfl⟩) (Or.inl rfl) (jD_r) dX0_sourceOf_58
theorem t_X0_sourceOf_n {l : Launch} {D : va_G} {cA : Nat → ClassId} {N0 : Nat} {Sh : jS} {I : jI} {P : jP} {L : jL} {h : Nat} {og : Nat → Nat} {f : sF} (S : hS Sh h) (T : hP P h) (G : hG P h og) (H : hR I h og f) (V : sI f) {w : Nat} (hw : w < 6) {o : Nat} (ho : o < smany f) (ha : ¬ (sgrams f o ≤ f (18 + 12 * w + (8 + scol f o)))) (hb : ¬ (f 1 = nI 1 ∧ sgrams f o ≤ f (14 + scol f o))) : jN l D cA N0 1 yX0_sourceOf cX0_sourceOf 4 (some (.object "WeaveShares$Yarn")) [.ref h, .ref (h + 7 + 3 * w), .ref (h + 25 + 2 * og o)] Sh I P L (jD (some .null) I P L) := jN_of (by decide) (Nat.le_of_ble_eq_true rfl) (fun _ _ _ _ _ _ _ _ C hr => b_X0_sourceOf_n C hr S T G H V hw ho ha hb)
set_option maxHeartbeats 4000000 in
theorem b_X0_hindrance {p : Program} {l : Launch} {e : Env} {s : State} {m : MethodId} {args : Array Value} {below : List Frame} {meth : Method} {c : Code} {D : va_G} {cA : Nat → ClassId} {N0 : Nat} {Sh : jS} {I : jI} {P : jP} {L : jL} (C : jC p (jRm 2 0 0) s m args meth c D cA N0 cX0_hindrance 3 RX0 2) (hr : meth.sig.returnType = (some .int)) {h : Nat} {og : Nat → Nat} {f : sF} (S : hS Sh h) (T : hP P h) (G : hG P h og) (H : hR I h og f) (V : sI f) {w : Nat} (hw : w < 6) : jJ p l e (jRm 2 0 0) s m args below meth c D cA N0 3 (MQ below (jQn D cA N0 Sh (jD (some (.int (snext1 f w))) I P L)) args s 0 0 (fun q => N0 ≤ q)) (fun _ => True) Sh I P L 0 0 0 [some (.ref h), some (.ref (h + 7 + 3 * w)), none] [] := by
  have hk := V.1.2.1
  have hm := V.1.1
  have hW := H.wv (k := 0) hw (by decide)
  by_cases h0 : f (18 + 12 * w + 0) = 0
  · have hn : ¬ 0 < I (h + 7 + 3 * w) 1 := by
      rw [show I (h + 7 + 3 * w) 1 = f (18 + 12 * w + 0) from hW, h0]; decide
    refine jx_aload_n (pc := 0) C dX0_hindrance_0 rfl ?_
    refine jx_callD (pc := 1) C (go_X0_107 C (S.wv hw) (Nat.le_of_ble_eq_true rfl) dX0_hindrance_1) (t_X3_hasLoom (S.wv hw)) (by decide) (by decide) ⟨Nat.zero_le _, Nat.zero_le _⟩ ?_
    refine jx_if_ne (pc := 4) C (tgt := 9) dX0_hindrance_4 (by decide) (fun c4 => (by exfalso; exact c4 (by rw [bI_0]; exact decide_eq_false hn))) (fun c4 => ?_)
    rw [bI_0, decide_eq_false_iff_not] at c4
    refine jx_iconst (pc := 7) C dX0_hindrance_7 nc_1 ?_
    exact jn_iret (pc := 8) C hr (jD_i (by unfold snext1; rw [snch_e V, schos_0 V h0]; exact (if_pos h0).symm)) dX0_hindrance_8
  · have hp : 0 < I (h + 7 + 3 * w) 1 := by
      rw [show I (h + 7 + 3 * w) 1 = f (18 + 12 * w + 0) from hW]
      have h1 := (V.2.1.2.2.1 w hw).resolve_left h0
      have h40 : (nI 40).toInt = 40 := by decide
      have h00 : (0 : Int32).toInt = 0 := by decide
      rw [i32_le] at h1
      rw [i32_lt]
      omega
    have hb1 : ¬ bI (decide (0 < I (h + 7 + 3 * w) 1)) = 0 := by rw [bI_0]; intro z; exact of_decide_eq_false z hp
    cases hq : schos f w with
    | none =>
      refine jx_aload_n (pc := 0) C dX0_hindrance_0 rfl ?_
      refine jx_callD (pc := 1) C (go_X0_107 C (S.wv hw) (Nat.le_of_ble_eq_true rfl) dX0_hindrance_1) (t_X3_hasLoom (S.wv hw)) (by decide) (by decide) ⟨Nat.zero_le _, Nat.zero_le _⟩ ?_
      refine jx_if_ne (pc := 4) C (tgt := 9) dX0_hindrance_4 (by decide) (fun c4 => ?_) (fun c4 => (by exfalso; exact hb1 c4))
      rw [bI_0, decide_eq_false_iff_not, Decidable.not_not] at c4
      refine jx_aload_n (pc := 9) C dX0_hindrance_9 rfl ?_
      refine jx_aload_n (pc := 10) C dX0_hindrance_10 rfl ?_
      refine jx_callD (pc := 11) C (go_X0_103 C S.hall (Nat.le_of_ble_eq_true rfl) dX0_hindrance_11) (t_X0_choiceOf_n S T G H V hw hq) (by decide) (by decide) ⟨Nat.zero_le _, Nat.zero_le _⟩ ?_
      refine jx_astore_nN (pc := 14) C dX0_hindrance_14 (jset_2 jc_r) (by decide) ?_
      refine jx_aload_nN (pc := 15) C dX0_hindrance_15 rfl ?_
      refine jx_ifnonnullN (pc := 16) C dX0_hindrance_16 ?_
      refine jx_iconst (pc := 19) C dX0_hindrance_19 nc_2 ?_
      exact jn_iret (pc := 20) C hr (jD_i (by unfold snext1; rw [snch_e V, hq]; exact (if_neg h0).symm)) dX0_hindrance_20
    | some o =>
      have ho := (schosN_lt hq).1
      by_cases ha : (sgrams f o ≤ f (18 + 12 * w + (8 + scol f o)))
      · refine jx_aload_n (pc := 0) C dX0_hindrance_0 rfl ?_
        refine jx_callD (pc := 1) C (go_X0_107 C (S.wv hw) (Nat.le_of_ble_eq_true rfl) dX0_hindrance_1) (t_X3_hasLoom (S.wv hw)) (by decide) (by decide) ⟨Nat.zero_le _, Nat.zero_le _⟩ ?_
        refine jx_if_ne (pc := 4) C (tgt := 9) dX0_hindrance_4 (by decide) (fun c4 => ?_) (fun c4 => (by exfalso; exact hb1 c4))
        rw [bI_0, decide_eq_false_iff_not, Decidable.not_not] at c4
        refine jx_aload_n (pc := 9) C dX0_hindrance_9 rfl ?_
        refine jx_aload_n (pc := 10) C dX0_hindrance_10 rfl ?_
        refine jx_callD (pc := 11) C (go_X0_103 C S.hall (Nat.le_of_ble_eq_true rfl) dX0_hindrance_11) (t_X0_choiceOf_s S T G H V hw hq) (by decide) (by decide) ⟨Nat.zero_le _, Nat.zero_le _⟩ ?_
        refine jx_astore_n (pc := 14) C dX0_hindrance_14 (jset_2 jc_r) (by decide) ?_
        refine jx_aload_n (pc := 15) C dX0_hindrance_15 rfl ?_
        refine jx_ifnonnull (pc := 16) C (tgt := 21) dX0_hindrance_16 (by decide) ?_
        refine jx_aload_n (pc := 21) C dX0_hindrance_21 rfl ?_
        refine jx_aload_n (pc := 22) C dX0_hindrance_22 rfl ?_
        refine jx_aload_n (pc := 23) C dX0_hindrance_23 rfl ?_
        refine jx_callD (pc := 24) C (go_X0_111 C S.hall (Nat.le_of_ble_eq_true rfl) dX0_hindrance_24) (t_X0_sourceOf_a S T G H V hw ho ha) (by decide) (by decide) ⟨Nat.zero_le _, Nat.zero_le _⟩ ?_
        refine jx_ifnonnull (pc := 27) C (tgt := 34) dX0_hindrance_27 (by decide) ?_
        refine jx_iconst (pc := 34) C dX0_hindrance_34 nc_0 ?_
        exact jn_iret (pc := 35) C hr (jD_i (by unfold snext1; rw [snch_e V, hq]; exact (if_pos (Or.inl ha)).symm)) dX0_hindrance_35
      · by_cases hb : (f 1 = nI 1 ∧ sgrams f o ≤ f (14 + scol f o))
        · refine jx_aload_n (pc := 0) C dX0_hindrance_0 rfl ?_
          refine jx_callD (pc := 1) C (go_X0_107 C (S.wv hw) (Nat.le_of_ble_eq_true rfl) dX0_hindrance_1) (t_X3_hasLoom (S.wv hw)) (by decide) (by decide) ⟨Nat.zero_le _, Nat.zero_le _⟩ ?_
          refine jx_if_ne (pc := 4) C (tgt := 9) dX0_hindrance_4 (by decide) (fun c4 => ?_) (fun c4 => (by exfalso; exact hb1 c4))
          rw [bI_0, decide_eq_false_iff_not, Decidable.not_not] at c4
          refine jx_aload_n (pc := 9) C dX0_hindrance_9 rfl ?_
          refine jx_aload_n (pc := 10) C dX0_hindrance_10 rfl ?_
          refine jx_callD (pc := 11) C (go_X0_103 C S.hall (Nat.le_of_ble_eq_true rfl) dX0_hindrance_11) (t_X0_choiceOf_s S T G H V hw hq) (by decide) (by decide) ⟨Nat.zero_le _, Nat.zero_le _⟩ ?_
          refine jx_astore_n (pc := 14) C dX0_hindrance_14 (jset_2 jc_r) (by decide) ?_
          refine jx_aload_n (pc := 15) C dX0_hindrance_15 rfl ?_
          refine jx_ifnonnull (pc := 16) C (tgt := 21) dX0_hindrance_16 (by decide) ?_
          refine jx_aload_n (pc := 21) C dX0_hindrance_21 rfl ?_
          refine jx_aload_n (pc := 22) C dX0_hindrance_22 rfl ?_
          refine jx_aload_n (pc := 23) C dX0_hindrance_23 rfl ?_
          refine jx_callD (pc := 24) C (go_X0_111 C S.hall (Nat.le_of_ble_eq_true rfl) dX0_hindrance_24) (t_X0_sourceOf_b S T G H V hw ho ha hb) (by decide) (by decide) ⟨Nat.zero_le _, Nat.zero_le _⟩ ?_
          refine jx_ifnonnull (pc := 27) C (tgt := 34) dX0_hindrance_27 (by decide) ?_
          refine jx_iconst (pc := 34) C dX0_hindrance_34 nc_0 ?_
          exact jn_iret (pc := 35) C hr (jD_i (by unfold snext1; rw [snch_e V, hq]; exact (if_pos (Or.inr hb)).symm)) dX0_hindrance_35
        · refine jx_aload_n (pc := 0) C dX0_hindrance_0 rfl ?_
          refine jx_callD (pc := 1) C (go_X0_107 C (S.wv hw) (Nat.le_of_ble_eq_true rfl) dX0_hindrance_1) (t_X3_hasLoom (S.wv hw)) (by decide) (by decide) ⟨Nat.zero_le _, Nat.zero_le _⟩ ?_
          refine jx_if_ne (pc := 4) C (tgt := 9) dX0_hindrance_4 (by decide) (fun c4 => ?_) (fun c4 => (by exfalso; exact hb1 c4))
          rw [bI_0, decide_eq_false_iff_not, Decidable.not_not] at c4
          refine jx_aload_n (pc := 9) C dX0_hindrance_9 rfl ?_
          refine jx_aload_n (pc := 10) C dX0_hindrance_10 rfl ?_
          refine jx_callD (pc := 11) C (go_X0_103 C S.hall (Nat.le_of_ble_eq_true rfl) dX0_hindrance_11) (t_X0_choiceOf_s S T G H V hw hq) (by decide) (by decide) ⟨Nat.zero_le _, Nat.zero_le _⟩ ?_
          refine jx_astore_n (pc := 14) C dX0_hindrance_14 (jset_2 jc_r) (by decide) ?_
          refine jx_aload_n (pc := 15) C dX0_hindrance_15 rfl ?_
          refine jx_ifnonnull (pc := 16) C (tgt := 21) dX0_hindrance_16 (by decide) ?_
          refine jx_aload_n (pc := 21) C dX0_hindrance_21 rfl ?_
          refine jx_aload_n (pc := 22) C dX0_hindrance_22 rfl ?_
          refine jx_aload_n (pc := 23) C dX0_hindrance_23 rfl ?_
          refine jx_callD (pc := 24) C (go_X0_111 C S.hall (Nat.le_of_ble_eq_true rfl) dX0_hindrance_24) (t_X0_sourceOf_n S T G H V hw ho ha hb) (by decide) (by decide) ⟨Nat.zero_le _, Nat.zero_le _⟩ ?_
          refine jx_ifnonnullN (pc := 27) C dX0_hindrance_27 ?_
          refine jx_iconst (pc := 30) C dX0_hindrance_30 nc_3 ?_
          refine jx_goto (pc := 31) C (tgt := 35) dX0_hindrance_31 (by decide) ?_
          exact jn_iret (pc := 35) C hr (jD_i (by unfold snext1; rw [snch_e V, hq]; exact (if_neg (fun z => z.elim ha hb)).symm)) dX0_hindrance_35
theorem t_X0_hindrance {l : Launch} {D : va_G} {cA : Nat → ClassId} {N0 : Nat} {Sh : jS} {I : jI} {P : jP} {L : jL} {h : Nat} {og : Nat → Nat} {f : sF} (S : hS Sh h) (T : hP P h) (G : hG P h og) (H : hR I h og f) (V : sI f) {w : Nat} (hw : w < 6) : jN l D cA N0 2 yX0_hindrance cX0_hindrance 3 (some .int) [.ref h, .ref (h + 7 + 3 * w)] Sh I P L (jD (some (.int (snext1 f w))) I P L) := jN_of (by decide) (Nat.le_of_ble_eq_true rfl) (fun _ _ _ _ _ _ _ _ C hr => b_X0_hindrance C hr S T G H V hw)
set_option maxHeartbeats 4000000 in
theorem lp_X0_sumOf {p : Program} {l : Launch} {e : Env} {s : State} {m : MethodId} {args : Array Value} {below : List Frame} {meth : Method} {c : Code} {D : va_G} {cA : Nat → ClassId} {N0 : Nat} {Sh : jS} {I : jI} {P : jP} {L : jL} {Qf : State → Prop} (C : jC p (jRm 1 0 0) s m args meth c D cA N0 cX0_sumOf 4 RX0 1) {h : Nat} {og : Nat → Nat} {f : sF} (S : hS Sh h) (T : hP P h) (G : hG P h og) (H : hR I h og f) (V : sI f) {k : Nat} (hk8 : k < 8) (hx : jJ p l e (jRm 1 0 0) s m args below meth c D cA N0 4 Qf (fun _ => True) Sh I P L 0 0 32 [some (.ref h), some (.int (nI k)), some (.int (ssum (fun w => f (18 + 12 * w + k)) 6)), some (.int (nI 6))] []) : ∀ d i, i + d = 6 → jJ p l e (jRm 1 0 0) s m args below meth c D cA N0 4 Qf (fun _ => True) Sh I P L 0 0 4 [some (.ref h), some (.int (nI k)), some (.int (ssum (fun w => f (18 + 12 * w + k)) i)), some (.int (nI i))] [] := by
  intro d
  induction d with
  | zero =>
    intro i hi
    obtain rfl : i = 6 := by omega
    refine jx_iload_n (pc := 4) C dX0_sumOf_4 rfl ?_
    refine jx_aload_n (pc := 5) C dX0_sumOf_5 rfl ?_
    refine jx_getP (pc := 6) C kf_X0_11 rfl S.hall T.wa dX0_sumOf_6 ?_
    refine jx_alen12 (pc := 9) C S.wa dX0_sumOf_9 ?_
    refine jx_icmp_ge (pc := 10) C (tgt := 32) dX0_sumOf_10 (by decide) (fun c10 => ?_) (fun c10 => (by rw [nI_leI (by omega) (by omega)] at c10; exfalso; omega))
    rw [nI_leI (by omega) (by omega)] at c10
    exact hx
  | succ d ih =>
    intro i hi
    refine jx_iload_n (pc := 4) C dX0_sumOf_4 rfl ?_
    refine jx_aload_n (pc := 5) C dX0_sumOf_5 rfl ?_
    refine jx_getP (pc := 6) C kf_X0_11 rfl S.hall T.wa dX0_sumOf_6 ?_
    refine jx_alen12 (pc := 9) C S.wa dX0_sumOf_9 ?_
    refine jx_icmp_ge (pc := 10) C (tgt := 32) dX0_sumOf_10 (by decide) (fun c10 => (by rw [nI_leI (by omega) (by omega)] at c10; exfalso; omega)) (fun c10 => ?_)
    rw [nI_leI (by omega) (by omega)] at c10
    refine jx_iload_n (pc := 13) C dX0_sumOf_13 rfl ?_
    refine jx_aload_n (pc := 14) C dX0_sumOf_14 rfl ?_
    refine jx_getP (pc := 15) C kf_X0_11 rfl S.hall T.wa dX0_sumOf_15 ?_
    refine jx_iload_n (pc := 18) C dX0_sumOf_18 rfl ?_
    refine jx_aald12 (pc := 19) C S.wa (by omega) (by decide) (T.wv (show i < 6 by omega)) dX0_sumOf_19 ?_
    refine jx_iload_n (pc := 20) C dX0_sumOf_20 rfl ?_
    refine jx_callD (pc := 21) C (go_X0_179 C (S.wv (show i < 6 by omega)) (Nat.le_of_ble_eq_true rfl) dX0_sumOf_21) (t_X3_property (S.wv (show i < 6 by omega)) hk8) (by decide) (by decide) ⟨Nat.zero_le _, Nat.zero_le _⟩ ?_
    rw [H.wv (show i < 6 by omega) hk8]
    refine jx_iadd (pc := 24) C dX0_sumOf_24 ?_
    refine jx_istore_n (pc := 25) C dX0_sumOf_25 (jset_2 jc_i) (by decide) ?_
    refine jx_iincN (pc := 26) C dX0_sumOf_26 rfl (jset_3 jc_i) (by decide) ?_
    refine jx_goto (pc := 29) C (tgt := 4) dX0_sumOf_29 (by decide) ?_
    exact ih (i + 1) (by omega)
set_option maxHeartbeats 4000000 in
theorem b_X0_sumOf {p : Program} {l : Launch} {e : Env} {s : State} {m : MethodId} {args : Array Value} {below : List Frame} {meth : Method} {c : Code} {D : va_G} {cA : Nat → ClassId} {N0 : Nat} {Sh : jS} {I : jI} {P : jP} {L : jL} (C : jC p (jRm 1 0 0) s m args meth c D cA N0 cX0_sumOf 4 RX0 1) (hr : meth.sig.returnType = (some .int)) {h : Nat} {og : Nat → Nat} {f : sF} (S : hS Sh h) (T : hP P h) (G : hG P h og) (H : hR I h og f) (V : sI f) {k : Nat} (hk8 : k < 8) : jJ p l e (jRm 1 0 0) s m args below meth c D cA N0 4 (MQ below (jQn D cA N0 Sh (jD (some (.int (ssum (fun w => f (18 + 12 * w + k)) 6))) I P L)) args s 0 0 (fun q => N0 ≤ q)) (fun _ => True) Sh I P L 0 0 0 [some (.ref h), some (.int (nI k)), none, none] [] := by
  refine jx_iconst (pc := 0) C dX0_sumOf_0 nc_0 ?_
  refine jx_istore_n (pc := 1) C dX0_sumOf_1 (jset_2 jc_i) (by decide) ?_
  refine jx_iconst (pc := 2) C dX0_sumOf_2 nc_0 ?_
  refine jx_istore_n (pc := 3) C dX0_sumOf_3 (jset_3 jc_i) (by decide) ?_
  refine lp_X0_sumOf C S T G H V hk8 ?_ 6 0 rfl
  refine jx_iload_n (pc := 32) C dX0_sumOf_32 rfl ?_
  exact jn_iret (pc := 33) C hr (jD_r) dX0_sumOf_33
theorem t_X0_sumOf {l : Launch} {D : va_G} {cA : Nat → ClassId} {N0 : Nat} {Sh : jS} {I : jI} {P : jP} {L : jL} {h : Nat} {og : Nat → Nat} {f : sF} (S : hS Sh h) (T : hP P h) (G : hG P h og) (H : hR I h og f) (V : sI f) {k : Nat} (hk8 : k < 8) : jN l D cA N0 1 yX0_sumOf cX0_sumOf 4 (some .int) [.ref h, .int (nI k)] Sh I P L (jD (some (.int (ssum (fun w => f (18 + 12 * w + k)) 6))) I P L) := jN_of (by decide) (Nat.le_of_ble_eq_true rfl) (fun _ _ _ _ _ _ _ _ C hr => b_X0_sumOf C hr S T G H V hk8)
def swd (f : sF) (v : Int32) : Nat → Int32 | 0 => nI 0 | w + 1 => swd f v w + (if f (18 + 12 * w + 0) < v then nI 0 else nI 1)
theorem swd_t {f : sF} {v : Int32} {w : Nat} (h : f (18 + 12 * w + 0) < v) : swd f v (w + 1) = swd f v w + nI 0 := by show swd f v w + (if _ then _ else _) = _; rw [if_pos h]
theorem swd_f {f : sF} {v : Int32} {w : Nat} (h : ¬ f (18 + 12 * w + 0) < v) : swd f v (w + 1) = swd f v w + nI 1 := by show swd f v w + (if _ then _ else _) = _; rw [if_neg h]
theorem swd_o {f : sF} {o : Nat} : ∀ n, swd f (f (90 + 12 * o + 2)) n = swideN f o n := by
  intro n
  induction n with
  | zero => rfl
  | succ n ih => show swd f _ n + _ = swideN f o n + _; rw [ih]
theorem swd_l {f : sF} (V : sI f) : ∀ n, n ≤ 6 → swd f (nI 40) n = sloomsN f n := by
  intro n
  induction n with
  | zero => intro _; rfl
  | succ n ih =>
    intro hn
    show swd f _ n + (if _ then _ else _) = sloomsN f n + (if _ then _ else _)
    rw [ih (by omega)]
    have h40 : (nI 40).toInt = 40 := by decide
    have h00 : (0 : Int32).toInt = 0 := by decide
    by_cases hz : f (18 + 12 * n + 0) ≤ 0
    · rw [if_pos hz, if_pos (by rw [i32_le] at hz; rw [i32_lt]; omega)]
    · rw [if_neg hz, if_neg]
      rcases V.2.1.2.2.1 n (by omega) with h1 | h1
      · exact absurd (by rw [h1]; decide) hz
      · exact i32_nlt.mpr h1
set_option maxHeartbeats 4000000 in
theorem lp_X0_looms {p : Program} {l : Launch} {e : Env} {s : State} {m : MethodId} {args : Array Value} {below : List Frame} {meth : Method} {c : Code} {D : va_G} {cA : Nat → ClassId} {N0 : Nat} {Sh : jS} {I : jI} {P : jP} {L : jL} {Qf : State → Prop} (C : jC p (jRm 0 0 0) s m args meth c D cA N0 cX0_loomsAsWideAs 4 RX0 0) {h : Nat} {og : Nat → Nat} {f : sF} (S : hS Sh h) (T : hP P h) (G : hG P h og) (H : hR I h og f) (V : sI f) {v : Int32} (hx : jJ p l e (jRm 0 0 0) s m args below meth c D cA N0 4 Qf (fun _ => True) Sh I P L 0 0 40 [some (.ref h), some (.int v), some (.int (swd f v 6)), some (.int (nI 6))] []) : ∀ d i, i + d = 6 → jJ p l e (jRm 0 0 0) s m args below meth c D cA N0 4 Qf (fun _ => True) Sh I P L 0 0 4 [some (.ref h), some (.int v), some (.int (swd f v i)), some (.int (nI i))] [] := by
  intro d
  induction d with
  | zero =>
    intro i hi
    obtain rfl : i = 6 := by omega
    refine jx_iload_n (pc := 4) C dX0_loomsAsWideAs_4 rfl ?_
    refine jx_aload_n (pc := 5) C dX0_loomsAsWideAs_5 rfl ?_
    refine jx_getP (pc := 6) C kf_X0_11 rfl S.hall T.wa dX0_loomsAsWideAs_6 ?_
    refine jx_alen12 (pc := 9) C S.wa dX0_loomsAsWideAs_9 ?_
    refine jx_icmp_ge (pc := 10) C (tgt := 40) dX0_loomsAsWideAs_10 (by decide) (fun c10 => ?_) (fun c10 => (by rw [nI_leI (by omega) (by omega)] at c10; exfalso; omega))
    rw [nI_leI (by omega) (by omega)] at c10
    exact hx
  | succ d ih =>
    intro i hi
    refine jx_iload_n (pc := 4) C dX0_loomsAsWideAs_4 rfl ?_
    refine jx_aload_n (pc := 5) C dX0_loomsAsWideAs_5 rfl ?_
    refine jx_getP (pc := 6) C kf_X0_11 rfl S.hall T.wa dX0_loomsAsWideAs_6 ?_
    refine jx_alen12 (pc := 9) C S.wa dX0_loomsAsWideAs_9 ?_
    refine jx_icmp_ge (pc := 10) C (tgt := 40) dX0_loomsAsWideAs_10 (by decide) (fun c10 => (by rw [nI_leI (by omega) (by omega)] at c10; exfalso; omega)) (fun c10 => ?_)
    rw [nI_leI (by omega) (by omega)] at c10
    refine jx_iload_n (pc := 13) C dX0_loomsAsWideAs_13 rfl ?_
    refine jx_aload_n (pc := 14) C dX0_loomsAsWideAs_14 rfl ?_
    refine jx_getP (pc := 15) C kf_X0_11 rfl S.hall T.wa dX0_loomsAsWideAs_15 ?_
    refine jx_iload_n (pc := 18) C dX0_loomsAsWideAs_18 rfl ?_
    refine jx_aald12 (pc := 19) C S.wa (by omega) (by decide) (T.wv (show i < 6 by omega)) dX0_loomsAsWideAs_19 ?_
    refine jx_getIv (pc := 20) C kf_X0_98 rfl (S.wv (show i < 6 by omega)) (H.wv (k := 0) (show i < 6 by omega) (by decide)) dX0_loomsAsWideAs_20 ?_
    refine jx_iload_n (pc := 23) C dX0_loomsAsWideAs_23 rfl ?_
    refine jx_icmp_lt (pc := 24) C (tgt := 31) dX0_loomsAsWideAs_24 (by decide) (fun c24 => ?_) (fun c24 => ?_)
    · refine jx_iconst (pc := 31) C dX0_loomsAsWideAs_31 nc_0 ?_
      refine jx_iadd (pc := 32) C dX0_loomsAsWideAs_32 ?_
      refine jx_istore_n (pc := 33) C dX0_loomsAsWideAs_33 (jset_2 jc_i) (by decide) ?_
      refine jx_iincN (pc := 34) C dX0_loomsAsWideAs_34 rfl (jset_3 jc_i) (by decide) ?_
      refine jx_goto (pc := 37) C (tgt := 4) dX0_loomsAsWideAs_37 (by decide) ?_
      have h6 := ih (i + 1) (by omega)
      first | rw [swd_t c24] at h6 | rw [swd_f c24] at h6
      exact h6
    · refine jx_iconst (pc := 27) C dX0_loomsAsWideAs_27 nc_1 ?_
      refine jx_goto (pc := 28) C (tgt := 32) dX0_loomsAsWideAs_28 (by decide) ?_
      refine jx_iadd (pc := 32) C dX0_loomsAsWideAs_32 ?_
      refine jx_istore_n (pc := 33) C dX0_loomsAsWideAs_33 (jset_2 jc_i) (by decide) ?_
      refine jx_iincN (pc := 34) C dX0_loomsAsWideAs_34 rfl (jset_3 jc_i) (by decide) ?_
      refine jx_goto (pc := 37) C (tgt := 4) dX0_loomsAsWideAs_37 (by decide) ?_
      have h6 := ih (i + 1) (by omega)
      first | rw [swd_t c24] at h6 | rw [swd_f c24] at h6
      exact h6
set_option maxHeartbeats 4000000 in
theorem b_X0_loomsAsWideAs {p : Program} {l : Launch} {e : Env} {s : State} {m : MethodId} {args : Array Value} {below : List Frame} {meth : Method} {c : Code} {D : va_G} {cA : Nat → ClassId} {N0 : Nat} {Sh : jS} {I : jI} {P : jP} {L : jL} (C : jC p (jRm 0 0 0) s m args meth c D cA N0 cX0_loomsAsWideAs 4 RX0 0) (hr : meth.sig.returnType = (some .int)) {h : Nat} {og : Nat → Nat} {f : sF} (S : hS Sh h) (T : hP P h) (G : hG P h og) (H : hR I h og f) (V : sI f) {v : Int32} : jJ p l e (jRm 0 0 0) s m args below meth c D cA N0 4 (MQ below (jQn D cA N0 Sh (jD (some (.int (swd f v 6))) I P L)) args s 0 0 (fun q => N0 ≤ q)) (fun _ => True) Sh I P L 0 0 0 [some (.ref h), some (.int v), none, none] [] := by
  refine jx_iconst (pc := 0) C dX0_loomsAsWideAs_0 nc_0 ?_
  refine jx_istore_n (pc := 1) C dX0_loomsAsWideAs_1 (jset_2 jc_i) (by decide) ?_
  refine jx_iconst (pc := 2) C dX0_loomsAsWideAs_2 nc_0 ?_
  refine jx_istore_n (pc := 3) C dX0_loomsAsWideAs_3 (jset_3 jc_i) (by decide) ?_
  refine lp_X0_looms C S T G H V ?_ 6 0 rfl
  refine jx_iload_n (pc := 40) C dX0_loomsAsWideAs_40 rfl ?_
  exact jn_iret (pc := 41) C hr (jD_r) dX0_loomsAsWideAs_41
theorem t_X0_loomsAsWideAs {l : Launch} {D : va_G} {cA : Nat → ClassId} {N0 : Nat} {Sh : jS} {I : jI} {P : jP} {L : jL} {h : Nat} {og : Nat → Nat} {f : sF} (S : hS Sh h) (T : hP P h) (G : hG P h og) (H : hR I h og f) (V : sI f) {v : Int32} : jN l D cA N0 0 yX0_loomsAsWideAs cX0_loomsAsWideAs 4 (some .int) [.ref h, .int v] Sh I P L (jD (some (.int (swd f v 6))) I P L) := jN_of (by decide) (Nat.le_of_ble_eq_true rfl) (fun _ _ _ _ _ _ _ _ C hr => b_X0_loomsAsWideAs C hr S T G H V)
set_option maxHeartbeats 4000000 in
theorem b_X0_number {p : Program} {l : Launch} {e : Env} {s : State} {m : MethodId} {args : Array Value} {below : List Frame} {meth : Method} {c : Code} {D : va_G} {cA : Nat → ClassId} {N0 : Nat} {Sh : jS} {I : jI} {P : jP} {L : jL} (C : jC p (jRm 2 0 0) s m args meth c D cA N0 cX0_number 2 RX0 2) (hr : meth.sig.returnType = (some .int)) {h : Nat} {og : Nat → Nat} {f : sF} (S : hS Sh h) (T : hP P h) (G : hG P h og) (H : hR I h og f) (V : sI f) {k : Nat} (hk11 : k < 11) {kept : Int32} : jJ p l e (jRm 2 0 0) s m args below meth c D cA N0 2 (MQ below (jQn D cA N0 Sh (jD (some (.int (scounted f kept k))) I P L)) args s 0 0 (fun q => N0 ≤ q)) (fun _ => True) Sh I P L 0 0 0 [some (.ref h), some (.int (nI k))] [] := by
  match k, hk11 with
  | 0, _ =>
    refine jx_iload_n (pc := 0) C dX0_number_0 rfl ?_
    refine jx_tableIn (pc := 1) C (off := 55) (tgt := 56) dX0_number_1 (by decide) (by decide) rfl (by decide) ?_
    refine jx_aload_n (pc := 56) C dX0_number_56 rfl ?_
    refine jx_getIv (pc := 57) C kf_X0_56 rfl S.hall H.n7 dX0_number_57 ?_
    exact jn_iret (pc := 60) C hr (jD_i rfl) dX0_number_60
  | 1, _ =>
    refine jx_iload_n (pc := 0) C dX0_number_0 rfl ?_
    refine jx_tableIn (pc := 1) C (off := 60) (tgt := 61) dX0_number_1 (by decide) (by decide) rfl (by decide) ?_
    refine jx_aload_n (pc := 61) C dX0_number_61 rfl ?_
    refine jx_getIv (pc := 62) C kf_X0_49 rfl S.hall H.n5 dX0_number_62 ?_
    exact jn_iret (pc := 65) C hr (jD_i rfl) dX0_number_65
  | 2, _ =>
    refine jx_iload_n (pc := 0) C dX0_number_0 rfl ?_
    refine jx_tableIn (pc := 1) C (off := 65) (tgt := 66) dX0_number_1 (by decide) (by decide) rfl (by decide) ?_
    refine jx_aload_n (pc := 66) C dX0_number_66 rfl ?_
    refine jx_getIv (pc := 67) C kf_X0_59 rfl S.hall H.n8 dX0_number_67 ?_
    exact jn_iret (pc := 70) C hr (jD_i rfl) dX0_number_70
  | 3, _ =>
    refine jx_iload_n (pc := 0) C dX0_number_0 rfl ?_
    refine jx_tableIn (pc := 1) C (off := 70) (tgt := 71) dX0_number_1 (by decide) (by decide) rfl (by decide) ?_
    refine jx_aload_n (pc := 71) C dX0_number_71 rfl ?_
    refine jx_getIv (pc := 72) C kf_X0_62 rfl S.hall H.n9 dX0_number_72 ?_
    exact jn_iret (pc := 75) C hr (jD_i rfl) dX0_number_75
  | 4, _ =>
    refine jx_iload_n (pc := 0) C dX0_number_0 rfl ?_
    refine jx_tableIn (pc := 1) C (off := 75) (tgt := 76) dX0_number_1 (by decide) (by decide) rfl (by decide) ?_
    refine jx_aload_n (pc := 76) C dX0_number_76 rfl ?_
    refine jx_getIv (pc := 77) C kf_X0_65 rfl S.hall H.n10 dX0_number_77 ?_
    exact jn_iret (pc := 80) C hr (jD_i rfl) dX0_number_80
  | 5, _ =>
    refine jx_iload_n (pc := 0) C dX0_number_0 rfl ?_
    refine jx_tableIn (pc := 1) C (off := 80) (tgt := 81) dX0_number_1 (by decide) (by decide) rfl (by decide) ?_
    refine jx_aload_n (pc := 81) C dX0_number_81 rfl ?_
    refine jx_iconst (pc := 82) C dX0_number_82 nc_5 ?_
    refine jx_callD (pc := 83) C (go_X0_182 C S.hall (Nat.le_of_ble_eq_true rfl) dX0_number_83) (t_X0_sumOf S T G H V (k := 5) (by decide)) (by decide) (by decide) ⟨Nat.zero_le _, Nat.zero_le _⟩ ?_
    exact jn_iret (pc := 86) C hr (jD_i V.2.1.2.2.2.1.symm) dX0_number_86
  | 6, _ =>
    refine jx_iload_n (pc := 0) C dX0_number_0 rfl ?_
    refine jx_tableIn (pc := 1) C (off := 86) (tgt := 87) dX0_number_1 (by decide) (by decide) rfl (by decide) ?_
    refine jx_aload_n (pc := 87) C dX0_number_87 rfl ?_
    refine jx_bipush (pc := 88) C dX0_number_88 nb_6 ?_
    refine jx_callD (pc := 90) C (go_X0_182 C S.hall (Nat.le_of_ble_eq_true rfl) dX0_number_90) (t_X0_sumOf S T G H V (k := 6) (by decide)) (by decide) (by decide) ⟨Nat.zero_le _, Nat.zero_le _⟩ ?_
    exact jn_iret (pc := 93) C hr (jD_i V.2.1.2.2.2.2.symm) dX0_number_93
  | 7, _ =>
    refine jx_iload_n (pc := 0) C dX0_number_0 rfl ?_
    refine jx_tableIn (pc := 1) C (off := 93) (tgt := 94) dX0_number_1 (by decide) (by decide) rfl (by decide) ?_
    refine jx_aload_n (pc := 94) C dX0_number_94 rfl ?_
    refine jx_getIv (pc := 95) C kf_X0_68 rfl S.hall H.n11 dX0_number_95 ?_
    exact jn_iret (pc := 98) C hr (jD_i rfl) dX0_number_98
  | 8, _ =>
    refine jx_iload_n (pc := 0) C dX0_number_0 rfl ?_
    refine jx_tableIn (pc := 1) C (off := 98) (tgt := 99) dX0_number_1 (by decide) (by decide) rfl (by decide) ?_
    refine jx_aload_n (pc := 99) C dX0_number_99 rfl ?_
    refine jx_iconst (pc := 100) C dX0_number_100 nc_3 ?_
    refine jx_callD (pc := 101) C (go_X0_182 C S.hall (Nat.le_of_ble_eq_true rfl) dX0_number_101) (t_X0_sumOf S T G H V (k := 3) (by decide)) (by decide) (by decide) ⟨Nat.zero_le _, Nat.zero_le _⟩ ?_
    exact jn_iret (pc := 104) C hr (jD_i rfl) dX0_number_104
  | 9, _ =>
    refine jx_iload_n (pc := 0) C dX0_number_0 rfl ?_
    refine jx_tableIn (pc := 1) C (off := 104) (tgt := 105) dX0_number_1 (by decide) (by decide) rfl (by decide) ?_
    refine jx_aload_n (pc := 105) C dX0_number_105 rfl ?_
    refine jx_bipush (pc := 106) C dX0_number_106 nb_40 ?_
    refine jx_callD (pc := 108) C (go_X0_185 C S.hall (Nat.le_of_ble_eq_true rfl) dX0_number_108) (t_X0_loomsAsWideAs S T G H V) (by decide) (by decide) ⟨Nat.zero_le _, Nat.zero_le _⟩ ?_
    exact jn_iret (pc := 111) C hr (jD_i (swd_l V 6 (Nat.le_refl 6))) dX0_number_111
  | 10, _ =>
    refine jx_iload_n (pc := 0) C dX0_number_0 rfl ?_
    refine jx_tableOut (pc := 1) C (tgt := 112) dX0_number_1 (by decide) (by decide) ?_
    refine jx_aload_n (pc := 112) C dX0_number_112 rfl ?_
    refine jx_getIv (pc := 113) C kf_X0_71 rfl S.hall H.n12 dX0_number_113 ?_
    exact jn_iret (pc := 116) C hr (jD_i rfl) dX0_number_116
theorem t_X0_number {l : Launch} {D : va_G} {cA : Nat → ClassId} {N0 : Nat} {Sh : jS} {I : jI} {P : jP} {L : jL} {h : Nat} {og : Nat → Nat} {f : sF} (S : hS Sh h) (T : hP P h) (G : hG P h og) (H : hR I h og f) (V : sI f) {k : Nat} (hk11 : k < 11) {kept : Int32} : jN l D cA N0 2 yX0_number cX0_number 2 (some .int) [.ref h, .int (nI k)] Sh I P L (jD (some (.int (scounted f kept k))) I P L) := jN_of (by decide) (Nat.le_of_ble_eq_true rfl) (fun _ _ _ _ _ _ _ _ C hr => b_X0_number C hr S T G H V hk11)
set_option maxHeartbeats 4000000 in
theorem b_X0_orderProperty_s {p : Program} {l : Launch} {e : Env} {s : State} {m : MethodId} {args : Array Value} {below : List Frame} {meth : Method} {c : Code} {D : va_G} {cA : Nat → ClassId} {N0 : Nat} {Sh : jS} {I : jI} {P : jP} {L : jL} (C : jC p (jRm 1 0 0) s m args meth c D cA N0 cX0_orderProperty 4 RX0 1) (hr : meth.sig.returnType = (some .int)) {h : Nat} {og : Nat → Nat} {f : sF} (S : hS Sh h) (T : hP P h) (G : hG P h og) (H : hR I h og f) (V : sI f) {o k : Nat} (ho : o < smany f) (hk9 : k < 9) : jJ p l e (jRm 1 0 0) s m args below meth c D cA N0 4 (MQ below (jQn D cA N0 Sh (jD (some (.int (sofOrder f o k))) I P L)) args s 0 0 (fun q => N0 ≤ q)) (fun _ => True) Sh I P L 0 0 0 [some (.ref h), some (.int (nI o)), some (.int (nI k)), none] [] := by
  have hk := V.1.2.1
  have hm := V.1.1
  match k, hk9 with
  | 0, _ =>
    refine jx_aload_n (pc := 0) C dX0_orderProperty_0 rfl ?_
    refine jx_iload_n (pc := 1) C dX0_orderProperty_1 rfl ?_
    refine jx_callD (pc := 2) C (go_X0_81 C S.hall (Nat.le_of_ble_eq_true rfl) dX0_orderProperty_2) (t_X0_orderAt_s S T G H V ho) (by decide) (by decide) ⟨Nat.zero_le _, Nat.zero_le _⟩ ?_
    refine jx_astore_n (pc := 5) C dX0_orderProperty_5 (jset_3 jc_i) (by decide) ?_
    refine jx_aload_n (pc := 6) C dX0_orderProperty_6 rfl ?_
    refine jx_ifnonnull (pc := 7) C (tgt := 12) dX0_orderProperty_7 (by decide) ?_
    refine jx_iload_n (pc := 12) C dX0_orderProperty_12 rfl ?_
    refine jx_tableIn (pc := 13) C (off := 47) (tgt := 60) dX0_orderProperty_13 (by decide) (by decide) rfl (by decide) ?_
    refine jx_aload_n (pc := 60) C dX0_orderProperty_60 rfl ?_
    refine jx_getIv (pc := 61) C kf_X0_74 rfl (S.od (G.lt o (by omega))) (H.od (k := 0) ho (by decide)) dX0_orderProperty_61 ?_
    exact jn_iret (pc := 64) C hr (jD_i rfl) dX0_orderProperty_64
  | 1, _ =>
    refine jx_aload_n (pc := 0) C dX0_orderProperty_0 rfl ?_
    refine jx_iload_n (pc := 1) C dX0_orderProperty_1 rfl ?_
    refine jx_callD (pc := 2) C (go_X0_81 C S.hall (Nat.le_of_ble_eq_true rfl) dX0_orderProperty_2) (t_X0_orderAt_s S T G H V ho) (by decide) (by decide) ⟨Nat.zero_le _, Nat.zero_le _⟩ ?_
    refine jx_astore_n (pc := 5) C dX0_orderProperty_5 (jset_3 jc_i) (by decide) ?_
    refine jx_aload_n (pc := 6) C dX0_orderProperty_6 rfl ?_
    refine jx_ifnonnull (pc := 7) C (tgt := 12) dX0_orderProperty_7 (by decide) ?_
    refine jx_iload_n (pc := 12) C dX0_orderProperty_12 rfl ?_
    refine jx_tableIn (pc := 13) C (off := 52) (tgt := 65) dX0_orderProperty_13 (by decide) (by decide) rfl (by decide) ?_
    refine jx_aload_n (pc := 65) C dX0_orderProperty_65 rfl ?_
    refine jx_getIv (pc := 66) C kf_X0_122 rfl (S.od (G.lt o (by omega))) (H.od (k := 1) ho (by decide)) dX0_orderProperty_66 ?_
    exact jn_iret (pc := 69) C hr (jD_i rfl) dX0_orderProperty_69
  | 2, _ =>
    refine jx_aload_n (pc := 0) C dX0_orderProperty_0 rfl ?_
    refine jx_iload_n (pc := 1) C dX0_orderProperty_1 rfl ?_
    refine jx_callD (pc := 2) C (go_X0_81 C S.hall (Nat.le_of_ble_eq_true rfl) dX0_orderProperty_2) (t_X0_orderAt_s S T G H V ho) (by decide) (by decide) ⟨Nat.zero_le _, Nat.zero_le _⟩ ?_
    refine jx_astore_n (pc := 5) C dX0_orderProperty_5 (jset_3 jc_i) (by decide) ?_
    refine jx_aload_n (pc := 6) C dX0_orderProperty_6 rfl ?_
    refine jx_ifnonnull (pc := 7) C (tgt := 12) dX0_orderProperty_7 (by decide) ?_
    refine jx_iload_n (pc := 12) C dX0_orderProperty_12 rfl ?_
    refine jx_tableIn (pc := 13) C (off := 57) (tgt := 70) dX0_orderProperty_13 (by decide) (by decide) rfl (by decide) ?_
    refine jx_aload_n (pc := 70) C dX0_orderProperty_70 rfl ?_
    refine jx_getIv (pc := 71) C kf_X0_92 rfl (S.od (G.lt o (by omega))) (H.od (k := 2) ho (by decide)) dX0_orderProperty_71 ?_
    exact jn_iret (pc := 74) C hr (jD_i rfl) dX0_orderProperty_74
  | 3, _ =>
    refine jx_aload_n (pc := 0) C dX0_orderProperty_0 rfl ?_
    refine jx_iload_n (pc := 1) C dX0_orderProperty_1 rfl ?_
    refine jx_callD (pc := 2) C (go_X0_81 C S.hall (Nat.le_of_ble_eq_true rfl) dX0_orderProperty_2) (t_X0_orderAt_s S T G H V ho) (by decide) (by decide) ⟨Nat.zero_le _, Nat.zero_le _⟩ ?_
    refine jx_astore_n (pc := 5) C dX0_orderProperty_5 (jset_3 jc_i) (by decide) ?_
    refine jx_aload_n (pc := 6) C dX0_orderProperty_6 rfl ?_
    refine jx_ifnonnull (pc := 7) C (tgt := 12) dX0_orderProperty_7 (by decide) ?_
    refine jx_iload_n (pc := 12) C dX0_orderProperty_12 rfl ?_
    refine jx_tableIn (pc := 13) C (off := 62) (tgt := 75) dX0_orderProperty_13 (by decide) (by decide) rfl (by decide) ?_
    refine jx_aload_n (pc := 75) C dX0_orderProperty_75 rfl ?_
    refine jx_getIv (pc := 76) C kf_X0_188 rfl (S.od (G.lt o (by omega))) (H.od (k := 3) ho (by decide)) dX0_orderProperty_76 ?_
    exact jn_iret (pc := 79) C hr (jD_i rfl) dX0_orderProperty_79
  | 4, _ =>
    refine jx_aload_n (pc := 0) C dX0_orderProperty_0 rfl ?_
    refine jx_iload_n (pc := 1) C dX0_orderProperty_1 rfl ?_
    refine jx_callD (pc := 2) C (go_X0_81 C S.hall (Nat.le_of_ble_eq_true rfl) dX0_orderProperty_2) (t_X0_orderAt_s S T G H V ho) (by decide) (by decide) ⟨Nat.zero_le _, Nat.zero_le _⟩ ?_
    refine jx_astore_n (pc := 5) C dX0_orderProperty_5 (jset_3 jc_i) (by decide) ?_
    refine jx_aload_n (pc := 6) C dX0_orderProperty_6 rfl ?_
    refine jx_ifnonnull (pc := 7) C (tgt := 12) dX0_orderProperty_7 (by decide) ?_
    refine jx_iload_n (pc := 12) C dX0_orderProperty_12 rfl ?_
    refine jx_tableIn (pc := 13) C (off := 67) (tgt := 80) dX0_orderProperty_13 (by decide) (by decide) rfl (by decide) ?_
    refine jx_aload_n (pc := 80) C dX0_orderProperty_80 rfl ?_
    refine jx_getIv (pc := 81) C kf_X0_95 rfl (S.od (G.lt o (by omega))) (H.od (k := 4) ho (by decide)) dX0_orderProperty_81 ?_
    exact jn_iret (pc := 84) C hr (jD_i rfl) dX0_orderProperty_84
  | 5, _ =>
    refine jx_aload_n (pc := 0) C dX0_orderProperty_0 rfl ?_
    refine jx_iload_n (pc := 1) C dX0_orderProperty_1 rfl ?_
    refine jx_callD (pc := 2) C (go_X0_81 C S.hall (Nat.le_of_ble_eq_true rfl) dX0_orderProperty_2) (t_X0_orderAt_s S T G H V ho) (by decide) (by decide) ⟨Nat.zero_le _, Nat.zero_le _⟩ ?_
    refine jx_astore_n (pc := 5) C dX0_orderProperty_5 (jset_3 jc_i) (by decide) ?_
    refine jx_aload_n (pc := 6) C dX0_orderProperty_6 rfl ?_
    refine jx_ifnonnull (pc := 7) C (tgt := 12) dX0_orderProperty_7 (by decide) ?_
    refine jx_iload_n (pc := 12) C dX0_orderProperty_12 rfl ?_
    refine jx_tableIn (pc := 13) C (off := 72) (tgt := 85) dX0_orderProperty_13 (by decide) (by decide) rfl (by decide) ?_
    refine jx_aload_n (pc := 85) C dX0_orderProperty_85 rfl ?_
    refine jx_getIv (pc := 86) C kf_X0_89 rfl (S.od (G.lt o (by omega))) (H.od (k := 5) ho (by decide)) dX0_orderProperty_86 ?_
    exact jn_iret (pc := 89) C hr (jD_i rfl) dX0_orderProperty_89
  | 6, _ =>
    refine jx_aload_n (pc := 0) C dX0_orderProperty_0 rfl ?_
    refine jx_iload_n (pc := 1) C dX0_orderProperty_1 rfl ?_
    refine jx_callD (pc := 2) C (go_X0_81 C S.hall (Nat.le_of_ble_eq_true rfl) dX0_orderProperty_2) (t_X0_orderAt_s S T G H V ho) (by decide) (by decide) ⟨Nat.zero_le _, Nat.zero_le _⟩ ?_
    refine jx_astore_n (pc := 5) C dX0_orderProperty_5 (jset_3 jc_i) (by decide) ?_
    refine jx_aload_n (pc := 6) C dX0_orderProperty_6 rfl ?_
    refine jx_ifnonnull (pc := 7) C (tgt := 12) dX0_orderProperty_7 (by decide) ?_
    refine jx_iload_n (pc := 12) C dX0_orderProperty_12 rfl ?_
    refine jx_tableIn (pc := 13) C (off := 77) (tgt := 90) dX0_orderProperty_13 (by decide) (by decide) rfl (by decide) ?_
    refine jx_aload_n (pc := 90) C dX0_orderProperty_90 rfl ?_
    refine jx_getIv (pc := 91) C kf_X0_191 rfl (S.od (G.lt o (by omega))) (H.gd ho) dX0_orderProperty_91 ?_
    exact jn_iret (pc := 94) C hr (jD_i rfl) dX0_orderProperty_94
  | 7, _ =>
    refine jx_aload_n (pc := 0) C dX0_orderProperty_0 rfl ?_
    refine jx_iload_n (pc := 1) C dX0_orderProperty_1 rfl ?_
    refine jx_callD (pc := 2) C (go_X0_81 C S.hall (Nat.le_of_ble_eq_true rfl) dX0_orderProperty_2) (t_X0_orderAt_s S T G H V ho) (by decide) (by decide) ⟨Nat.zero_le _, Nat.zero_le _⟩ ?_
    refine jx_astore_n (pc := 5) C dX0_orderProperty_5 (jset_3 jc_i) (by decide) ?_
    refine jx_aload_n (pc := 6) C dX0_orderProperty_6 rfl ?_
    refine jx_ifnonnull (pc := 7) C (tgt := 12) dX0_orderProperty_7 (by decide) ?_
    refine jx_iload_n (pc := 12) C dX0_orderProperty_12 rfl ?_
    refine jx_tableIn (pc := 13) C (off := 82) (tgt := 95) dX0_orderProperty_13 (by decide) (by decide) rfl (by decide) ?_
    refine jx_aload_n (pc := 95) C dX0_orderProperty_95 rfl ?_
    refine jx_getIv (pc := 96) C kf_X0_188 rfl (S.od (G.lt o (by omega))) (H.od (k := 3) ho (by decide)) dX0_orderProperty_96 ?_
    refine jx_aload_n (pc := 99) C dX0_orderProperty_99 rfl ?_
    refine jx_getIv (pc := 100) C kf_X0_191 rfl (S.od (G.lt o (by omega))) (H.gd ho) dX0_orderProperty_100 ?_
    refine jx_isub (pc := 103) C dX0_orderProperty_103 ?_
    refine jx_aload_n (pc := 104) C dX0_orderProperty_104 rfl ?_
    refine jx_callD (pc := 105) C (go_X0_115 C (S.od (G.lt o (by omega))) (Nat.le_of_ble_eq_true rfl) dX0_orderProperty_105) (t_H_grams S T G H V ho) (by decide) (by decide) ⟨Nat.zero_le _, Nat.zero_le _⟩ ?_
    refine jx_imul (pc := 108) C dX0_orderProperty_108 ?_
    exact jn_iret (pc := 109) C hr (jD_i rfl) dX0_orderProperty_109
  | 8, _ =>
    refine jx_aload_n (pc := 0) C dX0_orderProperty_0 rfl ?_
    refine jx_iload_n (pc := 1) C dX0_orderProperty_1 rfl ?_
    refine jx_callD (pc := 2) C (go_X0_81 C S.hall (Nat.le_of_ble_eq_true rfl) dX0_orderProperty_2) (t_X0_orderAt_s S T G H V ho) (by decide) (by decide) ⟨Nat.zero_le _, Nat.zero_le _⟩ ?_
    refine jx_astore_n (pc := 5) C dX0_orderProperty_5 (jset_3 jc_i) (by decide) ?_
    refine jx_aload_n (pc := 6) C dX0_orderProperty_6 rfl ?_
    refine jx_ifnonnull (pc := 7) C (tgt := 12) dX0_orderProperty_7 (by decide) ?_
    refine jx_iload_n (pc := 12) C dX0_orderProperty_12 rfl ?_
    refine jx_tableOut (pc := 13) C (tgt := 110) dX0_orderProperty_13 (by decide) (by decide) ?_
    refine jx_aload_n (pc := 110) C dX0_orderProperty_110 rfl ?_
    refine jx_aload_n (pc := 111) C dX0_orderProperty_111 rfl ?_
    refine jx_getIv (pc := 112) C kf_X0_92 rfl (S.od (G.lt o (by omega))) (H.od (k := 2) ho (by decide)) dX0_orderProperty_112 ?_
    refine jx_callD (pc := 115) C (go_X0_185 C S.hall (Nat.le_of_ble_eq_true rfl) dX0_orderProperty_115) (t_X0_loomsAsWideAs S T G H V) (by decide) (by decide) ⟨Nat.zero_le _, Nat.zero_le _⟩ ?_
    exact jn_iret (pc := 118) C hr (jD_i (swd_o 6)) dX0_orderProperty_118
theorem t_X0_orderProperty_s {l : Launch} {D : va_G} {cA : Nat → ClassId} {N0 : Nat} {Sh : jS} {I : jI} {P : jP} {L : jL} {h : Nat} {og : Nat → Nat} {f : sF} (S : hS Sh h) (T : hP P h) (G : hG P h og) (H : hR I h og f) (V : sI f) {o k : Nat} (ho : o < smany f) (hk9 : k < 9) : jN l D cA N0 1 yX0_orderProperty cX0_orderProperty 4 (some .int) [.ref h, .int (nI o), .int (nI k)] Sh I P L (jD (some (.int (sofOrder f o k))) I P L) := jN_of (by decide) (Nat.le_of_ble_eq_true rfl) (fun _ _ _ _ _ _ _ _ C hr => b_X0_orderProperty_s C hr S T G H V ho hk9)
set_option maxHeartbeats 4000000 in
theorem b_X0_orderProperty_n {p : Program} {l : Launch} {e : Env} {s : State} {m : MethodId} {args : Array Value} {below : List Frame} {meth : Method} {c : Code} {D : va_G} {cA : Nat → ClassId} {N0 : Nat} {Sh : jS} {I : jI} {P : jP} {L : jL} (C : jC p (jRm 1 0 0) s m args meth c D cA N0 cX0_orderProperty 4 RX0 1) (hr : meth.sig.returnType = (some .int)) {h : Nat} {og : Nat → Nat} {f : sF} (S : hS Sh h) (T : hP P h) (G : hG P h og) (H : hR I h og f) (V : sI f) {v kv : Int32} (hv : ¬ (0 ≤ v ∧ v < nI (smany f))) : jJ p l e (jRm 1 0 0) s m args below meth c D cA N0 4 (MQ below (jQn D cA N0 Sh (jD (some (.int (-1))) I P L)) args s 0 0 (fun q => N0 ≤ q)) (fun _ => True) Sh I P L 0 0 0 [some (.ref h), some (.int v), some (.int kv), none] [] := by
  refine jx_aload_n (pc := 0) C dX0_orderProperty_0 rfl ?_
  refine jx_iload_n (pc := 1) C dX0_orderProperty_1 rfl ?_
  refine jx_callD (pc := 2) C (go_X0_81 C S.hall (Nat.le_of_ble_eq_true rfl) dX0_orderProperty_2) (t_X0_orderAt_n S T G H V hv) (by decide) (by decide) ⟨Nat.zero_le _, Nat.zero_le _⟩ ?_
  refine jx_astore_nN (pc := 5) C dX0_orderProperty_5 (jset_3 jc_i) (by decide) ?_
  refine jx_aload_nN (pc := 6) C dX0_orderProperty_6 rfl ?_
  refine jx_ifnonnullN (pc := 7) C dX0_orderProperty_7 ?_
  refine jx_iconst (pc := 10) C dX0_orderProperty_10 nc_m1 ?_
  exact jn_iret (pc := 11) C hr (jD_r) dX0_orderProperty_11
theorem t_X0_orderProperty_n {l : Launch} {D : va_G} {cA : Nat → ClassId} {N0 : Nat} {Sh : jS} {I : jI} {P : jP} {L : jL} {h : Nat} {og : Nat → Nat} {f : sF} (S : hS Sh h) (T : hP P h) (G : hG P h og) (H : hR I h og f) (V : sI f) {v kv : Int32} (hv : ¬ (0 ≤ v ∧ v < nI (smany f))) : jN l D cA N0 1 yX0_orderProperty cX0_orderProperty 4 (some .int) [.ref h, .int v, .int kv] Sh I P L (jD (some (.int (-1))) I P L) := jN_of (by decide) (Nat.le_of_ble_eq_true rfl) (fun _ _ _ _ _ _ _ _ C hr => b_X0_orderProperty_n C hr S T G H V hv)
