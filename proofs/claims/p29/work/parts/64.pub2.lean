/-! QUESTIONS of the class, 2 -/
theorem in_N1 {v : Int32} {n : Nat} (hn : n < 2 ^ 31) (h : nI 1 ≤ v ∧ v ≤ nI n) : ∃ w : Nat, (1 ≤ w ∧ w ≤ n) ∧ v = nI w := by
  obtain ⟨w, hw, rfl⟩ := in_N hn ⟨Int32.le_trans (by decide : nI 0 ≤ nI 1) h.1, h.2⟩
  exact ⟨w, ⟨(nI_leI (by decide) (by omega)).mp h.1, hw⟩, rfl⟩
set_option maxHeartbeats 4000000 in
theorem b_X5_next {p : Program} {l : Launch} {e : Env} {s : State} {m : MethodId} {args : Array Value} {below : List Frame} {meth : Method} {c : Code} {D : va_G} {cA : Nat → ClassId} {N0 : Nat} {Sh : jS} {I : jI} {P : jP} {L : jL} (C : jC p (jRm 7 1 6) s m args meth c D cA N0 cX5_next 4 RX5 7) (hnc : jNc s) (hst : l.stackTraces = false) (htb : ∀ x ∈ c.exceptionTable.toList, False) (hr : meth.sig.returnType = (some .int)) {y : Nat} (S : cS Sh y) {f : sF} {q : Nat} {pst : Nat → sF} {t : Nat} {ch : Nat → Nat} (R : cR I P y f q pst t ch) {wv kv : Int32} : jJ p l e (jRm 7 1 6) s m args below meth c D cA N0 4 (vx_MQ below (jQn D cA N0 Sh (cQ I P L y (snext f wv kv) f q pst t ch)) (jXC D cA N0 Sh (cX I P L y en3 (snext f wv kv).1 f q pst t ch)) args s 1 6 (fun q => N0 ≤ q)) (fun _ => True) Sh I P L 0 0 0 [some (.ref y), some (.int wv), some (.int kv), none] [] := by
  obtain ⟨og, H, G⟩ := R.M
  refine jx_iload_n (pc := 0) C dX5_next_0 rfl ?_
  refine jx_iconst (pc := 1) C dX5_next_1 nc_0 ?_
  refine jx_iconst (pc := 2) C dX5_next_2 nc_5 ?_
  refine jx_callD (pc := 3) C (go_X5_37 C  (Nat.le_of_ble_eq_true rfl) dX5_next_3) t_X5_isWithin (by decide) (by decide) ⟨Nat.zero_le _, Nat.zero_le _⟩ ?_
  refine jx_if_ne (pc := 6) C (tgt := 19) dX5_next_6 (by decide) (fun c6 => ?_) (fun c6 => ?_)
  · rw [bI_0, decide_eq_false_iff_not, Decidable.not_not] at c6
    refine jx_iload_n (pc := 19) C dX5_next_19 rfl ?_
    refine jx_iconst (pc := 20) C dX5_next_20 nc_0 ?_
    refine jx_iconst (pc := 21) C dX5_next_21 nc_1 ?_
    refine jx_callD (pc := 22) C (go_X5_37 C  (Nat.le_of_ble_eq_true rfl) dX5_next_22) t_X5_isWithin (by decide) (by decide) ⟨Nat.zero_le _, Nat.zero_le _⟩ ?_
    refine jx_if_ne (pc := 25) C (tgt := 38) dX5_next_25 (by decide) (fun c25 => ?_) (fun c25 => ?_)
    · rw [bI_0, decide_eq_false_iff_not, Decidable.not_not] at c25
      obtain ⟨w, hw5, rfl⟩ := in_N (by decide) c6
      obtain ⟨k, hk1, rfl⟩ := in_N (by decide) c25
      have hw : w < 6 := by omega
      refine jx_aload_n (pc := 38) C dX5_next_38 rfl ?_
      refine jx_getP (pc := 39) C kf_X5_10 rfl S.obj R.T.hall dX5_next_39 ?_
      refine jx_getP (pc := 42) C kf_X5_59 rfl S.h.hall R.T.h.wa dX5_next_42 ?_
      refine jx_iload_n (pc := 45) C dX5_next_45 rfl ?_
      refine jx_aald12 (pc := 46) C S.h.wa (by omega) (by decide) (R.T.h.wv hw) dX5_next_46 ?_
      refine jx_astore_n (pc := 47) C dX5_next_47 (jset_3 jc_i) (by decide) ?_
      refine jx_iload_n (pc := 48) C dX5_next_48 rfl ?_
      refine jx_if_ne (pc := 49) C (tgt := 63) dX5_next_49 (by decide) (fun c49 => ?_) (fun c49 => ?_)
      · rw [nI_eq0 (by omega)] at c49
        refine jx_aload_n (pc := 63) C dX5_next_63 rfl ?_
        refine jx_getP (pc := 64) C kf_X5_10 rfl S.obj R.T.hall dX5_next_64 ?_
        refine jx_aload_n (pc := 67) C dX5_next_67 rfl ?_
        refine jx_callD (pc := 68) C (go_X5_213 C S.h.hall (Nat.le_of_ble_eq_true rfl) dX5_next_68) (t_X0_hindrance S.h R.T.h G H R.V hw) (by decide) (by decide) ⟨Nat.zero_le _, Nat.zero_le _⟩ ?_
        exact jx_end (jx_roomy (Nat.zero_le 1) (Nat.zero_le 6) (jn_iret (pc := 71) C hr (by refine cQ_id ?_ R; unfold snext snextK; rw [if_pos c6, if_pos c25, sW_N (by omega), sW_N (by omega)]; first | rw [if_pos c49] | rw [if_neg c49]) dX5_next_71))
      · rw [nI_eq0 (by omega)] at c49
        refine jx_aload_n (pc := 52) C dX5_next_52 rfl ?_
        refine jx_getP (pc := 53) C kf_X5_10 rfl S.obj R.T.hall dX5_next_53 ?_
        refine jx_aload_n (pc := 56) C dX5_next_56 rfl ?_
        refine jx_callD (pc := 57) C (go_X5_209 C S.h.hall (Nat.le_of_ble_eq_true rfl) dX5_next_57) (t_X0_chosenNumber S.h R.T.h G H R.V hw) (by decide) (by decide) ⟨Nat.zero_le _, Nat.zero_le _⟩ ?_
        refine jx_goto (pc := 60) C (tgt := 71) dX5_next_60 (by decide) ?_
        exact jx_end (jx_roomy (Nat.zero_le 1) (Nat.zero_le 6) (jn_iret (pc := 71) C hr (by refine cQ_id ?_ R; unfold snext snextK; rw [if_pos c6, if_pos c25, sW_N (by omega), sW_N (by omega)]; first | rw [if_pos c49] | rw [if_neg c49]) dX5_next_71))
    · rw [bI_0, decide_eq_false_iff_not] at c25
      exact jx_thA (pc := 28) C hnc hst (by decide) htb (List.mem_of_getElem? (i := 19) rfl) (cX_of (k := 2) (by unfold snext; rw [if_pos c6, if_neg c25]) (by decide) rfl R) dX5_next_28 dX5_next_31 dX5_next_32 dX5_next_34 dX5_next_37
  · rw [bI_0, decide_eq_false_iff_not] at c6
    exact jx_thI (pc := 9) C hnc hst (by decide) htb (List.mem_of_getElem? (i := 0) rfl) (cX_of (k := 1) (by unfold snext; rw [if_neg c6]) (by decide) rfl R) dX5_next_9 dX5_next_12 dX5_next_13 dX5_next_15 dX5_next_18
theorem t_X5_next {l : Launch} (hst : l.stackTraces = false) {D : va_G} {cA : Nat → ClassId} {N0 : Nat} {Sh : jS} {I : jI} {P : jP} {L : jL} {y : Nat} (S : cS Sh y) {f : sF} {q : Nat} {pst : Nat → sF} {t : Nat} {ch : Nat → Nat} (R : cR I P y f q pst t ch) {wv kv : Int32} : jXM l D cA N0 7 yX5_next cX5_next 4 (some .int) [.ref y, .int wv, .int kv] Sh I P L (cQ I P L y (snext f wv kv) f q pst t ch) (cX I P L y en3 (snext f wv kv).1 f q pst t ch) := jXM_of (by decide) (Nat.le_of_ble_eq_true rfl) (fun _ _ _ _ _ _ _ _ C hnc hr htb => b_X5_next C hnc hst htb hr S R)
set_option maxHeartbeats 4000000 in
theorem b_X5_wovenBy {p : Program} {l : Launch} {e : Env} {s : State} {m : MethodId} {args : Array Value} {below : List Frame} {meth : Method} {c : Code} {D : va_G} {cA : Nat → ClassId} {N0 : Nat} {Sh : jS} {I : jI} {P : jP} {L : jL} (C : jC p (jRm 7 1 6) s m args meth c D cA N0 cX5_wovenBy 4 RX5 7) (hnc : jNc s) (hst : l.stackTraces = false) (htb : ∀ x ∈ c.exceptionTable.toList, False) (hr : meth.sig.returnType = (some .int)) {y : Nat} (S : cS Sh y) {f : sF} {q : Nat} {pst : Nat → sF} {t : Nat} {ch : Nat → Nat} (R : cR I P y f q pst t ch) {pv wv : Int32} : jJ p l e (jRm 7 1 6) s m args below meth c D cA N0 4 (vx_MQ below (jQn D cA N0 Sh (cQ I P L y (swovenBy f pv wv) f q pst t ch)) (jXC D cA N0 Sh (cX I P L y enW (swovenBy f pv wv).1 f q pst t ch)) args s 1 6 (fun q => N0 ≤ q)) (fun _ => True) Sh I P L 0 0 0 [some (.ref y), some (.int pv), some (.int wv), none] [] := by
  obtain ⟨og, H, G⟩ := R.M
  refine jx_iload_n (pc := 0) C dX5_wovenBy_0 rfl ?_
  refine jx_if_ge (pc := 1) C (tgt := 14) dX5_wovenBy_1 (by decide) (fun c1 => ?_) (fun c1 => ?_)
  · refine jx_iload_n (pc := 14) C dX5_wovenBy_14 rfl ?_
    refine jx_iconst (pc := 15) C dX5_wovenBy_15 nc_0 ?_
    refine jx_iconst (pc := 16) C dX5_wovenBy_16 nc_5 ?_
    refine jx_callD (pc := 17) C (go_X5_37 C  (Nat.le_of_ble_eq_true rfl) dX5_wovenBy_17) t_X5_isWithin (by decide) (by decide) ⟨Nat.zero_le _, Nat.zero_le _⟩ ?_
    refine jx_if_ne (pc := 20) C (tgt := 33) dX5_wovenBy_20 (by decide) (fun c20 => ?_) (fun c20 => ?_)
    · rw [bI_0, decide_eq_false_iff_not, Decidable.not_not] at c20
      by_cases c5 : f 5 ≤ pv
      · refine jx_aload_n (pc := 33) C dX5_wovenBy_33 rfl ?_
        refine jx_getP (pc := 34) C kf_X5_10 rfl S.obj R.T.hall dX5_wovenBy_34 ?_
        refine jx_iload_n (pc := 37) C dX5_wovenBy_37 rfl ?_
        refine jx_callD (pc := 38) C (go_X5_201 C S.h.hall (Nat.le_of_ble_eq_true rfl) dX5_wovenBy_38) (t_X0_orderAt_n S.h R.T.h G H R.V (fun z => by have := R.V.1.1; rw [this] at c5; exact absurd z.2 (i32_nlt.mpr c5))) (by decide) (by decide) ⟨Nat.zero_le _, Nat.zero_le _⟩ ?_
        refine jx_astore_nN (pc := 41) C dX5_wovenBy_41 (jset_3 jc_i) (by decide) ?_
        refine jx_aload_nN (pc := 42) C dX5_wovenBy_42 rfl ?_
        refine jx_ifnonnullN (pc := 43) C dX5_wovenBy_43 ?_
        refine jx_iconst (pc := 46) C dX5_wovenBy_46 nc_m1 ?_
        refine jx_goto (pc := 47) C (tgt := 56) dX5_wovenBy_47 (by decide) ?_
        exact jx_end (jx_roomy (Nat.zero_le 1) (Nat.zero_le 6) (jn_iret (pc := 56) C hr (cQ_id (by unfold swovenBy; rw [if_pos c1, if_pos c20, if_pos c5]) R) dX5_wovenBy_56))
      · have cp : 0 ≤ pv ∧ pv < nI (smany f) := ⟨c1, by have := R.V.1.1; rw [this] at c5; exact i32_nle.mp c5⟩
        obtain ⟨o, ho, rfl⟩ := in_No (by have := R.V.m; omega) cp
        obtain ⟨w, hw5, rfl⟩ := in_N (by decide) c20
        have ho10 : o < 10 := by have := R.V.m; omega
        refine jx_aload_n (pc := 33) C dX5_wovenBy_33 rfl ?_
        refine jx_getP (pc := 34) C kf_X5_10 rfl S.obj R.T.hall dX5_wovenBy_34 ?_
        refine jx_iload_n (pc := 37) C dX5_wovenBy_37 rfl ?_
        refine jx_callD (pc := 38) C (go_X5_201 C S.h.hall (Nat.le_of_ble_eq_true rfl) dX5_wovenBy_38) (t_X0_orderAt_s S.h R.T.h G H R.V ho) (by decide) (by decide) ⟨Nat.zero_le _, Nat.zero_le _⟩ ?_
        refine jx_astore_n (pc := 41) C dX5_wovenBy_41 (jset_3 jc_i) (by decide) ?_
        refine jx_aload_n (pc := 42) C dX5_wovenBy_42 rfl ?_
        refine jx_ifnonnull (pc := 43) C (tgt := 50) dX5_wovenBy_43 (by decide) ?_
        refine jx_aload_n (pc := 50) C dX5_wovenBy_50 rfl ?_
        refine jx_getP (pc := 51) C kf_X5_204 rfl (S.h.od (G.lt o ho10)) (R.T.h.ob (G.lt o ho10)) dX5_wovenBy_51 ?_
        refine jx_iload_n (pc := 54) C dX5_wovenBy_54 rfl ?_
        refine jx_iald (pc := 55) C (S.h.ob (G.lt o ho10)) (by omega) (by decide) dX5_wovenBy_55 ?_
        exact jx_end (jx_roomy (Nat.zero_le 1) (Nat.zero_le 6) (jn_iret (pc := 56) C hr (cQ_id (by unfold swovenBy; rw [if_pos c1, if_pos c20, if_neg c5, sW_N (by omega), sW_N (by omega), ← H.by ho (by omega)]) R) dX5_wovenBy_56))
    · rw [bI_0, decide_eq_false_iff_not] at c20
      exact jx_thI (pc := 23) C hnc hst (by decide) htb (List.mem_of_getElem? (i := 0) rfl) (cX_of (k := 2) (by unfold swovenBy; rw [if_pos c1, if_neg c20]) (by decide) rfl R) dX5_wovenBy_23 dX5_wovenBy_26 dX5_wovenBy_27 dX5_wovenBy_29 dX5_wovenBy_32
  · exact jx_thA (pc := 4) C hnc hst (by decide) htb (List.mem_of_getElem? (i := 18) rfl) (cX_of (k := 1) (by unfold swovenBy; rw [if_neg c1]) (by decide) rfl R) dX5_wovenBy_4 dX5_wovenBy_7 dX5_wovenBy_8 dX5_wovenBy_10 dX5_wovenBy_13
theorem t_X5_wovenBy {l : Launch} (hst : l.stackTraces = false) {D : va_G} {cA : Nat → ClassId} {N0 : Nat} {Sh : jS} {I : jI} {P : jP} {L : jL} {y : Nat} (S : cS Sh y) {f : sF} {q : Nat} {pst : Nat → sF} {t : Nat} {ch : Nat → Nat} (R : cR I P y f q pst t ch) {pv wv : Int32} : jXM l D cA N0 7 yX5_wovenBy cX5_wovenBy 4 (some .int) [.ref y, .int pv, .int wv] Sh I P L (cQ I P L y (swovenBy f pv wv) f q pst t ch) (cX I P L y enW (swovenBy f pv wv).1 f q pst t ch) := jXM_of (by decide) (Nat.le_of_ble_eq_true rfl) (fun _ _ _ _ _ _ _ _ C hnc hr htb => b_X5_wovenBy C hnc hst htb hr S R)
set_option maxHeartbeats 4000000 in
theorem b_X5_dueNow {p : Program} {l : Launch} {e : Env} {s : State} {m : MethodId} {args : Array Value} {below : List Frame} {meth : Method} {c : Code} {D : va_G} {cA : Nat → ClassId} {N0 : Nat} {Sh : jS} {I : jI} {P : jP} {L : jL} (C : jC p (jRm 7 1 6) s m args meth c D cA N0 cX5_dueNow 4 RX5 7) (hnc : jNc s) (hst : l.stackTraces = false) (htb : ∀ x ∈ c.exceptionTable.toList, False) (hr : meth.sig.returnType = (some .int)) {y : Nat} (S : cS Sh y) {f : sF} {q : Nat} {pst : Nat → sF} {t : Nat} {ch : Nat → Nat} (R : cR I P y f q pst t ch) {num wv : Int32} : jJ p l e (jRm 7 1 6) s m args below meth c D cA N0 4 (vx_MQ below (jQn D cA N0 Sh (cQ I P L y (sdueNow f num wv) f q pst t ch)) (jXC D cA N0 Sh (cX I P L y en3 (sdueNow f num wv).1 f q pst t ch)) args s 1 6 (fun q => N0 ≤ q)) (fun _ => True) Sh I P L 0 0 0 [some (.ref y), some (.int num), some (.int wv), none] [] := by
  obtain ⟨og, H, G⟩ := R.M
  cases hq0 : splace f num with
  | none =>
    refine jx_aload_n (pc := 0) C dX5_dueNow_0 rfl ?_
    refine jx_getP (pc := 1) C kf_X5_10 rfl S.obj R.T.hall dX5_dueNow_1 ?_
    refine jx_iload_n (pc := 4) C dX5_dueNow_4 rfl ?_
    refine jx_callD (pc := 5) C (go_X5_119 C S.h.hall (Nat.le_of_ble_eq_true rfl) dX5_dueNow_5) (t_X0_find_n S.h R.T.h G H R.V hq0) (by decide) (by decide) ⟨Nat.zero_le _, Nat.zero_le _⟩ ?_
    refine jx_astore_nN (pc := 8) C dX5_dueNow_8 (jset_3 jc_i) (by decide) ?_
    refine jx_aload_nN (pc := 9) C dX5_dueNow_9 rfl ?_
    refine jx_ifnullN (pc := 10) C (tgt := 22) dX5_dueNow_10 (by decide) ?_
    exact jx_thI (pc := 22) C hnc hst (by decide) htb (List.mem_of_getElem? (i := 21) rfl) (cX_of (k := 1) (by unfold sdueNow; rw [hq0]) (by decide) rfl R) dX5_dueNow_22 dX5_dueNow_25 dX5_dueNow_26 dX5_dueNow_28 dX5_dueNow_31
  | some o =>
    have ho := (sfst_lt hq0).1
    refine jx_aload_n (pc := 0) C dX5_dueNow_0 rfl ?_
    refine jx_getP (pc := 1) C kf_X5_10 rfl S.obj R.T.hall dX5_dueNow_1 ?_
    refine jx_iload_n (pc := 4) C dX5_dueNow_4 rfl ?_
    refine jx_callD (pc := 5) C (go_X5_119 C S.h.hall (Nat.le_of_ble_eq_true rfl) dX5_dueNow_5) (t_X0_find_s S.h R.T.h G H R.V hq0) (by decide) (by decide) ⟨Nat.zero_le _, Nat.zero_le _⟩ ?_
    refine jx_astore_n (pc := 8) C dX5_dueNow_8 (jset_3 jc_i) (by decide) ?_
    refine jx_aload_n (pc := 9) C dX5_dueNow_9 rfl ?_
    refine jx_ifnull (pc := 10) C dX5_dueNow_10 ?_
    refine jx_iload_n (pc := 13) C dX5_dueNow_13 rfl ?_
    refine jx_iconst (pc := 14) C dX5_dueNow_14 nc_0 ?_
    refine jx_iconst (pc := 15) C dX5_dueNow_15 nc_5 ?_
    refine jx_callD (pc := 16) C (go_X5_37 C  (Nat.le_of_ble_eq_true rfl) dX5_dueNow_16) t_X5_isWithin (by decide) (by decide) ⟨Nat.zero_le _, Nat.zero_le _⟩ ?_
    refine jx_if_ne (pc := 19) C (tgt := 32) dX5_dueNow_19 (by decide) (fun c19 => ?_) (fun c19 => ?_)
    · rw [bI_0, decide_eq_false_iff_not, Decidable.not_not] at c19
      obtain ⟨w, hw5, rfl⟩ := in_N (by decide) c19
      have hw : w < 6 := by omega
      refine jx_aload_n (pc := 32) C dX5_dueNow_32 rfl ?_
      refine jx_getP (pc := 33) C kf_X5_10 rfl S.obj R.T.hall dX5_dueNow_33 ?_
      refine jx_aload_n (pc := 36) C dX5_dueNow_36 rfl ?_
      refine jx_iload_n (pc := 37) C dX5_dueNow_37 rfl ?_
      refine jx_calli (pc := 38) C (go_X5_237 C S.h.hall (Nat.le_of_ble_eq_true rfl) dX5_dueNow_38) (t_X0_dueOf S.h R.T.h G H R.V hw ho) (by decide) (by decide) ⟨Nat.zero_le _, Nat.zero_le _⟩ (fun r38 I38 P38 L38 q38 => ?_)
      obtain ⟨rfl, F, rfl, rfl⟩ := q38
      have R2 := R.dues F
      exact jx_end (jx_roomy (Nat.zero_le 1) (Nat.zero_le 6) (jn_iret (pc := 41) C hr (cQ_ok (by unfold sdueNow; rw [hq0]; show (if _ then _ else _) = _; rw [if_pos c19, sW_N (by omega)]) R2 ⟨fun b hb => F b (by omega), fun _ _ => rfl, rfl⟩) dX5_dueNow_41))
    · rw [bI_0, decide_eq_false_iff_not] at c19
      exact jx_thI (pc := 22) C hnc hst (by decide) htb (List.mem_of_getElem? (i := 21) rfl) (by refine cX_of (k := 1) ?_ (by decide) rfl R; unfold sdueNow; rw [hq0]; exact congrArg Prod.fst (if_neg c19)) dX5_dueNow_22 dX5_dueNow_25 dX5_dueNow_26 dX5_dueNow_28 dX5_dueNow_31
theorem t_X5_dueNow {l : Launch} (hst : l.stackTraces = false) {D : va_G} {cA : Nat → ClassId} {N0 : Nat} {Sh : jS} {I : jI} {P : jP} {L : jL} {y : Nat} (S : cS Sh y) {f : sF} {q : Nat} {pst : Nat → sF} {t : Nat} {ch : Nat → Nat} (R : cR I P y f q pst t ch) {num wv : Int32} : jXM l D cA N0 7 yX5_dueNow cX5_dueNow 4 (some .int) [.ref y, .int num, .int wv] Sh I P L (cQ I P L y (sdueNow f num wv) f q pst t ch) (cX I P L y en3 (sdueNow f num wv).1 f q pst t ch) := jXM_of (by decide) (Nat.le_of_ble_eq_true rfl) (fun _ _ _ _ _ _ _ _ C hnc hr htb => b_X5_dueNow C hnc hst htb hr S R)
