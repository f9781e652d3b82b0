/-! CHANGES of the class's state, 2 -/
theorem cR.od {I : jI} {P : jP} {y : Nat} {f : sF} {q : Nat} {pst : Nat → sF} {t : Nat} {ch : Nat → Nat} (R : cR I P y f q pst t ch) : I (y + 1) 5 = f 5 ∧ I (y + 1) 7 = f 4 ∧ I (y + 1) 8 = f 7 ∧ I (y + 1) 6 = f 6 := by
  obtain ⟨og, H, G⟩ := R.M
  exact ⟨H.n5, H.n7, H.n8, H.n6⟩
theorem smax_tab {k : Nat} (hk : k < 4) : jtMV k = smax (nI k) := by
  match k, hk with
  | 0, _ => decide
  | 1, _ => decide
  | 2, _ => decide
  | 3, _ => decide
theorem sI_set {f : sF} {k : Nat} {v : Int32} (h : sI f) (hk : k < 4) (hv : nI 0 ≤ v ∧ v ≤ smax (nI k)) : sI (upd f k v) := by
  have n1 : ∀ j, 4 ≤ j → upd f k v j = f j := fun j hj => upd_n (by omega)
  obtain ⟨a1, a2, a3, a4, a5⟩ := h.2.1
  refine sI_gen h (n1 5 (by decide)) (fun q i hq hi => n1 _ (by omega)) (sI_sp h (fun w hw => n1 _ (by omega))) ⟨?_, ?_, fun w hw => by rw [n1 _ (by omega)]; exact a3 w hw, by rw [n1 10 (by decide), a4]; exact (ssum_c (fun w hw => n1 _ (by omega))).symm, by rw [n1 11 (by decide), a5]; exact (ssum_c (fun w hw => n1 _ (by omega))).symm⟩
  · by_cases e : k = 0
    · subst e
      rw [upd_s]
      have h2 : v ≤ nI 2 := hv.2
      obtain ⟨w, hw, rfl⟩ := in_N (n := 2) (by decide) ⟨hv.1, h2⟩
      rcases (by omega : w = 0 ∨ w = 1 ∨ w = 2) with rfl | rfl | rfl
      · exact Or.inl rfl
      · exact Or.inr (Or.inl rfl)
      · exact Or.inr (Or.inr rfl)
    · rw [upd_n (by omega)]; exact a1
  · by_cases e : k = 3
    · subst e
      rw [upd_s]; exact hv.1
    · rw [upd_n (by omega)]; exact a2
theorem set_fin {I I1 : jI} {P P1 : jP} {L L1 : jL} {y : Nat} {f : sF} {q : Nat} {pst : Nat → sF} {t : Nat} {ch : Nat → Nat} (R1 : cR I1 P1 y f q pst t ch) (O1 : cOut I P L y I1 P1 L1) {k : Nat} (hk : k < 4) {v : Int32} (c6 : nI 0 ≤ nI k ∧ nI k ≤ nI 3) (c2 : nI 0 ≤ v ∧ v ≤ smax (nI k)) :
    cQ I P L y ((sset f (nI k) v).1, (sset f (nI k) v).2.1) (sset f (nI k) v).2.2 q pst t ch (some (.int (I1 (y + 1 + 5) k))) (jst I1 (y + 1 + 5) k v) P1 L1 := by
  obtain ⟨og, H, G⟩ := R1.M
  rw [H.se hk]
  have F : hF I1 (y + 1) (jst I1 (y + 1 + 5) k v) := hF.rf.st (by omega)
  exact cQ_do (by unfold sset; rw [if_pos c6, if_pos c2, sW_N (by omega)]) (R1.hall F hFP.rf ⟨og, H.pe R1.V.m G.lt hk, G⟩ (sI_set R1.V hk c2)) (O1.tr (cOut.hall F hFP.rf))
theorem order_fin {I I1 I2 : jI} {P P1 P2 : jP} {L L1 : jL} {y : Nat} {f : sF} {q : Nat} {pst : Nat → sF} {t : Nat} {ch : Nat → Nat} (R1 : cR I1 P1 y f q pst t ch) (O1 : cOut I P L y I1 P1 L1) {cv wd len pr due : Int32} (hn : smany f < 10) (c6 : nI 0 ≤ cv ∧ cv ≤ nI 3) (c2 : (nI 40 ≤ wd ∧ wd ≤ nI 200) ∧ (nI 1 ≤ len ∧ len ≤ nI 200) ∧ (nI 1 ≤ pr ∧ pr ≤ nI 99) ∧ (nI 0 ≤ due ∧ due ≤ nI 9999))
    (M : ∃ og', hR I2 (y + 1) og' (scomes f cv wd len pr due) ∧ hG P2 (y + 1) og') (F : hF I1 (y + 1) I2) (G : hFP P1 (y + 1) P2) : cQ I P L y ((sorder f cv wd len pr due).1, (sorder f cv wd len pr due).2.1) (sorder f cv wd len pr due).2.2 q pst t ch (some (.int (f 6))) I2 P2 L1 := by
  obtain ⟨c0, hc0, rfl⟩ := in_N (by decide) c6
  obtain ⟨w0, hw0, rfl⟩ := in_N (n := 200) (by decide) ⟨Int32.le_trans (by decide : nI 0 ≤ nI 40) c2.1.1, c2.1.2⟩
  obtain ⟨l0, hl0, rfl⟩ := in_N1 (by decide) c2.2.1
  obtain ⟨p0, hp0, rfl⟩ := in_N1 (by decide) c2.2.2.1
  have hw1 : 40 ≤ w0 := (nI_leI (by decide) (by omega)).mp c2.1.1
  have h5 : ¬ f 5 = nI 10 := by
    rw [R1.V.1.1, nI_eq (by omega) (by decide)]
    omega
  exact cQ_do (by unfold sorder; rw [if_pos c6, if_pos c2, if_pos h5]) (R1.hall F G M (scomes_I R1.V hn (by omega) ⟨hw1, hw0⟩ hl0 hp0.2)) (O1.tr (cOut.hall F G))
set_option maxHeartbeats 4000000 in
theorem b_X5_set {p : Program} {l : Launch} {e : Env} {s : State} {m : MethodId} {args : Array Value} {below : List Frame} {meth : Method} {c : Code} {D : va_G} {cA : Nat → ClassId} {N0 : Nat} {Sh : jS} {I : jI} {P : jP} {L : jL} (C : jC p (jRm 7 1 6) s m args meth c D cA N0 cX5_set 4 RX5 7) (hnc : jNc s) (hst : l.stackTraces = false) (htb : ∀ x ∈ c.exceptionTable.toList, False) (hr : meth.sig.returnType = (some .int)) {y : Nat} (S : cS Sh y) {f : sF} {q : Nat} {pst : Nat → sF} {t : Nat} {ch : Nat → Nat} (R : cR I P y f q pst t ch) {sv v : Int32} : jJ p l e (jRm 7 1 6) s m args below meth c D cA N0 4 (vx_MQ below (jQn D cA N0 Sh (cQ I P L y ((sset f sv v).1, (sset f sv v).2.1) (sset f sv v).2.2 (min q 5 + 1) (spush f q pst) t ch)) (jXC D cA N0 Sh (cX I P L y en3 (sset f sv v).1 f q pst t ch)) args s 1 6 (fun q => N0 ≤ q)) (fun _ => True) Sh I P L 0 0 0 [some (.ref y), some (.int sv), some (.int v), none] [] := by
  obtain ⟨og, H, G⟩ := R.M
  obtain ⟨tm, hT⟩ := C.2.2.2.2.2.2.1.2.2.2.1
  refine jx_iload_n (pc := 0) C dX5_set_0 rfl ?_
  refine jx_iconst (pc := 1) C dX5_set_1 nc_0 ?_
  refine jx_iconst (pc := 2) C dX5_set_2 nc_3 ?_
  refine jx_callD (pc := 3) C (go_X5_37 C  (Nat.le_of_ble_eq_true rfl) dX5_set_3) t_X5_isWithin (by decide) (by decide) ⟨Nat.zero_le _, Nat.zero_le _⟩ ?_
  refine jx_if_ne (pc := 6) C (tgt := 19) dX5_set_6 (by decide) (fun c6 => ?_) (fun c6 => ?_)
  · rw [bI_0, decide_eq_false_iff_not, Decidable.not_not] at c6
    obtain ⟨k, hk3, rfl⟩ := in_N (by decide) c6
    refine jx_iload_n (pc := 19) C dX5_set_19 rfl ?_
    refine jx_iconst (pc := 20) C dX5_set_20 nc_0 ?_
    refine jx_gets (pc := 21) C hT kg_X5_136 dX5_set_21 ?_
    refine jx_iload_n (pc := 24) C dX5_set_24 rfl ?_
    refine jx_tld (pc := 25) C hT (by omega) (by decide) dX5_set_25 ?_
    refine jx_callD (pc := 26) C (go_X5_37 C  (Nat.le_of_ble_eq_true rfl) dX5_set_26) t_X5_isWithin (by decide) (by decide) ⟨Nat.zero_le _, Nat.zero_le _⟩ ?_
    refine jx_if_ne (pc := 29) C (tgt := 42) dX5_set_29 (by decide) (fun c29 => ?_) (fun c29 => ?_)
    · rw [bI_0, decide_eq_false_iff_not, Decidable.not_not] at c29
      rw [smax_tab (by omega)] at c29
      refine jx_aload_n (pc := 42) C dX5_set_42 rfl ?_
      refine jx_callv (pc := 43) C (go_X5_56 C S.obj (Nat.le_of_ble_eq_true rfl) dX5_set_43) (t_X5_saveState S R.T R.M R.V R.W (fun i hi => (R.K i hi).m) R.hq R.q6) (by decide) (by decide) ⟨Nat.zero_le _, Nat.zero_le _⟩ (fun I43 P43 L43 q43 => ?_)
      obtain ⟨W1, e1, F1, G1, rfl⟩ := q43
      have R1 := R.save W1 e1 F1 G1
      have O1 := cOut.save (L := L43) F1 G1
      have H1 := H.ag R.V.m G.lt (fun b b1 b2 => F1 b (by omega) (by omega))
      have Gs := G.ag (G1 (y + 1 + 2) (by omega))
      refine jx_aload_n (pc := 46) C dX5_set_46 rfl ?_
      refine jx_getP (pc := 47) C kf_X5_10 rfl S.obj R1.T.hall dX5_set_47 ?_
      refine jx_getP (pc := 50) C kf_X5_141 rfl S.h.hall R1.T.h.se dX5_set_50 ?_
      refine jx_iload_n (pc := 53) C dX5_set_53 rfl ?_
      refine jx_iald (pc := 54) C S.h.se (by omega) (by decide) dX5_set_54 ?_
      refine jx_istore_n (pc := 55) C dX5_set_55 (jset_3 jc_i) (by decide) ?_
      refine jx_aload_n (pc := 56) C dX5_set_56 rfl ?_
      refine jx_getP (pc := 57) C kf_X5_10 rfl S.obj R1.T.hall dX5_set_57 ?_
      refine jx_getP (pc := 60) C kf_X5_141 rfl S.h.hall R1.T.h.se dX5_set_60 ?_
      refine jx_iload_n (pc := 63) C dX5_set_63 rfl ?_
      refine jx_iload_n (pc := 64) C dX5_set_64 rfl ?_
      refine jx_iast (pc := 65) C S.h.se (by omega) (by decide) dX5_set_65 ?_
      refine jx_iload_n (pc := 66) C dX5_set_66 rfl ?_
      exact jx_end (jx_roomy (Nat.zero_le 1) (Nat.zero_le 6) (jn_iret (pc := 67) C hr (set_fin R1 O1 (by omega) c6 c29) dX5_set_67))
    · rw [bI_0, decide_eq_false_iff_not] at c29
      rw [smax_tab (by omega)] at c29
      exact jx_thA (pc := 32) C hnc hst (by decide) htb (List.mem_of_getElem? (i := 12) rfl) (cX_of (k := 2) (by unfold sset; rw [if_pos c6, if_neg c29]) (by decide) rfl R) dX5_set_32 dX5_set_35 dX5_set_36 dX5_set_38 dX5_set_41
  · rw [bI_0, decide_eq_false_iff_not] at c6
    exact jx_thI (pc := 9) C hnc hst (by decide) htb (List.mem_of_getElem? (i := 11) rfl) (cX_of (k := 1) (by unfold sset; rw [if_neg c6]) (by decide) rfl R) dX5_set_9 dX5_set_12 dX5_set_13 dX5_set_15 dX5_set_18
theorem t_X5_set {l : Launch} (hst : l.stackTraces = false) {D : va_G} {cA : Nat → ClassId} {N0 : Nat} {Sh : jS} {I : jI} {P : jP} {L : jL} {y : Nat} (S : cS Sh y) {f : sF} {q : Nat} {pst : Nat → sF} {t : Nat} {ch : Nat → Nat} (R : cR I P y f q pst t ch) {sv v : Int32} : jXM l D cA N0 7 yX5_set cX5_set 4 (some .int) [.ref y, .int sv, .int v] Sh I P L (cQ I P L y ((sset f sv v).1, (sset f sv v).2.1) (sset f sv v).2.2 (min q 5 + 1) (spush f q pst) t ch) (cX I P L y en3 (sset f sv v).1 f q pst t ch) := jXM_of (by decide) (Nat.le_of_ble_eq_true rfl) (fun _ _ _ _ _ _ _ _ C hnc hr htb => b_X5_set C hnc hst htb hr S R)
set_option maxHeartbeats 4000000 in
theorem b_X5_order {p : Program} {l : Launch} {e : Env} {s : State} {m : MethodId} {args : Array Value} {below : List Frame} {meth : Method} {c : Code} {D : va_G} {cA : Nat → ClassId} {N0 : Nat} {Sh : jS} {I : jI} {P : jP} {L : jL} (C : jC p (jRm 7 1 6) s m args meth c D cA N0 cX5_order 6 RX5 7) (hnc : jNc s) (hst : l.stackTraces = false) (htb : ∀ x ∈ c.exceptionTable.toList, False) (hr : meth.sig.returnType = (some .int)) {y : Nat} (S : cS Sh y) {f : sF} {q : Nat} {pst : Nat → sF} {t : Nat} {ch : Nat → Nat} (R : cR I P y f q pst t ch) {cv wd len pr due : Int32} : jJ p l e (jRm 7 1 6) s m args below meth c D cA N0 6 (vx_MQ below (jQn D cA N0 Sh (cQ I P L y ((sorder f cv wd len pr due).1, (sorder f cv wd len pr due).2.1) (sorder f cv wd len pr due).2.2 (min q 5 + 1) (spush f q pst) t ch)) (jXC D cA N0 Sh (cX I P L y en3 (sorder f cv wd len pr due).1 f q pst t ch)) args s 1 6 (fun q => N0 ≤ q)) (fun _ => True) Sh I P L 0 0 0 [some (.ref y), some (.int cv), some (.int wd), some (.int len), some (.int pr), some (.int due)] [] := by
  obtain ⟨og, H, G⟩ := R.M
  refine jx_iload_n (pc := 0) C dX5_order_0 rfl ?_
  refine jx_iconst (pc := 1) C dX5_order_1 nc_0 ?_
  refine jx_iconst (pc := 2) C dX5_order_2 nc_3 ?_
  refine jx_callD (pc := 3) C (go_X5_37 C  (Nat.le_of_ble_eq_true rfl) dX5_order_3) t_X5_isWithin (by decide) (by decide) ⟨Nat.zero_le _, Nat.zero_le _⟩ ?_
  refine jx_if_ne (pc := 6) C (tgt := 19) dX5_order_6 (by decide) (fun c6 => ?_) (fun c6 => ?_)
  · rw [bI_0, decide_eq_false_iff_not, Decidable.not_not] at c6
    refine jx_iload_n (pc := 19) C dX5_order_19 rfl ?_
    refine jx_bipush (pc := 20) C dX5_order_20 nb_40 ?_
    refine jx_sipush (pc := 22) C dX5_order_22 ns_200 ?_
    refine jx_callD (pc := 25) C (go_X5_37 C  (Nat.le_of_ble_eq_true rfl) dX5_order_25) t_X5_isWithin (by decide) (by decide) ⟨Nat.zero_le _, Nat.zero_le _⟩ ?_
    refine jx_if_eq (pc := 28) C (tgt := 65) dX5_order_28 (by decide) (fun c28 => ?_) (fun c28 => ?_)
    · rw [bI_0, decide_eq_false_iff_not] at c28
      exact jx_thA (pc := 65) C hnc hst (by decide) htb (List.mem_of_getElem? (i := 8) rfl) (by refine cX_of (k := 2) ?_ (by decide) rfl R; unfold sorder; rw [if_pos c6]; refine congrArg Prod.fst (if_neg ?_); first | exact fun z => c28 z.1 | exact fun z => c39 z.2.1 | exact fun z => c50 z.2.2.1 | exact fun z => c62 z.2.2.2) dX5_order_65 dX5_order_68 dX5_order_69 dX5_order_71 dX5_order_74
    · rw [bI_0, decide_eq_false_iff_not, Decidable.not_not] at c28
      refine jx_iload_n (pc := 31) C dX5_order_31 rfl ?_
      refine jx_iconst (pc := 32) C dX5_order_32 nc_1 ?_
      refine jx_sipush (pc := 33) C dX5_order_33 ns_200 ?_
      refine jx_callD (pc := 36) C (go_X5_37 C  (Nat.le_of_ble_eq_true rfl) dX5_order_36) t_X5_isWithin (by decide) (by decide) ⟨Nat.zero_le _, Nat.zero_le _⟩ ?_
      refine jx_if_eq (pc := 39) C (tgt := 65) dX5_order_39 (by decide) (fun c39 => ?_) (fun c39 => ?_)
      · rw [bI_0, decide_eq_false_iff_not] at c39
        exact jx_thA (pc := 65) C hnc hst (by decide) htb (List.mem_of_getElem? (i := 8) rfl) (by refine cX_of (k := 2) ?_ (by decide) rfl R; unfold sorder; rw [if_pos c6]; refine congrArg Prod.fst (if_neg ?_); first | exact fun z => c28 z.1 | exact fun z => c39 z.2.1 | exact fun z => c50 z.2.2.1 | exact fun z => c62 z.2.2.2) dX5_order_65 dX5_order_68 dX5_order_69 dX5_order_71 dX5_order_74
      · rw [bI_0, decide_eq_false_iff_not, Decidable.not_not] at c39
        refine jx_iload (pc := 42) C dX5_order_42 rfl ?_
        refine jx_iconst (pc := 44) C dX5_order_44 nc_1 ?_
        refine jx_bipush (pc := 45) C dX5_order_45 nb_99 ?_
        refine jx_callD (pc := 47) C (go_X5_37 C  (Nat.le_of_ble_eq_true rfl) dX5_order_47) t_X5_isWithin (by decide) (by decide) ⟨Nat.zero_le _, Nat.zero_le _⟩ ?_
        refine jx_if_eq (pc := 50) C (tgt := 65) dX5_order_50 (by decide) (fun c50 => ?_) (fun c50 => ?_)
        · rw [bI_0, decide_eq_false_iff_not] at c50
          exact jx_thA (pc := 65) C hnc hst (by decide) htb (List.mem_of_getElem? (i := 8) rfl) (by refine cX_of (k := 2) ?_ (by decide) rfl R; unfold sorder; rw [if_pos c6]; refine congrArg Prod.fst (if_neg ?_); first | exact fun z => c28 z.1 | exact fun z => c39 z.2.1 | exact fun z => c50 z.2.2.1 | exact fun z => c62 z.2.2.2) dX5_order_65 dX5_order_68 dX5_order_69 dX5_order_71 dX5_order_74
        · rw [bI_0, decide_eq_false_iff_not, Decidable.not_not] at c50
          refine jx_iload (pc := 53) C dX5_order_53 rfl ?_
          refine jx_iconst (pc := 55) C dX5_order_55 nc_0 ?_
          refine jx_sipush (pc := 56) C dX5_order_56 ns_9999 ?_
          refine jx_callD (pc := 59) C (go_X5_37 C  (Nat.le_of_ble_eq_true rfl) dX5_order_59) t_X5_isWithin (by decide) (by decide) ⟨Nat.zero_le _, Nat.zero_le _⟩ ?_
          refine jx_if_ne (pc := 62) C (tgt := 75) dX5_order_62 (by decide) (fun c62 => ?_) (fun c62 => ?_)
          · rw [bI_0, decide_eq_false_iff_not, Decidable.not_not] at c62
            have c2 : (nI 40 ≤ wd ∧ wd ≤ nI 200) ∧ (nI 1 ≤ len ∧ len ≤ nI 200) ∧ (nI 1 ≤ pr ∧ pr ≤ nI 99) ∧ (nI 0 ≤ due ∧ due ≤ nI 9999) := ⟨c28, c39, c50, c62⟩
            have hm := R.V.m
            refine jx_aload_n (pc := 75) C dX5_order_75 rfl ?_
            refine jx_getP (pc := 76) C kf_X5_10 rfl S.obj R.T.hall dX5_order_76 ?_
            refine jx_getIv (pc := 79) C kf_X5_110 rfl S.h.hall (R.od.1.trans R.V.1.1) dX5_order_79 ?_
            refine jx_bipush (pc := 82) C dX5_order_82 nb_10 ?_
            refine jx_icmp_lt (pc := 84) C (tgt := 97) dX5_order_84 (by decide) (fun c84 => ?_) (fun c84 => ?_)
            · rw [nI_ltI (by omega) (by omega)] at c84
              refine jx_aload_n (pc := 97) C dX5_order_97 rfl ?_
              refine jx_callv (pc := 98) C (go_X5_56 C S.obj (Nat.le_of_ble_eq_true rfl) dX5_order_98) (t_X5_saveState S R.T R.M R.V R.W (fun i hi => (R.K i hi).m) R.hq R.q6) (by decide) (by decide) ⟨Nat.zero_le _, Nat.zero_le _⟩ (fun I98 P98 L98 q98 => ?_)
              obtain ⟨W1, e1, F1, G1, rfl⟩ := q98
              have R1 := R.save W1 e1 F1 G1
              have O1 := cOut.save (L := L98) F1 G1
              have H1 := H.ag R.V.m G.lt (fun b b1 b2 => F1 b (by omega) (by omega))
              have Gs := G.ag (G1 (y + 1 + 2) (by omega))
              refine jx_aload_n (pc := 101) C dX5_order_101 rfl ?_
              refine jx_getP (pc := 102) C kf_X5_10 rfl S.obj R1.T.hall dX5_order_102 ?_
              refine jx_iload_n (pc := 105) C dX5_order_105 rfl ?_
              refine jx_iload_n (pc := 106) C dX5_order_106 rfl ?_
              refine jx_iload_n (pc := 107) C dX5_order_107 rfl ?_
              refine jx_iload (pc := 108) C dX5_order_108 rfl ?_
              refine jx_iload (pc := 110) C dX5_order_110 rfl ?_
              refine jx_calli (pc := 112) C (go_X5_115 C S.h.hall (Nat.le_of_ble_eq_true rfl) dX5_order_112) (t_X0_take S.h R1.T.h Gs H1 R.V (by omega)) (by decide) (by decide) ⟨Nat.zero_le _, Nat.zero_le _⟩ (fun r112 I112 P112 L112 q112 => ?_)
              obtain ⟨rfl, M2, F2, G2, eL2⟩ := q112
              subst eL2
              exact jx_end (jx_roomy (Nat.zero_le 1) (Nat.zero_le 6) (jn_iret (pc := 115) C hr (order_fin R1 O1 (by omega) c6 c2 M2 F2 G2) dX5_order_115))
            · rw [nI_ltI (by omega) (by omega)] at c84
              exact jx_thS (pc := 87) C hnc hst (by decide) htb (List.mem_of_getElem? (i := 9) rfl) (by refine cX_of (k := 3) ?_ (by decide) rfl R; unfold sorder; rw [if_pos c6, if_pos c2, R.V.1.1, show smany f = 10 by omega]; rfl) dX5_order_87 dX5_order_90 dX5_order_91 dX5_order_93 dX5_order_96
          · rw [bI_0, decide_eq_false_iff_not] at c62
            exact jx_thA (pc := 65) C hnc hst (by decide) htb (List.mem_of_getElem? (i := 8) rfl) (by refine cX_of (k := 2) ?_ (by decide) rfl R; unfold sorder; rw [if_pos c6]; refine congrArg Prod.fst (if_neg ?_); first | exact fun z => c28 z.1 | exact fun z => c39 z.2.1 | exact fun z => c50 z.2.2.1 | exact fun z => c62 z.2.2.2) dX5_order_65 dX5_order_68 dX5_order_69 dX5_order_71 dX5_order_74
  · rw [bI_0, decide_eq_false_iff_not] at c6
    exact jx_thI (pc := 9) C hnc hst (by decide) htb (List.mem_of_getElem? (i := 5) rfl) (cX_of (k := 1) (by unfold sorder; rw [if_neg c6]) (by decide) rfl R) dX5_order_9 dX5_order_12 dX5_order_13 dX5_order_15 dX5_order_18
theorem t_X5_order {l : Launch} (hst : l.stackTraces = false) {D : va_G} {cA : Nat → ClassId} {N0 : Nat} {Sh : jS} {I : jI} {P : jP} {L : jL} {y : Nat} (S : cS Sh y) {f : sF} {q : Nat} {pst : Nat → sF} {t : Nat} {ch : Nat → Nat} (R : cR I P y f q pst t ch) {cv wd len pr due : Int32} : jXM l D cA N0 7 yX5_order cX5_order 6 (some .int) [.ref y, .int cv, .int wd, .int len, .int pr, .int due] Sh I P L (cQ I P L y ((sorder f cv wd len pr due).1, (sorder f cv wd len pr due).2.1) (sorder f cv wd len pr due).2.2 (min q 5 + 1) (spush f q pst) t ch) (cX I P L y en3 (sorder f cv wd len pr due).1 f q pst t ch) := jXM_of (by decide) (Nat.le_of_ble_eq_true rfl) (fun _ _ _ _ _ _ _ _ C hnc hr htb => b_X5_order C hnc hst htb hr S R)
set_option maxHeartbeats 4000000 in
theorem b_X5_cancel {p : Program} {l : Launch} {e : Env} {s : State} {m : MethodId} {args : Array Value} {below : List Frame} {meth : Method} {c : Code} {D : va_G} {cA : Nat → ClassId} {N0 : Nat} {Sh : jS} {I : jI} {P : jP} {L : jL} (C : jC p (jRm 7 1 6) s m args meth c D cA N0 cX5_cancel 4 RX5 7) (hnc : jNc s) (hst : l.stackTraces = false) (htb : ∀ x ∈ c.exceptionTable.toList, False) (hr : meth.sig.returnType = (some .int)) {y : Nat} (S : cS Sh y) {f : sF} {q : Nat} {pst : Nat → sF} {t : Nat} {ch : Nat → Nat} (R : cR I P y f q pst t ch) {num : Int32} : jJ p l e (jRm 7 1 6) s m args below meth c D cA N0 4 (vx_MQ below (jQn D cA N0 Sh (cQ I P L y ((scancel f num).1, (scancel f num).2.1) (scancel f num).2.2 (min q 5 + 1) (spush f q pst) t ch)) (jXC D cA N0 Sh (cX I P L y en3 (scancel f num).1 f q pst t ch)) args s 1 6 (fun q => N0 ≤ q)) (fun _ => True) Sh I P L 0 0 0 [some (.ref y), some (.int num), none, none] [] := by
  obtain ⟨og, H, G⟩ := R.M
  cases hq0 : splace f num with
  | none =>
    refine jx_aload_n (pc := 0) C dX5_cancel_0 rfl ?_
    refine jx_getP (pc := 1) C kf_X5_10 rfl S.obj R.T.hall dX5_cancel_1 ?_
    refine jx_iload_n (pc := 4) C dX5_cancel_4 rfl ?_
    refine jx_callD (pc := 5) C (go_X5_119 C S.h.hall (Nat.le_of_ble_eq_true rfl) dX5_cancel_5) (t_X0_find_n S.h R.T.h G H R.V hq0) (by decide) (by decide) ⟨Nat.zero_le _, Nat.zero_le _⟩ ?_
    refine jx_astore_nN (pc := 8) C dX5_cancel_8 (jset_2 jc_i) (by decide) ?_
    refine jx_aload_nN (pc := 9) C dX5_cancel_9 rfl ?_
    refine jx_ifnonnullN (pc := 10) C dX5_cancel_10 ?_
    exact jx_thI (pc := 13) C hnc hst (by decide) htb (List.mem_of_getElem? (i := 10) rfl) (cX_of (k := 1) (by unfold scancel; rw [hq0]) (by decide) rfl R) dX5_cancel_13 dX5_cancel_16 dX5_cancel_17 dX5_cancel_19 dX5_cancel_22
  | some o =>
    have ho := (sfst_lt hq0).1
    have hm := R.V.m
    refine jx_aload_n (pc := 0) C dX5_cancel_0 rfl ?_
    refine jx_getP (pc := 1) C kf_X5_10 rfl S.obj R.T.hall dX5_cancel_1 ?_
    refine jx_iload_n (pc := 4) C dX5_cancel_4 rfl ?_
    refine jx_callD (pc := 5) C (go_X5_119 C S.h.hall (Nat.le_of_ble_eq_true rfl) dX5_cancel_5) (t_X0_find_s S.h R.T.h G H R.V hq0) (by decide) (by decide) ⟨Nat.zero_le _, Nat.zero_le _⟩ ?_
    refine jx_astore_n (pc := 8) C dX5_cancel_8 (jset_2 jc_i) (by decide) ?_
    refine jx_aload_n (pc := 9) C dX5_cancel_9 rfl ?_
    refine jx_ifnonnull (pc := 10) C (tgt := 23) dX5_cancel_10 (by decide) ?_
    refine jx_aload_n (pc := 23) C dX5_cancel_23 rfl ?_
    refine jx_callv (pc := 24) C (go_X5_56 C S.obj (Nat.le_of_ble_eq_true rfl) dX5_cancel_24) (t_X5_saveState S R.T R.M R.V R.W (fun i hi => (R.K i hi).m) R.hq R.q6) (by decide) (by decide) ⟨Nat.zero_le _, Nat.zero_le _⟩ (fun I24 P24 L24 q24 => ?_)
    obtain ⟨W1, e1, F1, G1, rfl⟩ := q24
    have R1 := R.save W1 e1 F1 G1
    have O1 := cOut.save (L := L24) F1 G1
    have H1 := H.ag R.V.m G.lt (fun b b1 b2 => F1 b (by omega) (by omega))
    have Gs := G.ag (G1 (y + 1 + 2) (by omega))
    refine jx_aload_n (pc := 27) C dX5_cancel_27 rfl ?_
    refine jx_getIv (pc := 28) C kf_X5_125 rfl (S.h.od (G.lt o (by omega))) (H1.gd ho) dX5_cancel_28 ?_
    refine jx_istore_n (pc := 31) C dX5_cancel_31 (jset_3 jc_r) (by decide) ?_
    refine jx_aload_n (pc := 32) C dX5_cancel_32 rfl ?_
    refine jx_getP (pc := 33) C kf_X5_10 rfl S.obj R1.T.hall dX5_cancel_33 ?_
    refine jx_aload_n (pc := 36) C dX5_cancel_36 rfl ?_
    refine jx_callv (pc := 37) C (go_X5_130 C S.h.hall (Nat.le_of_ble_eq_true rfl) dX5_cancel_37) (t_X0_dismiss S.h R1.T.h Gs H1 R.V.1.1 hm ho) (by decide) (by decide) ⟨Nat.zero_le _, Nat.zero_le _⟩ (fun I37 P37 L37 q37 => ?_)
    obtain ⟨H2, G2, eI2, F2, eL2⟩ := q37
    subst eL2
    have Fh : hF I24 (y + 1) I37 := fun b hb => by rw [eI2, jst_ne (by omega)]
    refine jx_iload_n (pc := 40) C dX5_cancel_40 rfl ?_
    exact jx_end (jx_roomy (Nat.zero_le 1) (Nat.zero_le 6) (jn_iret (pc := 41) C hr (cQ_do (by unfold scancel; rw [hq0]) (R1.hall Fh F2 ⟨_, H2, G2⟩ (sgoes_J hm R.V.1.1 ho R.V.2.1 (fun q hq _ => R.V.2.2 q hq) R.V.1)) (O1.tr (cOut.hall Fh F2))) dX5_cancel_41))
theorem t_X5_cancel {l : Launch} (hst : l.stackTraces = false) {D : va_G} {cA : Nat → ClassId} {N0 : Nat} {Sh : jS} {I : jI} {P : jP} {L : jL} {y : Nat} (S : cS Sh y) {f : sF} {q : Nat} {pst : Nat → sF} {t : Nat} {ch : Nat → Nat} (R : cR I P y f q pst t ch) {num : Int32} : jXM l D cA N0 7 yX5_cancel cX5_cancel 4 (some .int) [.ref y, .int num] Sh I P L (cQ I P L y ((scancel f num).1, (scancel f num).2.1) (scancel f num).2.2 (min q 5 + 1) (spush f q pst) t ch) (cX I P L y en3 (scancel f num).1 f q pst t ch) := jXM_of (by decide) (Nat.le_of_ble_eq_true rfl) (fun _ _ _ _ _ _ _ _ C hnc hr htb => b_X5_cancel C hnc hst htb hr S R)
theorem undo_fin {I I' : jI} {P : jP} {L : jL} {y : Nat} {f : sF} {q : Nat} {pst : Nat → sF} {t : Nat} {ch : Nat → Nat} (R : cR I P y f q pst t ch) (h0 : q ≠ 0) (F : ∀ b, b ≠ y → (b < y + 1 ∨ y + 1 + 45 ≤ b) → I' b = I b) (e : I' y = upd (I y) 6 (nI (q - 1))) (M : cM I' P y (pst (q - 1))) : q ≠ 0 ∧ some (Value.int (nI (q - 1))) = some (.int (nI (q - 1))) ∧ cR I' P y (pst (q - 1)) (q - 1) pst t ch ∧ cOut I P L y I' P L := by
  have hq6 := R.q6
  obtain ⟨sg, h1, h2, h3⟩ := R.W.ag (I' := I') (P' := P) (fun i hi => (R.K i hi).m) (fun b b1 b2 => F b (by omega) (by omega)) (fun _ _ _ => rfl)
  refine ⟨h0, rfl, ⟨R.T, M, R.K (q - 1) (by omega), R.U, ⟨sg, h1, h2, fun i hi => ?_⟩, fun i hi => R.K i (by omega), by rw [e, upd_s], by omega, R.B.ag (by rw [e, upd_n (by decide)]) (F _ (by omega) (by omega))⟩, fun b hb => F b (by omega) (by omega), fun _ _ => rfl, rfl⟩
  obtain ⟨og, a1, a2⟩ := h3 i hi
  exact ⟨og, a1, fun z => a2 (by omega)⟩
set_option maxHeartbeats 4000000 in
theorem b_X5_undo {p : Program} {l : Launch} {e : Env} {s : State} {m : MethodId} {args : Array Value} {below : List Frame} {meth : Method} {c : Code} {D : va_G} {cA : Nat → ClassId} {N0 : Nat} {Sh : jS} {I : jI} {P : jP} {L : jL} (C : jC p (jRm 7 1 6) s m args meth c D cA N0 cX5_undo 1 RX5 7) (hnc : jNc s) (hst : l.stackTraces = false) (htb : ∀ x ∈ c.exceptionTable.toList, False) (hr : meth.sig.returnType = (some .int)) {y : Nat} (S : cS Sh y) {f : sF} {q : Nat} {pst : Nat → sF} {t : Nat} {ch : Nat → Nat} (R : cR I P y f q pst t ch) : jJ p l e (jRm 7 1 6) s m args below meth c D cA N0 1 (vx_MQ below (jQn D cA N0 Sh (fun v I' P' L' => q ≠ 0 ∧ v = some (.int (nI (q - 1))) ∧ cR I' P' y (pst (q - 1)) (q - 1) pst t ch ∧ cOut I P L y I' P' L')) (jXC D cA N0 Sh (fun E I' P' L' => q = 0 ∧ E = eS ∧ cR I' P' y f q pst t ch ∧ cOut I P L y I' P' L')) args s 1 6 (fun q => N0 ≤ q)) (fun _ => True) Sh I P L 0 0 0 [some (.ref y)] [] := by
  have hq := R.hq
  have hq6 := R.q6
  by_cases h0 : q = 0
  · subst h0
    refine jx_aload_n (pc := 0) C dX5_undo_0 rfl ?_
    refine jx_getIv (pc := 1) C kf_X5_180 rfl S.obj R.hq dX5_undo_1 ?_
    refine jx_iconst (pc := 4) C dX5_undo_4 nc_1 ?_
    refine jx_aload_n (pc := 5) C dX5_undo_5 rfl ?_
    refine jx_getP (pc := 6) C kf_X5_19 rfl S.obj R.T.saved dX5_undo_6 ?_
    refine jx_alen14 (pc := 9) C S.sv dX5_undo_9 ?_
    refine jx_callD (pc := 10) C (go_X5_37 C  (Nat.le_of_ble_eq_true rfl) dX5_undo_10) t_X5_isWithin (by decide) (by decide) ⟨Nat.zero_le _, Nat.zero_le _⟩ ?_
    refine jx_if_ne (pc := 13) C (tgt := 26) dX5_undo_13 (by decide) (fun c13 => (by exfalso; rw [bI_0, decide_eq_false_iff_not, Decidable.not_not] at c13; exact absurd c13.1 (by decide))) (fun c13 => ?_)
    rw [bI_0, decide_eq_false_iff_not] at c13
    exact jx_thS (pc := 16) C hnc hst (by decide) htb (List.mem_of_getElem? (i := 15) rfl) (⟨rfl, rfl, R, cOut.rf⟩) dX5_undo_16 dX5_undo_19 dX5_undo_20 dX5_undo_22 dX5_undo_25
  · obtain ⟨sg, h1, h2, h3⟩ := R.W
    obtain ⟨og2, G2, H2⟩ := h3 (q - 1) (by omega)
    have H2 := H2 (by omega)
    obtain ⟨og, H, G⟩ := R.M
    have hs := (h1 (q - 1) (by omega)).2
    have eq : jst I y 6 (nI (q - 1)) y 6 = nI (q - 1) := (congrFun jst_eq 6).trans upd_s
    have H2b : hR (jst I y 6 (nI (q - 1))) (y + 96 + 45 * sg (q - 1)) og2 (pst (q - 1)) := H2.ag (R.K (q - 1) (by omega)).m G2.lt (fun b b1 b2 => jst_ne (by omega))
    refine jx_aload_n (pc := 0) C dX5_undo_0 rfl ?_
    refine jx_getIv (pc := 1) C kf_X5_180 rfl S.obj R.hq dX5_undo_1 ?_
    refine jx_iconst (pc := 4) C dX5_undo_4 nc_1 ?_
    refine jx_aload_n (pc := 5) C dX5_undo_5 rfl ?_
    refine jx_getP (pc := 6) C kf_X5_19 rfl S.obj R.T.saved dX5_undo_6 ?_
    refine jx_alen14 (pc := 9) C S.sv dX5_undo_9 ?_
    refine jx_callD (pc := 10) C (go_X5_37 C  (Nat.le_of_ble_eq_true rfl) dX5_undo_10) t_X5_isWithin (by decide) (by decide) ⟨Nat.zero_le _, Nat.zero_le _⟩ ?_
    refine jx_if_ne (pc := 13) C (tgt := 26) dX5_undo_13 (by decide) (fun c13 => ?_) (fun c13 => (by exfalso; rw [bI_0, decide_eq_false_iff_not] at c13; exact c13 ⟨(nI_leI (by decide) (by omega)).mpr (by omega), (nI_leI (by omega) (by decide)).mpr (by omega)⟩))
    rw [bI_0, decide_eq_false_iff_not, Decidable.not_not] at c13
    refine jx_aload_n (pc := 26) C dX5_undo_26 rfl ?_
    refine jx_dup (pc := 27) C dX5_undo_27 rfl ?_
    refine jx_getIv (pc := 28) C kf_X5_180 rfl S.obj R.hq dX5_undo_28 ?_
    refine jx_iconst (pc := 31) C dX5_undo_31 nc_1 ?_
    refine jx_isubN (pc := 32) C (by omega) dX5_undo_32 ?_
    refine jx_putI (pc := 33) C kf_X5_180 rfl rfl rfl rfl S.obj dX5_undo_33 ?_
    refine jx_aload_n (pc := 36) C dX5_undo_36 rfl ?_
    refine jx_getP (pc := 37) C kf_X5_10 rfl S.obj R.T.hall dX5_undo_37 ?_
    refine jx_aload_n (pc := 40) C dX5_undo_40 rfl ?_
    refine jx_getP (pc := 41) C kf_X5_19 rfl S.obj R.T.saved dX5_undo_41 ?_
    refine jx_aload_n (pc := 44) C dX5_undo_44 rfl ?_
    refine jx_getIv (pc := 45) C kf_X5_180 rfl S.obj eq dX5_undo_45 ?_
    refine jx_aald14 (pc := 48) C S.sv (by omega) (by decide) (h1 (q - 1) (by omega)).1 dX5_undo_48 ?_
    refine jx_callv (pc := 49) C (go_X5_185 C S.h.hall (Nat.le_of_ble_eq_true rfl) dX5_undo_49) (t_X0_copyFrom S.h R.T.h G (S.sh hs) (R.T.sh hs) G2 H2b (R.K (q - 1) (by omega)).m (by omega)) (by decide) (by decide) ⟨Nat.zero_le _, Nat.zero_le _⟩ (fun I49 P49 L49 q49 => ?_)
    obtain ⟨H3, F2, eP, eL⟩ := q49
    subst eP
    subst eL
    refine jx_aload_n (pc := 52) C dX5_undo_52 rfl ?_
    refine jx_getIv (pc := 53) C kf_X5_180 rfl S.obj ((congrFun (F2 y (by omega)) 6).trans eq) dX5_undo_53 ?_
    exact jx_end (jx_roomy (Nat.zero_le 1) (Nat.zero_le 6) (jn_iret (pc := 56) C hr (undo_fin R h0 (fun b b1 b2 => (F2 b b2).trans (jst_ne b1)) ((F2 y (by omega)).trans jst_eq) ⟨og, H3, G⟩) dX5_undo_56))
theorem t_X5_undo {l : Launch} (hst : l.stackTraces = false) {D : va_G} {cA : Nat → ClassId} {N0 : Nat} {Sh : jS} {I : jI} {P : jP} {L : jL} {y : Nat} (S : cS Sh y) {f : sF} {q : Nat} {pst : Nat → sF} {t : Nat} {ch : Nat → Nat} (R : cR I P y f q pst t ch) : jXM l D cA N0 7 yX5_undo cX5_undo 1 (some .int) [.ref y] Sh I P L (fun v I' P' L' => q ≠ 0 ∧ v = some (.int (nI (q - 1))) ∧ cR I' P' y (pst (q - 1)) (q - 1) pst t ch ∧ cOut I P L y I' P' L') (fun E I' P' L' => q = 0 ∧ E = eS ∧ cR I' P' y f q pst t ch ∧ cOut I P L y I' P' L') := jXM_of (by decide) (Nat.le_of_ble_eq_true rfl) (fun _ _ _ _ _ _ _ _ C hnc hr htb => b_X5_undo C hnc hst htb hr S R)
