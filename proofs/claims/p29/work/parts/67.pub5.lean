/-! CHANGES of the class's state, 3: hours, a text of orders -/
theorem cR.hour {I I' : jI} {P P' : jP} {y : Nat} {f : sF} {q : Nat} {pst : Nat → sF} {t : Nat} {ch : Nat → Nat} (R : cR I P y f q pst t ch) (M : ∃ og', hR I' (y + 1) og' (shour f) ∧ hG P' (y + 1) og') (F : hF I (y + 1) I') (G : hFP P (y + 1) P') : cR I' P' y (shour f) q pst t ch := R.hall F G M (shour_I R.V)
set_option maxHeartbeats 4000000 in
theorem lp_X5_pass {p : Program} {l : Launch} {e : Env} {s : State} {m : MethodId} {args : Array Value} {below : List Frame} {meth : Method} {c : Code} {D : va_G} {cA : Nat → ClassId} {N0 : Nat} {Sh : jS} {I : jI} {P : jP} {L : jL} {Qf : State → Prop} (C : jC p (jRm 7 1 6) s m args meth c D cA N0 cX5_pass 4 RX5 7) {y : Nat} (S : cS Sh y) {f : sF} {q : Nat} {pst : Nat → sF} {t : Nat} {ch : Nat → Nat} {n : Nat} (hn : n ≤ 99) {b0 : Int32} (hx : ∀ (I' : jI) (P' : jP), cR I' P' y (shours f n) q pst t ch → cOut I P L y I' P' L → jJ p l e (jRm 7 1 6) s m args below meth c D cA N0 4 Qf (fun _ => True) Sh I' P' L 0 0 78 [some (.ref y), some (.int (nI n)), some (.int b0), some (.int (nI (n)))] []) : ∀ d i, i + d = n → ∀ (I' : jI) (P' : jP), cR I' P' y (shours f i) q pst t ch → cOut I P L y I' P' L → jJ p l e (jRm 7 1 6) s m args below meth c D cA N0 4 Qf (fun _ => True) Sh I' P' L 0 0 59 [some (.ref y), some (.int (nI n)), some (.int b0), some (.int (nI (i)))] [] := by
  intro d
  induction d with
  | zero =>
    intro i hi I' P' R O
    obtain rfl : i = n := by omega
    refine jx_iload_n (pc := 59) C dX5_pass_59 rfl ?_
    refine jx_iload_n (pc := 60) C dX5_pass_60 rfl ?_
    refine jx_icmp_ge (pc := 61) C (tgt := 78) dX5_pass_61 (by decide) (fun c61 => ?_) (fun c61 => (by rw [nI_leI (by omega) (by omega)] at c61; exfalso; omega))
    rw [nI_leI (by omega) (by omega)] at c61
    exact hx _ _ R O
  | succ d ih =>
    intro i hi I' P' R O
    obtain ⟨og, H, G⟩ := R.M
    refine jx_iload_n (pc := 59) C dX5_pass_59 rfl ?_
    refine jx_iload_n (pc := 60) C dX5_pass_60 rfl ?_
    refine jx_icmp_ge (pc := 61) C (tgt := 78) dX5_pass_61 (by decide) (fun c61 => (by rw [nI_leI (by omega) (by omega)] at c61; exfalso; omega)) (fun c61 => ?_)
    rw [nI_leI (by omega) (by omega)] at c61
    refine jx_aload_n (pc := 64) C dX5_pass_64 rfl ?_
    refine jx_getP (pc := 65) C kf_X5_10 rfl S.obj R.T.hall dX5_pass_65 ?_
    refine jx_calli (pc := 68) C (go_X5_154 C S.h.hall (Nat.le_of_ble_eq_true rfl) dX5_pass_68) (t_X0_passHour S.h R.T.h G H R.V) (by decide) (by decide) ⟨Nat.zero_le _, Nat.zero_le _⟩ (fun r68 I68 P68 L68 q68 => ?_)
    obtain ⟨rfl, M2, F2, G2, eL⟩ := q68
    subst eL
    refine jx_pop (pc := 71) C dX5_pass_71 rfl ?_
    refine jx_iincN (pc := 72) C dX5_pass_72 rfl (jset_3 jc_i) (by decide) ?_
    refine jx_goto (pc := 75) C (tgt := 59) dX5_pass_75 (by decide) ?_
    exact ih (i + 1) (by omega) _ _ (R.hour M2 F2 G2) (O.tr (cOut.hall F2 G2))
set_option maxHeartbeats 4000000 in
theorem b_X5_pass {p : Program} {l : Launch} {e : Env} {s : State} {m : MethodId} {args : Array Value} {below : List Frame} {meth : Method} {c : Code} {D : va_G} {cA : Nat → ClassId} {N0 : Nat} {Sh : jS} {I : jI} {P : jP} {L : jL} (C : jC p (jRm 7 1 6) s m args meth c D cA N0 cX5_pass 4 RX5 7) (hnc : jNc s) (hst : l.stackTraces = false) (htb : ∀ x ∈ c.exceptionTable.toList, False) (hr : meth.sig.returnType = (some .int)) {y : Nat} (S : cS Sh y) {f : sF} {q : Nat} {pst : Nat → sF} {t : Nat} {ch : Nat → Nat} (R : cR I P y f q pst t ch) {hv : Int32} : jJ p l e (jRm 7 1 6) s m args below meth c D cA N0 4 (vx_MQ below (jQn D cA N0 Sh (cQ I P L y ((spass f hv).1, (spass f hv).2.1) (spass f hv).2.2 (min q 5 + 1) (spush f q pst) t ch)) (jXC D cA N0 Sh (cX I P L y enA (spass f hv).1 f q pst t ch)) args s 1 6 (fun q => N0 ≤ q)) (fun _ => True) Sh I P L 0 0 0 [some (.ref y), some (.int hv), none, none] [] := by
  obtain ⟨og, H, G⟩ := R.M
  refine jx_iload_n (pc := 0) C dX5_pass_0 rfl ?_
  refine jx_iconst (pc := 1) C dX5_pass_1 nc_1 ?_
  refine jx_bipush (pc := 2) C dX5_pass_2 nb_99 ?_
  refine jx_callD (pc := 4) C (go_X5_37 C  (Nat.le_of_ble_eq_true rfl) dX5_pass_4) t_X5_isWithin (by decide) (by decide) ⟨Nat.zero_le _, Nat.zero_le _⟩ ?_
  refine jx_if_ne (pc := 7) C (tgt := 20) dX5_pass_7 (by decide) (fun c7 => ?_) (fun c7 => ?_)
  · rw [bI_0, decide_eq_false_iff_not, Decidable.not_not] at c7
    obtain ⟨n, hn, rfl⟩ := in_N1 (by decide) c7
    refine jx_aload_n (pc := 20) C dX5_pass_20 rfl ?_
    refine jx_getP (pc := 21) C kf_X5_10 rfl S.obj R.T.hall dX5_pass_21 ?_
    refine jx_getI (pc := 24) C kf_X5_146 rfl S.h.hall dX5_pass_24 ?_
    refine jx_iload_n (pc := 27) C dX5_pass_27 rfl ?_
    refine jx_iadd (pc := 28) C dX5_pass_28 ?_
    refine jx_sipush (pc := 29) C dX5_pass_29 ns_9999 ?_
    refine jx_icmp_le (pc := 32) C (tgt := 45) dX5_pass_32 (by decide) (fun c32 => ?_) (fun c32 => ?_)
    · rw [R.od.2.1] at c32
      refine jx_aload_n (pc := 45) C dX5_pass_45 rfl ?_
      refine jx_callv (pc := 46) C (go_X5_56 C S.obj (Nat.le_of_ble_eq_true rfl) dX5_pass_46) (t_X5_saveState S R.T R.M R.V R.W (fun i hi => (R.K i hi).m) R.hq R.q6) (by decide) (by decide) ⟨Nat.zero_le _, Nat.zero_le _⟩ (fun I46 P46 L46 q46 => ?_)
      obtain ⟨W1, e1, F1, G1, rfl⟩ := q46
      have R1 := R.save W1 e1 F1 G1
      have O1 := cOut.save (L := L46) F1 G1
      have H1 := H.ag R.V.m G.lt (fun b b1 b2 => F1 b (by omega) (by omega))
      have Gs := G.ag (G1 (y + 1 + 2) (by omega))
      refine jx_aload_n (pc := 49) C dX5_pass_49 rfl ?_
      refine jx_getP (pc := 50) C kf_X5_10 rfl S.obj R1.T.hall dX5_pass_50 ?_
      refine jx_getI (pc := 53) C kf_X5_151 rfl S.h.hall dX5_pass_53 ?_
      refine jx_istore_n (pc := 56) C dX5_pass_56 (jset_2 jc_i) (by decide) ?_
      refine jx_iconst (pc := 57) C dX5_pass_57 nc_0 ?_
      refine jx_istore_n (pc := 58) C dX5_pass_58 (jset_3 jc_i) (by decide) ?_
      refine lp_X5_pass C S hn.2 (f := f) (I := I46) (P := P46) (fun I2 P2 R2 O2 => ?_) n 0 (by omega) _ _ R1 cOut.rf
      refine jx_aload_n (pc := 78) C dX5_pass_78 rfl ?_
      refine jx_getP (pc := 79) C kf_X5_10 rfl S.obj R2.T.hall dX5_pass_79 ?_
      refine jx_getI (pc := 82) C kf_X5_151 rfl S.h.hall dX5_pass_82 ?_
      refine jx_iload_n (pc := 85) C dX5_pass_85 rfl ?_
      refine jx_isub (pc := 86) C dX5_pass_86 ?_
      exact jx_end (jx_roomy (Nat.zero_le 1) (Nat.zero_le 6) (jn_iret (pc := 87) C hr (cQ_do (by unfold spass; rw [if_pos c7, if_pos c32, sW_N (by omega), R2.od.2.2.1, R1.od.2.2.1]) R2 (O1.tr O2)) dX5_pass_87))
    · rw [R.od.2.1] at c32
      exact jx_thS (pc := 35) C hnc hst (by decide) htb (List.mem_of_getElem? (i := 14) rfl) (cX_of (k := 2) (by unfold spass; rw [if_pos c7, if_neg c32]) (by decide) rfl R) dX5_pass_35 dX5_pass_38 dX5_pass_39 dX5_pass_41 dX5_pass_44
  · rw [bI_0, decide_eq_false_iff_not] at c7
    exact jx_thA (pc := 10) C hnc hst (by decide) htb (List.mem_of_getElem? (i := 13) rfl) (cX_of (k := 1) (by unfold spass; rw [if_neg c7]) (by decide) rfl R) dX5_pass_10 dX5_pass_13 dX5_pass_14 dX5_pass_16 dX5_pass_19
theorem t_X5_pass {l : Launch} (hst : l.stackTraces = false) {D : va_G} {cA : Nat → ClassId} {N0 : Nat} {Sh : jS} {I : jI} {P : jP} {L : jL} {y : Nat} (S : cS Sh y) {f : sF} {q : Nat} {pst : Nat → sF} {t : Nat} {ch : Nat → Nat} (R : cR I P y f q pst t ch) {hv : Int32} : jXM l D cA N0 7 yX5_pass cX5_pass 4 (some .int) [.ref y, .int hv] Sh I P L (cQ I P L y ((spass f hv).1, (spass f hv).2.1) (spass f hv).2.2 (min q 5 + 1) (spush f q pst) t ch) (cX I P L y enA (spass f hv).1 f q pst t ch) := jXM_of (by decide) (Nat.le_of_ble_eq_true rfl) (fun _ _ _ _ _ _ _ _ C hnc hr htb => b_X5_pass C hnc hst htb hr S R)
