/-- only the rows that a forecast uses have changed -/
def mTh (I : jI) (x : Nat) (I' : jI) : Prop := ∀ b, b ≠ x + 2 → b ≠ x + 6 → I' b = I b
theorem mTh.tr {I I1 I2 : jI} {x : Nat} (h : mTh I x I1) (h2 : mTh I1 x I2) : mTh I x I2 := fun b a c => (h2 b a c).trans (h b a c)
theorem mTh.same {I I1 I2 : jI} {x : Nat} (h : mSame I x I1) (h2 : mTh I1 x I2) : mSame I x I2 :=
  ⟨fun b hb => (h2 b (by omega) (by omega)).trans (h.1 b hb), (h2 _ (by omega) (by omega)).trans h.2.1, (h2 _ (by omega) (by omega)).trans h.2.2.1, (h2 _ (by omega) (by omega)).trans h.2.2.2.1, (congrFun (h2 x (by omega) (by omega)) 3).trans h.2.2.2.2.1, (congrFun (h2 x (by omega) (by omega)) 5).trans h.2.2.2.2.2⟩
def sbyH (f : sF) (n k : Nat) : Int32 := if k = 3 then sdebts (shours f n) else if k = 0 then shours f n 7 - f 7 else if k = 1 then shours f n 9 - f 9 else if k = 2 then shours f n 11 - f 11 else shours f n 8 - f 8
def sifP (f : sF) (hv kv : Int32) : Nat × Int32 := if nI 1 ≤ hv ∧ hv ≤ nI 200 then if nI 0 ≤ kv ∧ kv ≤ nI 4 then (0, sbyH f (sW hv) (sW kv)) else (1, nI 0) else (1, nI 0)
def sgone (f : sF) (num : Int32) (i : Nat) : Bool := (splace (shours f (i + 1)) num).isNone
def sbehind (f : sF) (num : Int32) : Int32 := match sfst (sgone f num) 200 with | none => -1 | some i => nI (i + 1)
def sdoneIn (f : sF) (num : Int32) : Nat × Int32 := match splace f num with | none => (1, nI 0) | some _ => (0, sbehind f num)
def sbestN (f : sF) (n : Nat) : Nat → Int32 × Int32 × Int32
  | 0 => (-1, nI 0, nI 0)
  | r + 1 =>
    if (sbestN f n r).1 = -1 ∨ (sbestN f n r).2.1 < shours (upd f 0 (nI r)) n 9 ∨ (shours (upd f 0 (nI r)) n 9 = (sbestN f n r).2.1 ∧ shours (upd f 0 (nI r)) n 8 < (sbestN f n r).2.2) then (nI r, shours (upd f 0 (nI r)) n 9, shours (upd f 0 (nI r)) n 8)
    else sbestN f n r
def sbest (f : sF) (n : Nat) : Int32 := (sbestN f n 3).1
def sbestRule (f : sF) (hv : Int32) : Nat × Int32 := if nI 1 ≤ hv ∧ hv ≤ nI 99 then (0, sbest f (sW hv)) else (1, nI 0)
def sdueN (f : sF) (o w : Nat) : Int32 := sshares f o (swhole f o (sgood f o)) (sgood f o) (fun _ => nI 0) w
def sdueNow (f : sF) (num wv : Int32) : Nat × Int32 := match splace f num with | none => (1, nI 0) | some o => if nI 0 ≤ wv ∧ wv ≤ nI 5 then (0, sdueN f o (sW wv)) else (1, nI 0)
theorem sOK_0 {f : sF} {v : Int32} (h : sOK f) : sOK (upd f 0 v) := sOK_of h (upd_n (by decide)) (fun o ho => upd_n (by omega)) (fun w hw => upd_n (by omega))
set_option maxHeartbeats 4000000 in
theorem b_X6_byHours {p : Program} {l : Launch} {e : Env} {s : State} {m : MethodId} {args : Array Value} {below : List Frame} {meth : Method} {c : Code} {D : va_G} {cA : Nat → ClassId} {N0 : Nat} {Sh : jS} {I : jI} {P : jP} {L : jL} (C : jC p (jRm 7 0 0) s m args meth c D cA N0 cX6_byHours 4 RX6 7) (hr : meth.sig.returnType = (some .int)) {x : Nat} (hS : mS Sh x) (hP : mP P x) (hok : sOK (I (x + 1))) {n k : Nat} (hn : n < 1000) (hk : k ≤ 4) : jJ p l e (jRm 7 0 0) s m args below meth c D cA N0 4 (MQ below (jQn D cA N0 Sh (jNi (fun r I' P' L' => r = sbyH (I (x + 1)) n k ∧ mTh I x I' ∧ P' = P ∧ L' = L))) args s 0 0 (fun q => N0 ≤ q)) (fun _ => True) Sh I P L 0 0 0 [some (.ref x), some (.int (nI n)), some (.int (nI k)), none] [] := by
  refine jx_aload_n (pc := 0) C dX6_byHours_0 rfl ?_
  refine jx_callDv (pc := 1) C (go_X6_181 C hS.1 (Nat.le_of_ble_eq_true rfl) dX6_byHours_1) (t_X6_tries hS hP) (by decide) (by decide) ⟨Nat.zero_le _, Nat.zero_le _⟩ ?_
  have hE0 : sE (I (x + 1)) (cpy (I (x + 2)) (I (x + 1)) 0 0 210) := sE_cpy.sy
  have hok0 := sE_OK hE0 hok
  generalize (cpy (I (x + 2)) (I (x + 1)) 0 0 210) = t0 at hE0 hok0 ⊢
  refine jx_aload_n (pc := 4) C dX6_byHours_4 rfl ?_
  refine jx_aload_n (pc := 5) C dX6_byHours_5 rfl ?_
  refine jx_getP (pc := 6) C kf_X6_13 rfl hS.1 hP.2.1 dX6_byHours_6 ?_
  refine jx_iload_n (pc := 9) C dX6_byHours_9 rfl ?_
  refine jx_callv (pc := 10) C (go_X6_121 C hS.1 (Nat.le_of_ble_eq_true rfl) dX6_byHours_10) (t_X6_hours hS hP hS.2.2.1 (by omega) (by rw [va_up_s]; exact hok0) hn) (by decide) (by decide) ⟨Nat.zero_le _, Nat.zero_le _⟩ (fun I10 P10 L10 q10 => ?_)
  obtain ⟨⟨d10, rfl⟩, rfl, rfl⟩ := q10
  rw [va_up_s]
  have hEn := sE_hours hE0 hok n
  have hth : mTh I x (mm (va_up I (x + 2) t0) x (x + 2) d10 (shours t0 n)) := fun b h1 h2 => by unfold mm; rw [va_up_n h1, va_up_n h2, va_up_n h1]
  have hnow : mm (va_up I (x + 2) t0) x (x + 2) d10 (shours t0 n) (x + 1) = I (x + 1) := hth _ (by omega) (by omega)
  refine jx_iload_n (pc := 13) C dX6_byHours_13 rfl ?_
  refine jx_iconst (pc := 14) C dX6_byHours_14 nc_3 ?_
  refine jx_icmp_ne (pc := 15) C (tgt := 26) dX6_byHours_15 (by decide) (fun c15 => ?_) (fun c15 => ?_)
  · rw [nI_eq (by omega) (by omega)] at c15
    refine jx_iload_n (pc := 26) C dX6_byHours_26 rfl ?_
    refine jx_if_ne (pc := 27) C (tgt := 35) dX6_byHours_27 (by decide) (fun c27 => ?_) (fun c27 => ?_)
    · rw [nI_eq0 (by omega)] at c27
      refine jx_iload_n (pc := 35) C dX6_byHours_35 rfl ?_
      refine jx_iconst (pc := 36) C dX6_byHours_36 nc_1 ?_
      refine jx_icmp_ne (pc := 37) C (tgt := 45) dX6_byHours_37 (by decide) (fun c37 => ?_) (fun c37 => ?_)
      · rw [nI_eq (by omega) (by omega)] at c37
        refine jx_iload_n (pc := 45) C dX6_byHours_45 rfl ?_
        refine jx_iconst (pc := 46) C dX6_byHours_46 nc_2 ?_
        refine jx_icmp_ne (pc := 47) C (tgt := 55) dX6_byHours_47 (by decide) (fun c47 => ?_) (fun c47 => ?_)
        · rw [nI_eq (by omega) (by omega)] at c47
          refine jx_bipush (pc := 55) C dX6_byHours_55 nb_8 ?_
          refine jx_istore_n (pc := 57) C dX6_byHours_57 (jset_3 jc_i) (by decide) ?_
          refine jx_aload_n (pc := 58) C dX6_byHours_58 rfl ?_
          refine jx_getP (pc := 59) C kf_X6_13 rfl hS.1 hP.2.1 dX6_byHours_59 ?_
          refine jx_iload_n (pc := 62) C dX6_byHours_62 rfl ?_
          refine jx_ialdv (pc := 63) C hS.2.2.1 (by omega) (by decide) ((congrFun mm_a _).trans (hEn _ (by decide)).symm) dX6_byHours_63 ?_
          refine jx_aload_n (pc := 64) C dX6_byHours_64 rfl ?_
          refine jx_getP (pc := 65) C kf_X6_7 rfl hS.1 hP.1 dX6_byHours_65 ?_
          refine jx_iload_n (pc := 68) C dX6_byHours_68 rfl ?_
          refine jx_ialdv (pc := 69) C hS.2.1 (by omega) (by decide) (congrFun hnow _) dX6_byHours_69 ?_
          refine jx_isub (pc := 70) C dX6_byHours_70 ?_
          exact jn_iret (pc := 71) C hr (⟨_, rfl, by
            unfold sbyH
            rw [if_neg c15]
            first
              | exact (if_pos c27).symm
              | (rw [if_neg c27]; first
                | exact (if_pos c37).symm
                | (rw [if_neg c37]; first | exact (if_pos c47).symm | exact (if_neg c47).symm)), hth, rfl, rfl⟩) dX6_byHours_71
        · rw [nI_eq (by omega) (by omega)] at c47
          refine jx_bipush (pc := 50) C dX6_byHours_50 nb_11 ?_
          refine jx_goto (pc := 52) C (tgt := 57) dX6_byHours_52 (by decide) ?_
          refine jx_istore_n (pc := 57) C dX6_byHours_57 (jset_3 jc_i) (by decide) ?_
          refine jx_aload_n (pc := 58) C dX6_byHours_58 rfl ?_
          refine jx_getP (pc := 59) C kf_X6_13 rfl hS.1 hP.2.1 dX6_byHours_59 ?_
          refine jx_iload_n (pc := 62) C dX6_byHours_62 rfl ?_
          refine jx_ialdv (pc := 63) C hS.2.2.1 (by omega) (by decide) ((congrFun mm_a _).trans (hEn _ (by decide)).symm) dX6_byHours_63 ?_
          refine jx_aload_n (pc := 64) C dX6_byHours_64 rfl ?_
          refine jx_getP (pc := 65) C kf_X6_7 rfl hS.1 hP.1 dX6_byHours_65 ?_
          refine jx_iload_n (pc := 68) C dX6_byHours_68 rfl ?_
          refine jx_ialdv (pc := 69) C hS.2.1 (by omega) (by decide) (congrFun hnow _) dX6_byHours_69 ?_
          refine jx_isub (pc := 70) C dX6_byHours_70 ?_
          exact jn_iret (pc := 71) C hr (⟨_, rfl, by
            unfold sbyH
            rw [if_neg c15]
            first
              | exact (if_pos c27).symm
              | (rw [if_neg c27]; first
                | exact (if_pos c37).symm
                | (rw [if_neg c37]; first | exact (if_pos c47).symm | exact (if_neg c47).symm)), hth, rfl, rfl⟩) dX6_byHours_71
      · rw [nI_eq (by omega) (by omega)] at c37
        refine jx_bipush (pc := 40) C dX6_byHours_40 nb_9 ?_
        refine jx_goto (pc := 42) C (tgt := 57) dX6_byHours_42 (by decide) ?_
        refine jx_istore_n (pc := 57) C dX6_byHours_57 (jset_3 jc_i) (by decide) ?_
        refine jx_aload_n (pc := 58) C dX6_byHours_58 rfl ?_
        refine jx_getP (pc := 59) C kf_X6_13 rfl hS.1 hP.2.1 dX6_byHours_59 ?_
        refine jx_iload_n (pc := 62) C dX6_byHours_62 rfl ?_
        refine jx_ialdv (pc := 63) C hS.2.2.1 (by omega) (by decide) ((congrFun mm_a _).trans (hEn _ (by decide)).symm) dX6_byHours_63 ?_
        refine jx_aload_n (pc := 64) C dX6_byHours_64 rfl ?_
        refine jx_getP (pc := 65) C kf_X6_7 rfl hS.1 hP.1 dX6_byHours_65 ?_
        refine jx_iload_n (pc := 68) C dX6_byHours_68 rfl ?_
        refine jx_ialdv (pc := 69) C hS.2.1 (by omega) (by decide) (congrFun hnow _) dX6_byHours_69 ?_
        refine jx_isub (pc := 70) C dX6_byHours_70 ?_
        exact jn_iret (pc := 71) C hr (⟨_, rfl, by
          unfold sbyH
          rw [if_neg c15]
          first
            | exact (if_pos c27).symm
            | (rw [if_neg c27]; first
              | exact (if_pos c37).symm
              | (rw [if_neg c37]; first | exact (if_pos c47).symm | exact (if_neg c47).symm)), hth, rfl, rfl⟩) dX6_byHours_71
    · rw [nI_eq0 (by omega)] at c27
      refine jx_bipush (pc := 30) C dX6_byHours_30 nb_7 ?_
      refine jx_goto (pc := 32) C (tgt := 57) dX6_byHours_32 (by decide) ?_
      refine jx_istore_n (pc := 57) C dX6_byHours_57 (jset_3 jc_i) (by decide) ?_
      refine jx_aload_n (pc := 58) C dX6_byHours_58 rfl ?_
      refine jx_getP (pc := 59) C kf_X6_13 rfl hS.1 hP.2.1 dX6_byHours_59 ?_
      refine jx_iload_n (pc := 62) C dX6_byHours_62 rfl ?_
      refine jx_ialdv (pc := 63) C hS.2.2.1 (by omega) (by decide) ((congrFun mm_a _).trans (hEn _ (by decide)).symm) dX6_byHours_63 ?_
      refine jx_aload_n (pc := 64) C dX6_byHours_64 rfl ?_
      refine jx_getP (pc := 65) C kf_X6_7 rfl hS.1 hP.1 dX6_byHours_65 ?_
      refine jx_iload_n (pc := 68) C dX6_byHours_68 rfl ?_
      refine jx_ialdv (pc := 69) C hS.2.1 (by omega) (by decide) (congrFun hnow _) dX6_byHours_69 ?_
      refine jx_isub (pc := 70) C dX6_byHours_70 ?_
      exact jn_iret (pc := 71) C hr (⟨_, rfl, by
        unfold sbyH
        rw [if_neg c15]
        first
          | exact (if_pos c27).symm
          | (rw [if_neg c27]; first
            | exact (if_pos c37).symm
            | (rw [if_neg c37]; first | exact (if_pos c47).symm | exact (if_neg c47).symm)), hth, rfl, rfl⟩) dX6_byHours_71
  · rw [nI_eq (by omega) (by omega)] at c15
    refine jx_aload_n (pc := 18) C dX6_byHours_18 rfl ?_
    refine jx_getP (pc := 19) C kf_X6_13 rfl hS.1 hP.2.1 dX6_byHours_19 ?_
    refine jx_callD (pc := 22) C (go_X6_170 C  (Nat.le_of_ble_eq_true rfl) dX6_byHours_22) (t_X6_debts hS.2.2.1) (by decide) (by decide) ⟨Nat.zero_le _, Nat.zero_le _⟩ ?_
    rw [mm_a]
    exact jn_iret (pc := 25) C hr (⟨_, rfl, by unfold sbyH; rw [if_pos c15]; exact (sE_debts hEn).symm, hth, rfl, rfl⟩) dX6_byHours_25
theorem t_X6_byHours {l : Launch} {D : va_G} {cA : Nat → ClassId} {N0 : Nat} {Sh : jS} {I : jI} {P : jP} {L : jL} {x : Nat} (hS : mS Sh x) (hP : mP P x) (hok : sOK (I (x + 1))) {n k : Nat} (hn : n < 1000) (hk : k ≤ 4) : jN l D cA N0 7 yX6_byHours cX6_byHours 4 (some .int) [.ref x, .int (nI n), .int (nI k)] Sh I P L (jNi (fun r I' P' L' => r = sbyH (I (x + 1)) n k ∧ mTh I x I' ∧ P' = P ∧ L' = L)) := jN_of (by decide) (Nat.le_of_ble_eq_true rfl) (fun _ _ _ _ _ _ _ _ C hr => b_X6_byHours C hr hS hP hok hn hk)
set_option maxHeartbeats 4000000 in
theorem b_X6_ifPassed {p : Program} {l : Launch} {e : Env} {s : State} {m : MethodId} {args : Array Value} {below : List Frame} {meth : Method} {c : Code} {D : va_G} {cA : Nat → ClassId} {N0 : Nat} {Sh : jS} {I : jI} {P : jP} {L : jL} (C : jC p (jRm 8 0 0) s m args meth c D cA N0 cX6_ifPassed 3 RX6 8) (hr : meth.sig.returnType = (some .int)) {x : Nat} (hS : mS Sh x) (hP : mP P x) (hok : sOK (I (x + 1))) {hv kv : Int32} : jJ p l e (jRm 8 0 0) s m args below meth c D cA N0 3 (MQ below (jQn D cA N0 Sh (mQu I P L x (sifP (I (x + 1)) hv kv))) args s 0 0 (fun q => N0 ≤ q)) (fun _ => True) Sh I P L 0 0 0 [some (.ref x), some (.int hv), some (.int kv)] [] := by
  have e0 : jst I x 6 (nI 0) (x + 1) = I (x + 1) := jst_ne (by omega)
  refine jx_aload_n (pc := 0) C dX6_ifPassed_0 rfl ?_
  refine jx_iconst (pc := 1) C dX6_ifPassed_1 nc_0 ?_
  refine jx_putI (pc := 2) C kf_X6_28 rfl rfl rfl rfl hS.1 dX6_ifPassed_2 ?_
  refine jx_iload_n (pc := 5) C dX6_ifPassed_5 rfl ?_
  refine jx_iconst (pc := 6) C dX6_ifPassed_6 nc_1 ?_
  refine jx_sipush (pc := 7) C dX6_ifPassed_7 ns_200 ?_
  refine jx_callD (pc := 10) C (go_X6_32 C  (Nat.le_of_ble_eq_true rfl) dX6_ifPassed_10) t_X6_in (by decide) (by decide) ⟨Nat.zero_le _, Nat.zero_le _⟩ ?_
  refine jx_if_eq (pc := 13) C (tgt := 34) dX6_ifPassed_13 (by decide) (fun c13 => ?_) (fun c13 => ?_)
  · rw [bI_0, decide_eq_false_iff_not] at c13
    refine jx_aload_n (pc := 34) C dX6_ifPassed_34 rfl ?_
    refine jx_iconst (pc := 35) C dX6_ifPassed_35 nc_1 ?_
    refine jx_callD (pc := 36) C (go_X6_39 C hS.1 (Nat.le_of_ble_eq_true rfl) dX6_ifPassed_36) (t_X6_fails hS.1) (by decide) (by decide) ⟨Nat.zero_le _, Nat.zero_le _⟩ ?_
    exact jn_iret (pc := 39) C hr (by first | exact mQu_okG (by unfold sifP; rw [if_pos c13, if_pos (nI_inn (by decide) hk), sW_N (by omega), sW_N (by omega)]) h6 hsm | exact mQu_fail (k := 1) (by unfold sifP; rw [if_neg c13]) (by decide) | exact mQu_fail (k := 1) (by unfold sifP; rw [if_pos c13, if_neg c22]) (by decide)) dX6_ifPassed_39
  · rw [bI_0, decide_eq_false_iff_not, Decidable.not_not] at c13
    refine jx_iload_n (pc := 16) C dX6_ifPassed_16 rfl ?_
    refine jx_iconst (pc := 17) C dX6_ifPassed_17 nc_0 ?_
    refine jx_iconst (pc := 18) C dX6_ifPassed_18 nc_4 ?_
    refine jx_callD (pc := 19) C (go_X6_32 C  (Nat.le_of_ble_eq_true rfl) dX6_ifPassed_19) t_X6_in (by decide) (by decide) ⟨Nat.zero_le _, Nat.zero_le _⟩ ?_
    refine jx_if_eq (pc := 22) C (tgt := 34) dX6_ifPassed_22 (by decide) (fun c22 => ?_) (fun c22 => ?_)
    · rw [bI_0, decide_eq_false_iff_not] at c22
      refine jx_aload_n (pc := 34) C dX6_ifPassed_34 rfl ?_
      refine jx_iconst (pc := 35) C dX6_ifPassed_35 nc_1 ?_
      refine jx_callD (pc := 36) C (go_X6_39 C hS.1 (Nat.le_of_ble_eq_true rfl) dX6_ifPassed_36) (t_X6_fails hS.1) (by decide) (by decide) ⟨Nat.zero_le _, Nat.zero_le _⟩ ?_
      exact jn_iret (pc := 39) C hr (by first | exact mQu_okG (by unfold sifP; rw [if_pos c13, if_pos (nI_inn (by decide) hk), sW_N (by omega), sW_N (by omega)]) h6 hsm | exact mQu_fail (k := 1) (by unfold sifP; rw [if_neg c13]) (by decide) | exact mQu_fail (k := 1) (by unfold sifP; rw [if_pos c13, if_neg c22]) (by decide)) dX6_ifPassed_39
    · rw [bI_0, decide_eq_false_iff_not, Decidable.not_not] at c22
      obtain ⟨n, hn1, hn, rfl⟩ := in1_N (by decide) c13
      obtain ⟨k, hk, rfl⟩ := in_N (by decide) c22
      refine jx_aload_n (pc := 25) C dX6_ifPassed_25 rfl ?_
      refine jx_iload_n (pc := 26) C dX6_ifPassed_26 rfl ?_
      refine jx_iload_n (pc := 27) C dX6_ifPassed_27 rfl ?_
      refine jx_calli (pc := 28) C (go_X6_184 C hS.1 (Nat.le_of_ble_eq_true rfl) dX6_ifPassed_28) (t_X6_byHours hS hP (by rw [e0]; exact hok) (by omega) hk) (by decide) (by decide) ⟨Nat.zero_le _, Nat.zero_le _⟩ (fun r28 I28 P28 L28 q28 => ?_)
      obtain ⟨hr28, hth28, rfl, rfl⟩ := q28
      rw [hr28, e0]
      have h6 : I28 x 6 = nI 0 := by rw [hth28 x (by omega) (by omega), jst_eq, upd_s]
      have hsm := mTh.same (mSame_t (v := nI 0)) hth28
      refine jx_goto (pc := 31) C (tgt := 39) dX6_ifPassed_31 (by decide) ?_
      exact jn_iret (pc := 39) C hr (by first | exact mQu_okG (by unfold sifP; rw [if_pos c13, if_pos (nI_inn (by decide) hk), sW_N (by omega), sW_N (by omega)]) h6 hsm | exact mQu_fail (k := 1) (by unfold sifP; rw [if_neg c13]) (by decide) | exact mQu_fail (k := 1) (by unfold sifP; rw [if_pos c13, if_neg c22]) (by decide)) dX6_ifPassed_39
theorem t_X6_ifPassed {l : Launch} {D : va_G} {cA : Nat → ClassId} {N0 : Nat} {Sh : jS} {I : jI} {P : jP} {L : jL} {x : Nat} (hS : mS Sh x) (hP : mP P x) (hok : sOK (I (x + 1))) {hv kv : Int32} : jN l D cA N0 8 yX6_ifPassed cX6_ifPassed 3 (some .int) [.ref x, .int hv, .int kv] Sh I P L (mQu I P L x (sifP (I (x + 1)) hv kv)) := jN_of (by decide) (Nat.le_of_ble_eq_true rfl) (fun _ _ _ _ _ _ _ _ C hr => b_X6_ifPassed C hr hS hP hok)
set_option maxHeartbeats 4000000 in
theorem lp_X6_behind {p : Program} {l : Launch} {e : Env} {s : State} {m : MethodId} {args : Array Value} {below : List Frame} {meth : Method} {c : Code} {D : va_G} {cA : Nat → ClassId} {N0 : Nat} {Sh : jS} {I : jI} {P : jP} {L : jL} {Qf : State → Prop} (C : jC p (jRm 6 0 0) s m args meth c D cA N0 cX6_behind 3 RX6 6) {J0 : jI} {x : Nat} (hS : mS Sh x) (hP : mP P x) {num : Int32} {f t0 : sF} (hE0 : sE f t0) (hokf : sOK f) (hx : sfst (sgone f num) 200 = none → ∀ I2, mTh J0 x I2 → jJ p l e (jRm 6 0 0) s m args below meth c D cA N0 3 Qf (fun _ => True) Sh I2 P L 0 0 41 [some (.ref x), some (.int num), some (.int (nI (201)))] []) (hy : ∀ i, i < 200 → sfst (sgone f num) 200 = some i → ∀ I2, mTh J0 x I2 → jJ p l e (jRm 6 0 0) s m args below meth c D cA N0 3 Qf (fun _ => True) Sh I2 P L 0 0 33 [some (.ref x), some (.int num), some (.int (nI (i + 1)))] []) : ∀ d i I2, i + d = 200 → sfst (sgone f num) i = none → mTh J0 x I2 → I2 (x + 2) = shours t0 i → jJ p l e (jRm 6 0 0) s m args below meth c D cA N0 3 Qf (fun _ => True) Sh I2 P L 0 0 6 [some (.ref x), some (.int num), some (.int (nI (i + 1)))] [] := by
  intro d
  induction d with
  | zero =>
    intro i I2 hi hf hth hr
    obtain rfl : i = 200 := by omega
    refine jx_iload_n (pc := 6) C dX6_behind_6 rfl ?_
    refine jx_sipush (pc := 7) C dX6_behind_7 ns_200 ?_
    refine jx_icmp_gt (pc := 10) C (tgt := 41) dX6_behind_10 (by decide) (fun c10 => ?_) (fun c10 => (by rw [nI_ltI (by omega) (by omega)] at c10; exfalso; omega))
    rw [nI_ltI (by omega) (by omega)] at c10
    exact hx hf I2 hth
  | succ d ih =>
    intro i I2 hi hf hth hr
    have hokt := shours_OK (sE_OK hE0 hokf) i
    have hokt2 := shour_OK hokt
    have hEi := sE_hours hE0 hokf (i + 1)
    refine jx_iload_n (pc := 6) C dX6_behind_6 rfl ?_
    refine jx_sipush (pc := 7) C dX6_behind_7 ns_200 ?_
    refine jx_icmp_gt (pc := 10) C (tgt := 41) dX6_behind_10 (by decide) (fun c10 => (by rw [nI_ltI (by omega) (by omega)] at c10; exfalso; omega)) (fun c10 => ?_)
    rw [nI_ltI (by omega) (by omega)] at c10
    refine jx_aload_n (pc := 13) C dX6_behind_13 rfl ?_
    refine jx_aload_n (pc := 14) C dX6_behind_14 rfl ?_
    refine jx_getP (pc := 15) C kf_X6_13 rfl hS.1 hP.2.1 dX6_behind_15 ?_
    refine jx_callv (pc := 18) C (go_X6_99 C hS.1 (Nat.le_of_ble_eq_true rfl) dX6_behind_18) (t_X6_hour hS hP hS.2.2.1 (by omega) (by rw [hr]; exact hokt)) (by decide) (by decide) ⟨Nat.zero_le _, Nat.zero_le _⟩ (fun I18 P18 L18 q18 => ?_)
    obtain ⟨⟨d18, rfl⟩, rfl, rfl⟩ := q18
    rw [hr]
    have hth2 : mTh J0 x (mm I2 x (x + 2) d18 (shour (shours t0 i))) := hth.tr (fun b h1 h2 => by unfold mm; rw [va_up_n h1, va_up_n h2])
    refine jx_aload_n (pc := 21) C dX6_behind_21 rfl ?_
    refine jx_getP (pc := 22) C kf_X6_13 rfl hS.1 hP.2.1 dX6_behind_22 ?_
    refine jx_iload_n (pc := 25) C dX6_behind_25 rfl ?_
    refine jx_callD (pc := 26) C (go_X6_118 C  (Nat.le_of_ble_eq_true rfl) dX6_behind_26) (t_X6_placeOf hS.2.2.1 (by rw [mm_a]; exact hokt2.1) (by rw [mm_a]; exact hokt2.2.1)) (by decide) (by decide) ⟨Nat.zero_le _, Nat.zero_le _⟩ ?_
    rw [mm_a]
    have hgo : sgone f num i = (splace (shour (shours t0 i)) num).isNone := by
      unfold sgone
      rw [sE_place hEi (shours_OK hokf (i + 1)).2.1]
      rfl
    cases hq : splace (shour (shours t0 i)) num with
    | none =>
      refine jx_top C (show Value.int (oI none) = .int (-1 : Int32) from rfl) ?_
      refine jx_iconst (pc := 29) C dX6_behind_29 nc_m1 ?_
      refine jx_icmp_ne (pc := 30) C (tgt := 35) dX6_behind_30 (by decide) (fun c30 => (by exfalso; revert c30; decide)) (fun c30 => ?_)
      exact hy i (by omega) (by have h := sfst_up (sfst_hit hf (by rw [hgo, hq]; rfl)) d; rwa [show i + 1 + d = 200 by omega] at h) _ hth2
    | some o =>
      obtain ⟨hq1, hq2⟩ := sfst_lt hq
      have hk10 := hokt2.2.1
      refine jx_top C (show Value.int (oI (some o)) = .int (nI o) from rfl) ?_
      refine jx_iconst (pc := 29) C dX6_behind_29 nc_m1 ?_
      refine jx_icmp_ne (pc := 30) C (tgt := 35) dX6_behind_30 (by decide) (fun c30 => ?_) (fun c30 => (by exfalso; rw [nI_m1 (by omega)] at c30; exact c30))
      refine jx_iincN (pc := 35) C dX6_behind_35 rfl (jset_2 jc_i) (by decide) ?_
      refine jx_goto (pc := 38) C (tgt := 6) dX6_behind_38 (by decide) ?_
      exact ih (i + 1) _ (by omega) (sfst_miss hf (fun h => by rw [hgo, hq] at h; cases h)) hth2 mm_a
set_option maxHeartbeats 4000000 in
theorem b_X6_behind {p : Program} {l : Launch} {e : Env} {s : State} {m : MethodId} {args : Array Value} {below : List Frame} {meth : Method} {c : Code} {D : va_G} {cA : Nat → ClassId} {N0 : Nat} {Sh : jS} {I : jI} {P : jP} {L : jL} (C : jC p (jRm 6 0 0) s m args meth c D cA N0 cX6_behind 3 RX6 6) (hr : meth.sig.returnType = (some .int)) {x : Nat} (hS : mS Sh x) (hP : mP P x) (hok : sOK (I (x + 1))) {num : Int32} : jJ p l e (jRm 6 0 0) s m args below meth c D cA N0 3 (MQ below (jQn D cA N0 Sh (jNi (fun r I' P' L' => r = sbehind (I (x + 1)) num ∧ mTh I x I' ∧ P' = P ∧ L' = L))) args s 0 0 (fun q => N0 ≤ q)) (fun _ => True) Sh I P L 0 0 0 [some (.ref x), some (.int num), none] [] := by
  refine jx_aload_n (pc := 0) C dX6_behind_0 rfl ?_
  refine jx_callDv (pc := 1) C (go_X6_181 C hS.1 (Nat.le_of_ble_eq_true rfl) dX6_behind_1) (t_X6_tries hS hP) (by decide) (by decide) ⟨Nat.zero_le _, Nat.zero_le _⟩ ?_
  have hE0 : sE (I (x + 1)) (cpy (I (x + 2)) (I (x + 1)) 0 0 210) := sE_cpy.sy
  have hok0 := sE_OK hE0 hok
  generalize (cpy (I (x + 2)) (I (x + 1)) 0 0 210) = t0 at hE0 hok0 ⊢
  refine jx_iconst (pc := 4) C dX6_behind_4 nc_1 ?_
  refine jx_istore_n (pc := 5) C dX6_behind_5 (jset_2 jc_i) (by decide) ?_
  refine lp_X6_behind (I := I) (J0 := I) (f := I (x + 1)) C hS hP hE0 hok (fun hn I2 hth => ?_) (fun i hi hn I2 hth => ?_) 200 0 _ (Nat.zero_add _) rfl (fun b h1 h2 => va_up_n h1) va_up_s
  · refine jx_iconst (pc := 41) C dX6_behind_41 nc_m1 ?_
    exact jn_iret (pc := 42) C hr (⟨_, rfl, by unfold sbehind; rw [hn], hth, rfl, rfl⟩) dX6_behind_42
  · refine jx_iload_n (pc := 33) C dX6_behind_33 rfl ?_
    exact jn_iret (pc := 34) C hr (⟨_, rfl, by unfold sbehind; rw [hn], hth, rfl, rfl⟩) dX6_behind_34
theorem t_X6_behind {l : Launch} {D : va_G} {cA : Nat → ClassId} {N0 : Nat} {Sh : jS} {I : jI} {P : jP} {L : jL} {x : Nat} (hS : mS Sh x) (hP : mP P x) (hok : sOK (I (x + 1))) {num : Int32} : jN l D cA N0 6 yX6_behind cX6_behind 3 (some .int) [.ref x, .int num] Sh I P L (jNi (fun r I' P' L' => r = sbehind (I (x + 1)) num ∧ mTh I x I' ∧ P' = P ∧ L' = L)) := jN_of (by decide) (Nat.le_of_ble_eq_true rfl) (fun _ _ _ _ _ _ _ _ C hr => b_X6_behind C hr hS hP hok)
set_option maxHeartbeats 4000000 in
theorem b_X6_doneIn {p : Program} {l : Launch} {e : Env} {s : State} {m : MethodId} {args : Array Value} {below : List Frame} {meth : Method} {c : Code} {D : va_G} {cA : Nat → ClassId} {N0 : Nat} {Sh : jS} {I : jI} {P : jP} {L : jL} (C : jC p (jRm 7 0 0) s m args meth c D cA N0 cX6_doneIn 2 RX6 7) (hr : meth.sig.returnType = (some .int)) {x : Nat} (hS : mS Sh x) (hP : mP P x) (hok : sOK (I (x + 1))) {num : Int32} : jJ p l e (jRm 7 0 0) s m args below meth c D cA N0 2 (MQ below (jQn D cA N0 Sh (mQu I P L x (sdoneIn (I (x + 1)) num))) args s 0 0 (fun q => N0 ≤ q)) (fun _ => True) Sh I P L 0 0 0 [some (.ref x), some (.int num)] [] := by
  have e0 : jst I x 6 (nI 0) (x + 1) = I (x + 1) := jst_ne (by omega)
  refine jx_aload_n (pc := 0) C dX6_doneIn_0 rfl ?_
  refine jx_iconst (pc := 1) C dX6_doneIn_1 nc_0 ?_
  refine jx_putI (pc := 2) C kf_X6_28 rfl rfl rfl rfl hS.1 dX6_doneIn_2 ?_
  refine jx_aload_n (pc := 5) C dX6_doneIn_5 rfl ?_
  refine jx_getP (pc := 6) C kf_X6_7 rfl hS.1 hP.1 dX6_doneIn_6 ?_
  refine jx_iload_n (pc := 9) C dX6_doneIn_9 rfl ?_
  refine jx_callD (pc := 10) C (go_X6_118 C  (Nat.le_of_ble_eq_true rfl) dX6_doneIn_10) (t_X6_placeOf hS.2.1 (by rw [e0]; exact hok.1) (by rw [e0]; exact hok.2.1)) (by decide) (by decide) ⟨Nat.zero_le _, Nat.zero_le _⟩ ?_
  rw [e0]
  cases hq : splace (I (x + 1)) num with
  | none =>
    refine jx_top C (show Value.int (oI none) = .int (-1 : Int32) from rfl) ?_
    refine jx_iconst (pc := 13) C dX6_doneIn_13 nc_m1 ?_
    refine jx_icmp_eq (pc := 14) C (tgt := 25) dX6_doneIn_14 (by decide) (fun c14 => ?_) (fun c14 => (by exfalso; revert c14; decide))
    refine jx_aload_n (pc := 25) C dX6_doneIn_25 rfl ?_
    refine jx_iconst (pc := 26) C dX6_doneIn_26 nc_1 ?_
    refine jx_callD (pc := 27) C (go_X6_39 C hS.1 (Nat.le_of_ble_eq_true rfl) dX6_doneIn_27) (t_X6_fails hS.1) (by decide) (by decide) ⟨Nat.zero_le _, Nat.zero_le _⟩ ?_
    exact jn_iret (pc := 30) C hr (mQu_fail (k := 1) (by unfold sdoneIn; rw [hq]) (by decide)) dX6_doneIn_30
  | some o =>
    obtain ⟨hq1, hq2⟩ := sfst_lt hq
    have hk10 := hok.2.1
    refine jx_top C (show Value.int (oI (some o)) = .int (nI o) from rfl) ?_
    refine jx_iconst (pc := 13) C dX6_doneIn_13 nc_m1 ?_
    refine jx_icmp_eq (pc := 14) C (tgt := 25) dX6_doneIn_14 (by decide) (fun c14 => (by exfalso; rw [nI_m1 (by omega)] at c14; exact c14)) (fun c14 => ?_)
    refine jx_aload_n (pc := 17) C dX6_doneIn_17 rfl ?_
    refine jx_iload_n (pc := 18) C dX6_doneIn_18 rfl ?_
    refine jx_calli (pc := 19) C (go_X6_187 C hS.1 (Nat.le_of_ble_eq_true rfl) dX6_doneIn_19) (t_X6_behind hS hP (by rw [e0]; exact hok)) (by decide) (by decide) ⟨Nat.zero_le _, Nat.zero_le _⟩ (fun r19 I19 P19 L19 q19 => ?_)
    obtain ⟨hr19, hth19, rfl, rfl⟩ := q19
    rw [hr19, e0]
    have h6 : I19 x 6 = nI 0 := by rw [hth19 x (by omega) (by omega), jst_eq, upd_s]
    have hsm := mTh.same (mSame_t (v := nI 0)) hth19
    refine jx_goto (pc := 22) C (tgt := 30) dX6_doneIn_22 (by decide) ?_
    exact jn_iret (pc := 30) C hr (mQu_okG (by unfold sdoneIn; rw [hq]) h6 hsm) dX6_doneIn_30
theorem t_X6_doneIn {l : Launch} {D : va_G} {cA : Nat → ClassId} {N0 : Nat} {Sh : jS} {I : jI} {P : jP} {L : jL} {x : Nat} (hS : mS Sh x) (hP : mP P x) (hok : sOK (I (x + 1))) {num : Int32} : jN l D cA N0 7 yX6_doneIn cX6_doneIn 2 (some .int) [.ref x, .int num] Sh I P L (mQu I P L x (sdoneIn (I (x + 1)) num)) := jN_of (by decide) (Nat.le_of_ble_eq_true rfl) (fun _ _ _ _ _ _ _ _ C hr => b_X6_doneIn C hr hS hP hok)
set_option maxHeartbeats 4000000 in
theorem lp_X6_best {p : Program} {l : Launch} {e : Env} {s : State} {m : MethodId} {args : Array Value} {below : List Frame} {meth : Method} {c : Code} {D : va_G} {cA : Nat → ClassId} {N0 : Nat} {Sh : jS} {I : jI} {P : jP} {L : jL} {Qf : State → Prop} (C : jC p (jRm 7 0 0) s m args meth c D cA N0 cX6_best 7 RX6 7) {J0 : jI} {x : Nat} (hS : mS Sh x) (hP : mP P x) {n : Nat} (hn : n < 1000) {f : sF} (hokf : sOK f) (hx : ∀ I2 v, mTh J0 x I2 → jJ p l e (jRm 7 0 0) s m args below meth c D cA N0 7 Qf (fun _ => True) Sh I2 P L 0 0 137 [some (.ref x), some (.int (nI n)), some (.int ((sbestN f n 3).1)), some (.int ((sbestN f n 3).2.1)), some (.int ((sbestN f n 3).2.2)), some (.int (nI 3)), v] []) : ∀ d r I2 v, r + d = 3 → mTh J0 x I2 → I2 (x + 1) = f → jJ p l e (jRm 7 0 0) s m args below meth c D cA N0 7 Qf (fun _ => True) Sh I2 P L 0 0 10 [some (.ref x), some (.int (nI n)), some (.int ((sbestN f n r).1)), some (.int ((sbestN f n r).2.1)), some (.int ((sbestN f n r).2.2)), some (.int (nI r)), v] [] := by
  intro d
  induction d with
  | zero =>
    intro r I2 v hr hth hnow
    obtain rfl : r = 3 := by omega
    refine jx_iload (pc := 10) C dX6_best_10 rfl ?_
    refine jx_iconst (pc := 12) C dX6_best_12 nc_3 ?_
    refine jx_icmp_ge (pc := 13) C (tgt := 137) dX6_best_13 (by decide) (fun c13 => ?_) (fun c13 => (by rw [nI_leI (by omega) (by omega)] at c13; exfalso; omega))
    rw [nI_leI (by omega) (by omega)] at c13
    exact hx I2 _ hth
  | succ d ih =>
    intro r I2 v hr hth hnow
    have key : ∀ I3 : jI, I3 (x + 1) = f → mTh J0 x I3 → sE (shours (upd f 0 (nI r)) n) (I3 (x + 2)) → ∀ b : Bool, (b = true ↔ ((sbestN f n r).1 = -1 ∨ (sbestN f n r).2.1 < shours (upd f 0 (nI r)) n 9 ∨ (shours (upd f 0 (nI r)) n 9 = (sbestN f n r).2.1 ∧ shours (upd f 0 (nI r)) n 8 < (sbestN f n r).2.2))) → jJ p l e (jRm 7 0 0) s m args below meth c D cA N0 7 Qf (fun _ => True) Sh I3 P L 0 0 81 [some (.ref x), some (.int (nI n)), some (.int ((sbestN f n r).1)), some (.int ((sbestN f n r).2.1)), some (.int ((sbestN f n r).2.2)), some (.int (nI r)), v] [.int (bI b)] := by
      intro I3 hn3 hth3 hE3 b hb
      have e9 : I3 (x + 2) 9 = shours (upd f 0 (nI r)) n 9 := (hE3 9 (by decide)).symm
      have e8 : I3 (x + 2) 8 = shours (upd f 0 (nI r)) n 8 := (hE3 8 (by decide)).symm
      cases b with
      | true =>
        have hs : sbestN f n (r + 1) = (nI r, shours (upd f 0 (nI r)) n 9, shours (upd f 0 (nI r)) n 8) := if_pos (hb.mp rfl)
        have h4 := ih (r + 1) I3 (some (.int (nI 1))) (by omega) hth3 hn3
        rw [hs] at h4
        refine jx_top C (show Value.int (bI true) = .int (nI 1) from rfl) ?_
        refine jx_istore (pc := 81) C dX6_best_81 (jset_6 jc_i) (by decide) ?_
        refine jx_iload (pc := 83) C dX6_best_83 rfl ?_
        refine jx_if_eq (pc := 85) C (tgt := 93) dX6_best_85 (by decide) (fun c85 => (by exfalso; revert c85; decide)) (fun c85 => ?_)
        refine jx_iload (pc := 88) C dX6_best_88 rfl ?_
        refine jx_goto (pc := 90) C (tgt := 94) dX6_best_90 (by decide) ?_
        refine jx_istore_n (pc := 94) C dX6_best_94 (jset_2 jc_i) (by decide) ?_
        refine jx_iload (pc := 95) C dX6_best_95 rfl ?_
        refine jx_if_eq (pc := 97) C (tgt := 110) dX6_best_97 (by decide) (fun c97 => (by exfalso; revert c97; decide)) (fun c97 => ?_)
        refine jx_aload_n (pc := 100) C dX6_best_100 rfl ?_
        refine jx_getP (pc := 101) C kf_X6_13 rfl hS.1 hP.2.1 dX6_best_101 ?_
        refine jx_bipush (pc := 104) C dX6_best_104 nb_9 ?_
        refine jx_ialdv (pc := 106) C hS.2.2.1 (by omega) (by decide) e9 dX6_best_106 ?_
        refine jx_goto (pc := 107) C (tgt := 111) dX6_best_107 (by decide) ?_
        refine jx_istore_n (pc := 111) C dX6_best_111 (jset_3 jc_i) (by decide) ?_
        refine jx_iload (pc := 112) C dX6_best_112 rfl ?_
        refine jx_if_eq (pc := 114) C (tgt := 127) dX6_best_114 (by decide) (fun c114 => (by exfalso; revert c114; decide)) (fun c114 => ?_)
        refine jx_aload_n (pc := 117) C dX6_best_117 rfl ?_
        refine jx_getP (pc := 118) C kf_X6_13 rfl hS.1 hP.2.1 dX6_best_118 ?_
        refine jx_bipush (pc := 121) C dX6_best_121 nb_8 ?_
        refine jx_ialdv (pc := 123) C hS.2.2.1 (by omega) (by decide) e8 dX6_best_123 ?_
        refine jx_goto (pc := 124) C (tgt := 129) dX6_best_124 (by decide) ?_
        refine jx_istore (pc := 129) C dX6_best_129 (jset_4 jc_i) (by decide) ?_
        refine jx_iincN (pc := 131) C dX6_best_131 rfl (jset_5 jc_i) (by decide) ?_
        refine jx_goto (pc := 134) C (tgt := 10) dX6_best_134 (by decide) ?_
        exact h4
      | false =>
        have hs : sbestN f n (r + 1) = sbestN f n r := if_neg (fun h => Bool.noConfusion (hb.mpr h))
        have h4 := ih (r + 1) I3 (some (.int (nI 0))) (by omega) hth3 hn3
        rw [hs] at h4
        refine jx_top C (show Value.int (bI false) = .int (nI 0) from rfl) ?_
        refine jx_istore (pc := 81) C dX6_best_81 (jset_6 jc_i) (by decide) ?_
        refine jx_iload (pc := 83) C dX6_best_83 rfl ?_
        refine jx_if_eq (pc := 85) C (tgt := 93) dX6_best_85 (by decide) (fun c85 => ?_) (fun c85 => (by exfalso; revert c85; decide))
        refine jx_iload_n (pc := 93) C dX6_best_93 rfl ?_
        refine jx_istore_n (pc := 94) C dX6_best_94 (jset_2 jc_i) (by decide) ?_
        refine jx_iload (pc := 95) C dX6_best_95 rfl ?_
        refine jx_if_eq (pc := 97) C (tgt := 110) dX6_best_97 (by decide) (fun c97 => ?_) (fun c97 => (by exfalso; revert c97; decide))
        refine jx_iload_n (pc := 110) C dX6_best_110 rfl ?_
        refine jx_istore_n (pc := 111) C dX6_best_111 (jset_3 jc_i) (by decide) ?_
        refine jx_iload (pc := 112) C dX6_best_112 rfl ?_
        refine jx_if_eq (pc := 114) C (tgt := 127) dX6_best_114 (by decide) (fun c114 => ?_) (fun c114 => (by exfalso; revert c114; decide))
        refine jx_iload (pc := 127) C dX6_best_127 rfl ?_
        refine jx_istore (pc := 129) C dX6_best_129 (jset_4 jc_i) (by decide) ?_
        refine jx_iincN (pc := 131) C dX6_best_131 rfl (jset_5 jc_i) (by decide) ?_
        refine jx_goto (pc := 134) C (tgt := 10) dX6_best_134 (by decide) ?_
        exact h4
    refine jx_iload (pc := 10) C dX6_best_10 rfl ?_
    refine jx_iconst (pc := 12) C dX6_best_12 nc_3 ?_
    refine jx_icmp_ge (pc := 13) C (tgt := 137) dX6_best_13 (by decide) (fun c13 => (by rw [nI_leI (by omega) (by omega)] at c13; exfalso; omega)) (fun c13 => ?_)
    rw [nI_leI (by omega) (by omega)] at c13
    refine jx_aload_n (pc := 16) C dX6_best_16 rfl ?_
    refine jx_callDv (pc := 17) C (go_X6_181 C hS.1 (Nat.le_of_ble_eq_true rfl) dX6_best_17) (t_X6_tries hS hP) (by decide) (by decide) ⟨Nat.zero_le _, Nat.zero_le _⟩ ?_
    refine jx_aload_n (pc := 20) C dX6_best_20 rfl ?_
    refine jx_getP (pc := 21) C kf_X6_13 rfl hS.1 hP.2.1 dX6_best_21 ?_
    refine jx_iconst (pc := 24) C dX6_best_24 nc_0 ?_
    refine jx_iload (pc := 25) C dX6_best_25 rfl ?_
    refine jx_iast (pc := 27) C hS.2.2.1 (by omega) (by decide) dX6_best_27 ?_
    rw [jst_up]
    have hE0 : sE (upd f 0 (nI r)) (upd (cpy (I2 (x + 2)) (I2 (x + 1)) 0 0 210) 0 (nI r)) := sE.up (by rw [hnow]; exact sE_cpy.sy) rfl
    have hok0 := sE_OK hE0 (sOK_0 hokf)
    generalize upd (cpy (I2 (x + 2)) (I2 (x + 1)) 0 0 210) 0 (nI r) = t0 at hE0 hok0 ⊢
    refine jx_aload_n (pc := 28) C dX6_best_28 rfl ?_
    refine jx_aload_n (pc := 29) C dX6_best_29 rfl ?_
    refine jx_getP (pc := 30) C kf_X6_13 rfl hS.1 hP.2.1 dX6_best_30 ?_
    refine jx_iload_n (pc := 33) C dX6_best_33 rfl ?_
    refine jx_callv (pc := 34) C (go_X6_121 C hS.1 (Nat.le_of_ble_eq_true rfl) dX6_best_34) (t_X6_hours hS hP hS.2.2.1 (by omega) (by rw [va_up_s]; exact hok0) hn) (by decide) (by decide) ⟨Nat.zero_le _, Nat.zero_le _⟩ (fun I34 P34 L34 q34 => ?_)
    obtain ⟨⟨d34, rfl⟩, rfl, rfl⟩ := q34
    rw [va_up_s]
    have hE3 := sE_hours hE0 (sOK_0 hokf) n
    have key2 := key (mm (va_up I2 (x + 2) t0) x (x + 2) d34 (shours t0 n)) (by unfold mm; rw [va_up_n (by omega), va_up_n (by omega), va_up_n (by omega)]; exact hnow) (hth.tr (fun b h1 h2 => by unfold mm; rw [va_up_n h1, va_up_n h2, va_up_n h1])) (by rw [mm_a]; exact hE3)
    have e9 : mm (va_up I2 (x + 2) t0) x (x + 2) d34 (shours t0 n) (x + 2) 9 = shours (upd f 0 (nI r)) n 9 := by rw [mm_a]; exact (hE3 9 (by decide)).symm
    have e8 : mm (va_up I2 (x + 2) t0) x (x + 2) d34 (shours t0 n) (x + 2) 8 = shours (upd f 0 (nI r)) n 8 := by rw [mm_a]; exact (hE3 8 (by decide)).symm
    refine jx_iload_n (pc := 37) C dX6_best_37 rfl ?_
    refine jx_iconst (pc := 38) C dX6_best_38 nc_m1 ?_
    refine jx_icmp_eq (pc := 39) C (tgt := 76) dX6_best_39 (by decide) (fun c39 => ?_) (fun c39 => ?_)
    · refine jx_iconst (pc := 76) C dX6_best_76 nc_1 ?_
      refine jx_goto (pc := 77) C (tgt := 81) dX6_best_77 (by decide) ?_
      exact key2 true ⟨fun _ => by first | exact Or.inl c39 | exact Or.inr (Or.inl c50) | exact Or.inr (Or.inr ⟨c61, i32_nle.mp c73⟩), fun _ => rfl⟩
    · refine jx_aload_n (pc := 42) C dX6_best_42 rfl ?_
      refine jx_getP (pc := 43) C kf_X6_13 rfl hS.1 hP.2.1 dX6_best_43 ?_
      refine jx_bipush (pc := 46) C dX6_best_46 nb_9 ?_
      refine jx_ialdv (pc := 48) C hS.2.2.1 (by omega) (by decide) e9 dX6_best_48 ?_
      refine jx_iload_n (pc := 49) C dX6_best_49 rfl ?_
      refine jx_icmp_gt (pc := 50) C (tgt := 76) dX6_best_50 (by decide) (fun c50 => ?_) (fun c50 => ?_)
      · refine jx_iconst (pc := 76) C dX6_best_76 nc_1 ?_
        refine jx_goto (pc := 77) C (tgt := 81) dX6_best_77 (by decide) ?_
        exact key2 true ⟨fun _ => by first | exact Or.inl c39 | exact Or.inr (Or.inl c50) | exact Or.inr (Or.inr ⟨c61, i32_nle.mp c73⟩), fun _ => rfl⟩
      · refine jx_aload_n (pc := 53) C dX6_best_53 rfl ?_
        refine jx_getP (pc := 54) C kf_X6_13 rfl hS.1 hP.2.1 dX6_best_54 ?_
        refine jx_bipush (pc := 57) C dX6_best_57 nb_9 ?_
        refine jx_ialdv (pc := 59) C hS.2.2.1 (by omega) (by decide) e9 dX6_best_59 ?_
        refine jx_iload_n (pc := 60) C dX6_best_60 rfl ?_
        refine jx_icmp_ne (pc := 61) C (tgt := 80) dX6_best_61 (by decide) (fun c61 => ?_) (fun c61 => ?_)
        · refine jx_iconst (pc := 80) C dX6_best_80 nc_0 ?_
          exact key2 false ⟨fun h => Bool.noConfusion h, fun h => by
            exfalso
            rcases h with h | h | ⟨h, h'⟩
            · exact c39 h
            · exact c50 h
            · first | exact c61 h | exact i32_nlt.mpr c73 h'⟩
        · refine jx_aload_n (pc := 64) C dX6_best_64 rfl ?_
          refine jx_getP (pc := 65) C kf_X6_13 rfl hS.1 hP.2.1 dX6_best_65 ?_
          refine jx_bipush (pc := 68) C dX6_best_68 nb_8 ?_
          refine jx_ialdv (pc := 70) C hS.2.2.1 (by omega) (by decide) e8 dX6_best_70 ?_
          refine jx_iload (pc := 71) C dX6_best_71 rfl ?_
          refine jx_icmp_ge (pc := 73) C (tgt := 80) dX6_best_73 (by decide) (fun c73 => ?_) (fun c73 => ?_)
          · refine jx_iconst (pc := 80) C dX6_best_80 nc_0 ?_
            exact key2 false ⟨fun h => Bool.noConfusion h, fun h => by
              exfalso
              rcases h with h | h | ⟨h, h'⟩
              · exact c39 h
              · exact c50 h
              · first | exact c61 h | exact i32_nlt.mpr c73 h'⟩
          · refine jx_iconst (pc := 76) C dX6_best_76 nc_1 ?_
            refine jx_goto (pc := 77) C (tgt := 81) dX6_best_77 (by decide) ?_
            exact key2 true ⟨fun _ => by first | exact Or.inl c39 | exact Or.inr (Or.inl c50) | exact Or.inr (Or.inr ⟨c61, i32_nle.mp c73⟩), fun _ => rfl⟩
set_option maxHeartbeats 4000000 in
theorem b_X6_best {p : Program} {l : Launch} {e : Env} {s : State} {m : MethodId} {args : Array Value} {below : List Frame} {meth : Method} {c : Code} {D : va_G} {cA : Nat → ClassId} {N0 : Nat} {Sh : jS} {I : jI} {P : jP} {L : jL} (C : jC p (jRm 7 0 0) s m args meth c D cA N0 cX6_best 7 RX6 7) (hr : meth.sig.returnType = (some .int)) {x : Nat} (hS : mS Sh x) (hP : mP P x) (hok : sOK (I (x + 1))) {n : Nat} (hn : n < 1000) : jJ p l e (jRm 7 0 0) s m args below meth c D cA N0 7 (MQ below (jQn D cA N0 Sh (jNi (fun r I' P' L' => r = sbest (I (x + 1)) n ∧ mTh I x I' ∧ P' = P ∧ L' = L))) args s 0 0 (fun q => N0 ≤ q)) (fun _ => True) Sh I P L 0 0 0 [some (.ref x), some (.int (nI n)), none, none, none, none, none] [] := by
  refine jx_iconst (pc := 0) C dX6_best_0 nc_m1 ?_
  refine jx_istore_n (pc := 1) C dX6_best_1 (jset_2 jc_i) (by decide) ?_
  refine jx_iconst (pc := 2) C dX6_best_2 nc_0 ?_
  refine jx_istore_n (pc := 3) C dX6_best_3 (jset_3 jc_i) (by decide) ?_
  refine jx_iconst (pc := 4) C dX6_best_4 nc_0 ?_
  refine jx_istore (pc := 5) C dX6_best_5 (jset_4 jc_i) (by decide) ?_
  refine jx_iconst (pc := 7) C dX6_best_7 nc_0 ?_
  refine jx_istore (pc := 8) C dX6_best_8 (jset_5 jc_i) (by decide) ?_
  refine lp_X6_best (I := I) (J0 := I) (f := I (x + 1)) C hS hP hn hok (fun I2 v hth => ?_) 3 0 I none (Nat.zero_add _) (fun b h1 h2 => rfl) rfl
  refine jx_iload_n (pc := 137) C dX6_best_137 rfl ?_
  exact jn_iret (pc := 138) C hr (⟨_, rfl, rfl, hth, rfl, rfl⟩) dX6_best_138
theorem t_X6_best {l : Launch} {D : va_G} {cA : Nat → ClassId} {N0 : Nat} {Sh : jS} {I : jI} {P : jP} {L : jL} {x : Nat} (hS : mS Sh x) (hP : mP P x) (hok : sOK (I (x + 1))) {n : Nat} (hn : n < 1000) : jN l D cA N0 7 yX6_best cX6_best 7 (some .int) [.ref x, .int (nI n)] Sh I P L (jNi (fun r I' P' L' => r = sbest (I (x + 1)) n ∧ mTh I x I' ∧ P' = P ∧ L' = L)) := jN_of (by decide) (Nat.le_of_ble_eq_true rfl) (fun _ _ _ _ _ _ _ _ C hr => b_X6_best C hr hS hP hok hn)
set_option maxHeartbeats 4000000 in
theorem b_X6_bestRule {p : Program} {l : Launch} {e : Env} {s : State} {m : MethodId} {args : Array Value} {below : List Frame} {meth : Method} {c : Code} {D : va_G} {cA : Nat → ClassId} {N0 : Nat} {Sh : jS} {I : jI} {P : jP} {L : jL} (C : jC p (jRm 8 0 0) s m args meth c D cA N0 cX6_bestRule 2 RX6 8) (hr : meth.sig.returnType = (some .int)) {x : Nat} (hS : mS Sh x) (hP : mP P x) (hok : sOK (I (x + 1))) {hv : Int32} : jJ p l e (jRm 8 0 0) s m args below meth c D cA N0 2 (MQ below (jQn D cA N0 Sh (mQu I P L x (sbestRule (I (x + 1)) hv))) args s 0 0 (fun q => N0 ≤ q)) (fun _ => True) Sh I P L 0 0 0 [some (.ref x), some (.int hv)] [] := by
  have e0 : jst I x 6 (nI 0) (x + 1) = I (x + 1) := jst_ne (by omega)
  refine jx_aload_n (pc := 0) C dX6_bestRule_0 rfl ?_
  refine jx_iconst (pc := 1) C dX6_bestRule_1 nc_0 ?_
  refine jx_putI (pc := 2) C kf_X6_28 rfl rfl rfl rfl hS.1 dX6_bestRule_2 ?_
  refine jx_iload_n (pc := 5) C dX6_bestRule_5 rfl ?_
  refine jx_iconst (pc := 6) C dX6_bestRule_6 nc_1 ?_
  refine jx_bipush (pc := 7) C dX6_bestRule_7 nb_99 ?_
  refine jx_callD (pc := 9) C (go_X6_32 C  (Nat.le_of_ble_eq_true rfl) dX6_bestRule_9) t_X6_in (by decide) (by decide) ⟨Nat.zero_le _, Nat.zero_le _⟩ ?_
  refine jx_if_eq (pc := 12) C (tgt := 23) dX6_bestRule_12 (by decide) (fun c12 => ?_) (fun c12 => ?_)
  · rw [bI_0, decide_eq_false_iff_not] at c12
    refine jx_aload_n (pc := 23) C dX6_bestRule_23 rfl ?_
    refine jx_iconst (pc := 24) C dX6_bestRule_24 nc_1 ?_
    refine jx_callD (pc := 25) C (go_X6_39 C hS.1 (Nat.le_of_ble_eq_true rfl) dX6_bestRule_25) (t_X6_fails hS.1) (by decide) (by decide) ⟨Nat.zero_le _, Nat.zero_le _⟩ ?_
    exact jn_iret (pc := 28) C hr (by first | exact mQu_okG (by unfold sbestRule; rw [if_pos c12, sW_N (by omega)]) h6 hsm | exact mQu_fail (k := 1) (by unfold sbestRule; rw [if_neg c12]) (by decide)) dX6_bestRule_28
  · rw [bI_0, decide_eq_false_iff_not, Decidable.not_not] at c12
    obtain ⟨n, hn1, hn, rfl⟩ := in1_N (by decide) c12
    refine jx_aload_n (pc := 15) C dX6_bestRule_15 rfl ?_
    refine jx_iload_n (pc := 16) C dX6_bestRule_16 rfl ?_
    refine jx_calli (pc := 17) C (go_X6_190 C hS.1 (Nat.le_of_ble_eq_true rfl) dX6_bestRule_17) (t_X6_best hS hP (by rw [e0]; exact hok) (by omega)) (by decide) (by decide) ⟨Nat.zero_le _, Nat.zero_le _⟩ (fun r17 I17 P17 L17 q17 => ?_)
    obtain ⟨hr17, hth17, rfl, rfl⟩ := q17
    rw [hr17, e0]
    have h6 : I17 x 6 = nI 0 := by rw [hth17 x (by omega) (by omega), jst_eq, upd_s]
    have hsm := mTh.same (mSame_t (v := nI 0)) hth17
    refine jx_goto (pc := 20) C (tgt := 28) dX6_bestRule_20 (by decide) ?_
    exact jn_iret (pc := 28) C hr (by first | exact mQu_okG (by unfold sbestRule; rw [if_pos c12, sW_N (by omega)]) h6 hsm | exact mQu_fail (k := 1) (by unfold sbestRule; rw [if_neg c12]) (by decide)) dX6_bestRule_28
theorem t_X6_bestRule {l : Launch} {D : va_G} {cA : Nat → ClassId} {N0 : Nat} {Sh : jS} {I : jI} {P : jP} {L : jL} {x : Nat} (hS : mS Sh x) (hP : mP P x) (hok : sOK (I (x + 1))) {hv : Int32} : jN l D cA N0 8 yX6_bestRule cX6_bestRule 2 (some .int) [.ref x, .int hv] Sh I P L (mQu I P L x (sbestRule (I (x + 1)) hv)) := jN_of (by decide) (Nat.le_of_ble_eq_true rfl) (fun _ _ _ _ _ _ _ _ C hr => b_X6_bestRule C hr hS hP hok)
set_option maxHeartbeats 4000000 in
theorem b_X6_due {p : Program} {l : Launch} {e : Env} {s : State} {m : MethodId} {args : Array Value} {below : List Frame} {meth : Method} {c : Code} {D : va_G} {cA : Nat → ClassId} {N0 : Nat} {Sh : jS} {I : jI} {P : jP} {L : jL} (C : jC p (jRm 3 0 0) s m args meth c D cA N0 cX6_due 4 RX6 3) (hr : meth.sig.returnType = (some .int)) {x : Nat} (hS : mS Sh x) (hP : mP P x) (hok : sOK (I (x + 1))) {o w : Nat} (ho : o < 10) (hw : w < 6) : jJ p l e (jRm 3 0 0) s m args below meth c D cA N0 4 (MQ below (jQn D cA N0 Sh (jNi (fun r I' P' L' => r = sdueN (I (x + 1)) o w ∧ mTh I x I' ∧ P' = P ∧ L' = L))) args s 0 0 (fun q => N0 ≤ q)) (fun _ => True) Sh I P L 0 0 0 [some (.ref x), some (.int (nI o)), some (.int (nI w)), none] [] := by
  refine jx_aload_n (pc := 0) C dX6_due_0 rfl ?_
  refine jx_getP (pc := 1) C kf_X6_7 rfl hS.1 hP.1 dX6_due_1 ?_
  refine jx_iload_n (pc := 4) C dX6_due_4 rfl ?_
  refine jx_callD (pc := 5) C (go_X6_90 C  (Nat.le_of_ble_eq_true rfl) dX6_due_5) (t_X6_good hS.2.1 ho) (by decide) (by decide) ⟨Nat.zero_le _, Nat.zero_le _⟩ ?_
  refine jx_istore_n (pc := 8) C dX6_due_8 (jset_3 jc_i) (by decide) ?_
  refine jx_aload_n (pc := 9) C dX6_due_9 rfl ?_
  refine jx_aload_n (pc := 10) C dX6_due_10 rfl ?_
  refine jx_getP (pc := 11) C kf_X6_7 rfl hS.1 hP.1 dX6_due_11 ?_
  refine jx_iload_n (pc := 14) C dX6_due_14 rfl ?_
  refine jx_aload_n (pc := 15) C dX6_due_15 rfl ?_
  refine jx_getP (pc := 16) C kf_X6_7 rfl hS.1 hP.1 dX6_due_16 ?_
  refine jx_iload_n (pc := 19) C dX6_due_19 rfl ?_
  refine jx_iload_n (pc := 20) C dX6_due_20 rfl ?_
  refine jx_callD (pc := 21) C (go_X6_59 C  (Nat.le_of_ble_eq_true rfl) dX6_due_21) (t_X6_whole hS.2.1 ho) (by decide) (by decide) ⟨Nat.zero_le _, Nat.zero_le _⟩ ?_
  refine jx_iload_n (pc := 24) C dX6_due_24 rfl ?_
  refine jx_callDv (pc := 25) C (go_X6_62 C hS.1 (Nat.le_of_ble_eq_true rfl) dX6_due_25) (t_X6_shares hS hP hS.2.1 (by omega) ho) (by decide) (by decide) ⟨Nat.zero_le _, Nat.zero_le _⟩ ?_
  refine jx_aload_n (pc := 28) C dX6_due_28 rfl ?_
  refine jx_getP (pc := 29) C kf_X6_25 rfl hS.1 hP.2.2.2.2.2 dX6_due_29 ?_
  refine jx_iload_n (pc := 32) C dX6_due_32 rfl ?_
  refine jx_ialdv (pc := 33) C hS.2.2.2.2.2.2 (by omega) (by decide) (congrFun va_up_s _) dX6_due_33 ?_
  exact jn_iret (pc := 34) C hr (⟨_, rfl, sshares_c hw, fun b h1 h2 => va_up_n h2, rfl, rfl⟩) dX6_due_34
theorem t_X6_due {l : Launch} {D : va_G} {cA : Nat → ClassId} {N0 : Nat} {Sh : jS} {I : jI} {P : jP} {L : jL} {x : Nat} (hS : mS Sh x) (hP : mP P x) (hok : sOK (I (x + 1))) {o w : Nat} (ho : o < 10) (hw : w < 6) : jN l D cA N0 3 yX6_due cX6_due 4 (some .int) [.ref x, .int (nI o), .int (nI w)] Sh I P L (jNi (fun r I' P' L' => r = sdueN (I (x + 1)) o w ∧ mTh I x I' ∧ P' = P ∧ L' = L)) := jN_of (by decide) (Nat.le_of_ble_eq_true rfl) (fun _ _ _ _ _ _ _ _ C hr => b_X6_due C hr hS hP hok ho hw)
set_option maxHeartbeats 4000000 in
theorem b_X6_dueNow {p : Program} {l : Launch} {e : Env} {s : State} {m : MethodId} {args : Array Value} {below : List Frame} {meth : Method} {c : Code} {D : va_G} {cA : Nat → ClassId} {N0 : Nat} {Sh : jS} {I : jI} {P : jP} {L : jL} (C : jC p (jRm 4 0 0) s m args meth c D cA N0 cX6_dueNow 4 RX6 4) (hr : meth.sig.returnType = (some .int)) {x : Nat} (hS : mS Sh x) (hP : mP P x) (hok : sOK (I (x + 1))) {num wv : Int32} : jJ p l e (jRm 4 0 0) s m args below meth c D cA N0 4 (MQ below (jQn D cA N0 Sh (mQu I P L x (sdueNow (I (x + 1)) num wv))) args s 0 0 (fun q => N0 ≤ q)) (fun _ => True) Sh I P L 0 0 0 [some (.ref x), some (.int num), some (.int wv), none] [] := by
  have e0 : jst I x 6 (nI 0) (x + 1) = I (x + 1) := jst_ne (by omega)
  refine jx_aload_n (pc := 0) C dX6_dueNow_0 rfl ?_
  refine jx_iconst (pc := 1) C dX6_dueNow_1 nc_0 ?_
  refine jx_putI (pc := 2) C kf_X6_28 rfl rfl rfl rfl hS.1 dX6_dueNow_2 ?_
  refine jx_aload_n (pc := 5) C dX6_dueNow_5 rfl ?_
  refine jx_getP (pc := 6) C kf_X6_7 rfl hS.1 hP.1 dX6_dueNow_6 ?_
  refine jx_iload_n (pc := 9) C dX6_dueNow_9 rfl ?_
  refine jx_callD (pc := 10) C (go_X6_118 C  (Nat.le_of_ble_eq_true rfl) dX6_dueNow_10) (t_X6_placeOf hS.2.1 (by rw [e0]; exact hok.1) (by rw [e0]; exact hok.2.1)) (by decide) (by decide) ⟨Nat.zero_le _, Nat.zero_le _⟩ ?_
  rw [e0]
  cases hq : splace (I (x + 1)) num with
  | none =>
    refine jx_top C (show Value.int (oI none) = .int (-1 : Int32) from rfl) ?_
    refine jx_istore_n (pc := 13) C dX6_dueNow_13 (jset_3 jc_i) (by decide) ?_
    refine jx_iload_n (pc := 14) C dX6_dueNow_14 rfl ?_
    refine jx_iconst (pc := 15) C dX6_dueNow_15 nc_m1 ?_
    refine jx_icmp_eq (pc := 16) C (tgt := 35) dX6_dueNow_16 (by decide) (fun c16 => ?_) (fun c16 => (by exfalso; revert c16; decide))
    refine jx_aload_n (pc := 35) C dX6_dueNow_35 rfl ?_
    refine jx_iconst (pc := 36) C dX6_dueNow_36 nc_1 ?_
    refine jx_callD (pc := 37) C (go_X6_39 C hS.1 (Nat.le_of_ble_eq_true rfl) dX6_dueNow_37) (t_X6_fails hS.1) (by decide) (by decide) ⟨Nat.zero_le _, Nat.zero_le _⟩ ?_
    exact jn_iret (pc := 40) C hr (mQu_fail (k := 1) (by unfold sdueNow; rw [hq]) (by decide)) dX6_dueNow_40
  | some o =>
    obtain ⟨hq1, hq2⟩ := sfst_lt hq
    have hk10 := hok.2.1
    refine jx_top C (show Value.int (oI (some o)) = .int (nI o) from rfl) ?_
    refine jx_istore_n (pc := 13) C dX6_dueNow_13 (jset_3 jc_i) (by decide) ?_
    refine jx_iload_n (pc := 14) C dX6_dueNow_14 rfl ?_
    refine jx_iconst (pc := 15) C dX6_dueNow_15 nc_m1 ?_
    refine jx_icmp_eq (pc := 16) C (tgt := 35) dX6_dueNow_16 (by decide) (fun c16 => (by exfalso; rw [nI_m1 (by omega)] at c16; exact c16)) (fun c16 => ?_)
    refine jx_iload_n (pc := 19) C dX6_dueNow_19 rfl ?_
    refine jx_callD (pc := 20) C (go_X6_103 C  (Nat.le_of_ble_eq_true rfl) dX6_dueNow_20) t_X6_isWeaver (by decide) (by decide) ⟨Nat.zero_le _, Nat.zero_le _⟩ ?_
    refine jx_if_eq (pc := 23) C (tgt := 35) dX6_dueNow_23 (by decide) (fun c23 => ?_) (fun c23 => ?_)
    · rw [bI_0, decide_eq_false_iff_not] at c23
      refine jx_aload_n (pc := 35) C dX6_dueNow_35 rfl ?_
      refine jx_iconst (pc := 36) C dX6_dueNow_36 nc_1 ?_
      refine jx_callD (pc := 37) C (go_X6_39 C hS.1 (Nat.le_of_ble_eq_true rfl) dX6_dueNow_37) (t_X6_fails hS.1) (by decide) (by decide) ⟨Nat.zero_le _, Nat.zero_le _⟩ ?_
      exact jn_iret (pc := 40) C hr (by first | exact mQu_okG (by unfold sdueNow; rw [hq]; show (if _ then _ else _) = _; rw [if_pos (nI_inn (by decide) hw), sW_N (by omega)]) h6 hsm | exact mQu_fail (k := 1) (by unfold sdueNow; rw [hq]; show (if _ then _ else _ : Nat × Int32).1 = _; rw [if_neg c23]) (by decide)) dX6_dueNow_40
    · rw [bI_0, decide_eq_false_iff_not, Decidable.not_not] at c23
      obtain ⟨w, hw, rfl⟩ := in_N (by decide) c23
      refine jx_aload_n (pc := 26) C dX6_dueNow_26 rfl ?_
      refine jx_iload_n (pc := 27) C dX6_dueNow_27 rfl ?_
      refine jx_iload_n (pc := 28) C dX6_dueNow_28 rfl ?_
      refine jx_calli (pc := 29) C (go_X6_193 C hS.1 (Nat.le_of_ble_eq_true rfl) dX6_dueNow_29) (t_X6_due hS hP (by rw [e0]; exact hok) (by omega) (by omega)) (by decide) (by decide) ⟨Nat.zero_le _, Nat.zero_le _⟩ (fun r29 I29 P29 L29 q29 => ?_)
      obtain ⟨hr29, hth29, rfl, rfl⟩ := q29
      rw [hr29, e0]
      have h6 : I29 x 6 = nI 0 := by rw [hth29 x (by omega) (by omega), jst_eq, upd_s]
      have hsm := mTh.same (mSame_t (v := nI 0)) hth29
      refine jx_goto (pc := 32) C (tgt := 40) dX6_dueNow_32 (by decide) ?_
      exact jn_iret (pc := 40) C hr (by first | exact mQu_okG (by unfold sdueNow; rw [hq]; show (if _ then _ else _) = _; rw [if_pos (nI_inn (by decide) hw), sW_N (by omega)]) h6 hsm | exact mQu_fail (k := 1) (by unfold sdueNow; rw [hq]; show (if _ then _ else _ : Nat × Int32).1 = _; rw [if_neg c23]) (by decide)) dX6_dueNow_40
theorem t_X6_dueNow {l : Launch} {D : va_G} {cA : Nat → ClassId} {N0 : Nat} {Sh : jS} {I : jI} {P : jP} {L : jL} {x : Nat} (hS : mS Sh x) (hP : mP P x) (hok : sOK (I (x + 1))) {num wv : Int32} : jN l D cA N0 4 yX6_dueNow cX6_dueNow 4 (some .int) [.ref x, .int num, .int wv] Sh I P L (mQu I P L x (sdueNow (I (x + 1)) num wv)) := jN_of (by decide) (Nat.le_of_ble_eq_true rfl) (fun _ _ _ _ _ _ _ _ C hr => b_X6_dueNow C hr hS hP hok)
