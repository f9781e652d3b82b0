set_option maxHeartbeats 4000000 in
theorem lp_X6_even {p : Program} {l : Launch} {e : Env} {s : State} {m : MethodId} {args : Array Value} {below : List Frame} {meth : Method} {c : Code} {D : va_G} {cA : Nat → ClassId} {N0 : Nat} {Sh : jS} {I : jI} {P : jP} {L : jL} {Qf : State → Prop} (C : jC p (jRm 1 0 0) s m args meth c D cA N0 cX6_even 5 RX6 1) {x : Nat} (hS : mS Sh x) (hP : mP P x) (hx : ∀ v', jJ p l e (jRm 1 0 0) s m args below meth c D cA N0 5 Qf (fun _ => True) Sh I P L 0 0 72 [some (.ref x), some (.int (sevN (I (x + 1)) 6).1), some (.int (sevN (I (x + 1)) 6).2), some (.int (nI 6)), v'] []) : ∀ n i v', i + n = 6 → jJ p l e (jRm 1 0 0) s m args below meth c D cA N0 5 Qf (fun _ => True) Sh I P L 0 0 6 [some (.ref x), some (.int (sevN (I (x + 1)) i).1), some (.int (sevN (I (x + 1)) i).2), some (.int (nI i)), v'] [] := by
  intro n
  induction n with
  | zero =>
    intro i v' hi
    obtain rfl : i = 6 := by omega
    refine jx_iload_n (pc := 6) C dX6_even_6 rfl ?_
    refine jx_bipush (pc := 7) C dX6_even_7 nb_6 ?_
    refine jx_icmp_ge (pc := 9) C (tgt := 72) dX6_even_9 (by decide) (fun c9 => ?_) (fun c9 => (by rw [nI_leI (by omega) (by omega)] at c9; exfalso; omega))
    rw [nI_leI (by omega) (by omega)] at c9
    exact hx _
  | succ n ih =>
    intro i v' hi
    refine jx_iload_n (pc := 6) C dX6_even_6 rfl ?_
    refine jx_bipush (pc := 7) C dX6_even_7 nb_6 ?_
    refine jx_icmp_ge (pc := 9) C (tgt := 72) dX6_even_9 (by decide) (fun c9 => (by rw [nI_leI (by omega) (by omega)] at c9; exfalso; omega)) (fun c9 => ?_)
    rw [nI_leI (by omega) (by omega)] at c9
    refine jx_aload_n (pc := 12) C dX6_even_12 rfl ?_
    refine jx_getP (pc := 13) C kf_X6_7 rfl hS.1 hP.1 dX6_even_13 ?_
    refine jx_iload_n (pc := 16) C dX6_even_16 rfl ?_
    refine jx_iconst (pc := 17) C dX6_even_17 nc_0 ?_
    refine jx_callD (pc := 18) C (go_X6_47 C  (Nat.le_of_ble_eq_true rfl) dX6_even_18) (t_X6_of hS.2.1 (o := i) (w := 0) (by omega)) (by decide) (by decide) ⟨Nat.zero_le _, Nat.zero_le _⟩ ?_
    refine jx_if_le (pc := 21) C (tgt := 66) dX6_even_21 (by decide) (fun c21 => ?_) (fun c21 => ?_)
    · refine jx_iincN (pc := 66) C dX6_even_66 rfl (jset_3 jc_i) (by decide) ?_
      refine jx_goto (pc := 69) C (tgt := 6) dX6_even_69 (by decide) ?_
      first
        | (rw [← sevN_no (fun z => absurd z (i32_nlt.mpr c21))]; exact ih (i + 1) _ (by omega))
        | (have hpos : 0 < I (x + 1) (18 + 12 * i + 0) := i32_nle.mp c21
           have hh := ih (i + 1) (some (.int (I (x + 1) (18 + 12 * i + 4)))) (by omega)
           first
             | (rw [sevN_s hpos (if_pos (Or.inl c37)).symm (if_pos (i32_nle.mp c56)).symm] at hh; exact hh)
             | (rw [sevN_s hpos (if_pos (Or.inl c37)).symm (if_neg (i32_nlt.mpr c56)).symm] at hh; exact hh)
             | (rw [sevN_s hpos (if_pos (Or.inr (i32_nle.mp c43))).symm (if_pos (i32_nle.mp c56)).symm] at hh; exact hh)
             | (rw [sevN_s hpos (if_pos (Or.inr (i32_nle.mp c43))).symm (if_neg (i32_nlt.mpr c56)).symm] at hh; exact hh)
             | (rw [sevN_s hpos (if_neg (fun z => z.elim c37 (i32_nlt.mpr c43))).symm (if_pos (i32_nle.mp c56)).symm] at hh; exact hh)
             | (rw [sevN_s hpos (if_neg (fun z => z.elim c37 (i32_nlt.mpr c43))).symm (if_neg (i32_nlt.mpr c56)).symm] at hh; exact hh))
    · refine jx_aload_n (pc := 24) C dX6_even_24 rfl ?_
      refine jx_getP (pc := 25) C kf_X6_7 rfl hS.1 hP.1 dX6_even_25 ?_
      refine jx_iload_n (pc := 28) C dX6_even_28 rfl ?_
      refine jx_iconst (pc := 29) C dX6_even_29 nc_4 ?_
      refine jx_callD (pc := 30) C (go_X6_47 C  (Nat.le_of_ble_eq_true rfl) dX6_even_30) (t_X6_of hS.2.1 (o := i) (w := 4) (by omega)) (by decide) (by decide) ⟨Nat.zero_le _, Nat.zero_le _⟩ ?_
      refine jx_istore (pc := 33) C dX6_even_33 (jset_4 jc_i) (by decide) ?_
      refine jx_iload_n (pc := 35) C dX6_even_35 rfl ?_
      refine jx_iconst (pc := 36) C dX6_even_36 nc_m1 ?_
      refine jx_icmp_eq (pc := 37) C (tgt := 46) dX6_even_37 (by decide) (fun c37 => ?_) (fun c37 => ?_)
      · refine jx_iload (pc := 46) C dX6_even_46 rfl ?_
        refine jx_goto (pc := 48) C (tgt := 52) dX6_even_48 (by decide) ?_
        refine jx_istore_n (pc := 52) C dX6_even_52 (jset_1 jc_r) (by decide) ?_
        refine jx_iload (pc := 53) C dX6_even_53 rfl ?_
        refine jx_iload_n (pc := 55) C dX6_even_55 rfl ?_
        refine jx_icmp_le (pc := 56) C (tgt := 64) dX6_even_56 (by decide) (fun c56 => ?_) (fun c56 => ?_)
        · refine jx_iload_n (pc := 64) C dX6_even_64 rfl ?_
          refine jx_istore_n (pc := 65) C dX6_even_65 (jset_2 jc_i) (by decide) ?_
          refine jx_iincN (pc := 66) C dX6_even_66 rfl (jset_3 jc_i) (by decide) ?_
          refine jx_goto (pc := 69) C (tgt := 6) dX6_even_69 (by decide) ?_
          first
            | (rw [← sevN_no (fun z => absurd z (i32_nlt.mpr c21))]; exact ih (i + 1) _ (by omega))
            | (have hpos : 0 < I (x + 1) (18 + 12 * i + 0) := i32_nle.mp c21
               have hh := ih (i + 1) (some (.int (I (x + 1) (18 + 12 * i + 4)))) (by omega)
               first
                 | (rw [sevN_s hpos (if_pos (Or.inl c37)).symm (if_pos (i32_nle.mp c56)).symm] at hh; exact hh)
                 | (rw [sevN_s hpos (if_pos (Or.inl c37)).symm (if_neg (i32_nlt.mpr c56)).symm] at hh; exact hh)
                 | (rw [sevN_s hpos (if_pos (Or.inr (i32_nle.mp c43))).symm (if_pos (i32_nle.mp c56)).symm] at hh; exact hh)
                 | (rw [sevN_s hpos (if_pos (Or.inr (i32_nle.mp c43))).symm (if_neg (i32_nlt.mpr c56)).symm] at hh; exact hh)
                 | (rw [sevN_s hpos (if_neg (fun z => z.elim c37 (i32_nlt.mpr c43))).symm (if_pos (i32_nle.mp c56)).symm] at hh; exact hh)
                 | (rw [sevN_s hpos (if_neg (fun z => z.elim c37 (i32_nlt.mpr c43))).symm (if_neg (i32_nlt.mpr c56)).symm] at hh; exact hh))
        · refine jx_iload (pc := 59) C dX6_even_59 rfl ?_
          refine jx_goto (pc := 61) C (tgt := 65) dX6_even_61 (by decide) ?_
          refine jx_istore_n (pc := 65) C dX6_even_65 (jset_2 jc_i) (by decide) ?_
          refine jx_iincN (pc := 66) C dX6_even_66 rfl (jset_3 jc_i) (by decide) ?_
          refine jx_goto (pc := 69) C (tgt := 6) dX6_even_69 (by decide) ?_
          first
            | (rw [← sevN_no (fun z => absurd z (i32_nlt.mpr c21))]; exact ih (i + 1) _ (by omega))
            | (have hpos : 0 < I (x + 1) (18 + 12 * i + 0) := i32_nle.mp c21
               have hh := ih (i + 1) (some (.int (I (x + 1) (18 + 12 * i + 4)))) (by omega)
               first
                 | (rw [sevN_s hpos (if_pos (Or.inl c37)).symm (if_pos (i32_nle.mp c56)).symm] at hh; exact hh)
                 | (rw [sevN_s hpos (if_pos (Or.inl c37)).symm (if_neg (i32_nlt.mpr c56)).symm] at hh; exact hh)
                 | (rw [sevN_s hpos (if_pos (Or.inr (i32_nle.mp c43))).symm (if_pos (i32_nle.mp c56)).symm] at hh; exact hh)
                 | (rw [sevN_s hpos (if_pos (Or.inr (i32_nle.mp c43))).symm (if_neg (i32_nlt.mpr c56)).symm] at hh; exact hh)
                 | (rw [sevN_s hpos (if_neg (fun z => z.elim c37 (i32_nlt.mpr c43))).symm (if_pos (i32_nle.mp c56)).symm] at hh; exact hh)
                 | (rw [sevN_s hpos (if_neg (fun z => z.elim c37 (i32_nlt.mpr c43))).symm (if_neg (i32_nlt.mpr c56)).symm] at hh; exact hh))
      · refine jx_iload (pc := 40) C dX6_even_40 rfl ?_
        refine jx_iload_n (pc := 42) C dX6_even_42 rfl ?_
        refine jx_icmp_ge (pc := 43) C (tgt := 51) dX6_even_43 (by decide) (fun c43 => ?_) (fun c43 => ?_)
        · refine jx_iload_n (pc := 51) C dX6_even_51 rfl ?_
          refine jx_istore_n (pc := 52) C dX6_even_52 (jset_1 jc_r) (by decide) ?_
          refine jx_iload (pc := 53) C dX6_even_53 rfl ?_
          refine jx_iload_n (pc := 55) C dX6_even_55 rfl ?_
          refine jx_icmp_le (pc := 56) C (tgt := 64) dX6_even_56 (by decide) (fun c56 => ?_) (fun c56 => ?_)
          · refine jx_iload_n (pc := 64) C dX6_even_64 rfl ?_
            refine jx_istore_n (pc := 65) C dX6_even_65 (jset_2 jc_i) (by decide) ?_
            refine jx_iincN (pc := 66) C dX6_even_66 rfl (jset_3 jc_i) (by decide) ?_
            refine jx_goto (pc := 69) C (tgt := 6) dX6_even_69 (by decide) ?_
            first
              | (rw [← sevN_no (fun z => absurd z (i32_nlt.mpr c21))]; exact ih (i + 1) _ (by omega))
              | (have hpos : 0 < I (x + 1) (18 + 12 * i + 0) := i32_nle.mp c21
                 have hh := ih (i + 1) (some (.int (I (x + 1) (18 + 12 * i + 4)))) (by omega)
                 first
                   | (rw [sevN_s hpos (if_pos (Or.inl c37)).symm (if_pos (i32_nle.mp c56)).symm] at hh; exact hh)
                   | (rw [sevN_s hpos (if_pos (Or.inl c37)).symm (if_neg (i32_nlt.mpr c56)).symm] at hh; exact hh)
                   | (rw [sevN_s hpos (if_pos (Or.inr (i32_nle.mp c43))).symm (if_pos (i32_nle.mp c56)).symm] at hh; exact hh)
                   | (rw [sevN_s hpos (if_pos (Or.inr (i32_nle.mp c43))).symm (if_neg (i32_nlt.mpr c56)).symm] at hh; exact hh)
                   | (rw [sevN_s hpos (if_neg (fun z => z.elim c37 (i32_nlt.mpr c43))).symm (if_pos (i32_nle.mp c56)).symm] at hh; exact hh)
                   | (rw [sevN_s hpos (if_neg (fun z => z.elim c37 (i32_nlt.mpr c43))).symm (if_neg (i32_nlt.mpr c56)).symm] at hh; exact hh))
          · refine jx_iload (pc := 59) C dX6_even_59 rfl ?_
            refine jx_goto (pc := 61) C (tgt := 65) dX6_even_61 (by decide) ?_
            refine jx_istore_n (pc := 65) C dX6_even_65 (jset_2 jc_i) (by decide) ?_
            refine jx_iincN (pc := 66) C dX6_even_66 rfl (jset_3 jc_i) (by decide) ?_
            refine jx_goto (pc := 69) C (tgt := 6) dX6_even_69 (by decide) ?_
            first
              | (rw [← sevN_no (fun z => absurd z (i32_nlt.mpr c21))]; exact ih (i + 1) _ (by omega))
              | (have hpos : 0 < I (x + 1) (18 + 12 * i + 0) := i32_nle.mp c21
                 have hh := ih (i + 1) (some (.int (I (x + 1) (18 + 12 * i + 4)))) (by omega)
                 first
                   | (rw [sevN_s hpos (if_pos (Or.inl c37)).symm (if_pos (i32_nle.mp c56)).symm] at hh; exact hh)
                   | (rw [sevN_s hpos (if_pos (Or.inl c37)).symm (if_neg (i32_nlt.mpr c56)).symm] at hh; exact hh)
                   | (rw [sevN_s hpos (if_pos (Or.inr (i32_nle.mp c43))).symm (if_pos (i32_nle.mp c56)).symm] at hh; exact hh)
                   | (rw [sevN_s hpos (if_pos (Or.inr (i32_nle.mp c43))).symm (if_neg (i32_nlt.mpr c56)).symm] at hh; exact hh)
                   | (rw [sevN_s hpos (if_neg (fun z => z.elim c37 (i32_nlt.mpr c43))).symm (if_pos (i32_nle.mp c56)).symm] at hh; exact hh)
                   | (rw [sevN_s hpos (if_neg (fun z => z.elim c37 (i32_nlt.mpr c43))).symm (if_neg (i32_nlt.mpr c56)).symm] at hh; exact hh))
        · refine jx_iload (pc := 46) C dX6_even_46 rfl ?_
          refine jx_goto (pc := 48) C (tgt := 52) dX6_even_48 (by decide) ?_
          refine jx_istore_n (pc := 52) C dX6_even_52 (jset_1 jc_r) (by decide) ?_
          refine jx_iload (pc := 53) C dX6_even_53 rfl ?_
          refine jx_iload_n (pc := 55) C dX6_even_55 rfl ?_
          refine jx_icmp_le (pc := 56) C (tgt := 64) dX6_even_56 (by decide) (fun c56 => ?_) (fun c56 => ?_)
          · refine jx_iload_n (pc := 64) C dX6_even_64 rfl ?_
            refine jx_istore_n (pc := 65) C dX6_even_65 (jset_2 jc_i) (by decide) ?_
            refine jx_iincN (pc := 66) C dX6_even_66 rfl (jset_3 jc_i) (by decide) ?_
            refine jx_goto (pc := 69) C (tgt := 6) dX6_even_69 (by decide) ?_
            first
              | (rw [← sevN_no (fun z => absurd z (i32_nlt.mpr c21))]; exact ih (i + 1) _ (by omega))
              | (have hpos : 0 < I (x + 1) (18 + 12 * i + 0) := i32_nle.mp c21
                 have hh := ih (i + 1) (some (.int (I (x + 1) (18 + 12 * i + 4)))) (by omega)
                 first
                   | (rw [sevN_s hpos (if_pos (Or.inl c37)).symm (if_pos (i32_nle.mp c56)).symm] at hh; exact hh)
                   | (rw [sevN_s hpos (if_pos (Or.inl c37)).symm (if_neg (i32_nlt.mpr c56)).symm] at hh; exact hh)
                   | (rw [sevN_s hpos (if_pos (Or.inr (i32_nle.mp c43))).symm (if_pos (i32_nle.mp c56)).symm] at hh; exact hh)
                   | (rw [sevN_s hpos (if_pos (Or.inr (i32_nle.mp c43))).symm (if_neg (i32_nlt.mpr c56)).symm] at hh; exact hh)
                   | (rw [sevN_s hpos (if_neg (fun z => z.elim c37 (i32_nlt.mpr c43))).symm (if_pos (i32_nle.mp c56)).symm] at hh; exact hh)
                   | (rw [sevN_s hpos (if_neg (fun z => z.elim c37 (i32_nlt.mpr c43))).symm (if_neg (i32_nlt.mpr c56)).symm] at hh; exact hh))
          · refine jx_iload (pc := 59) C dX6_even_59 rfl ?_
            refine jx_goto (pc := 61) C (tgt := 65) dX6_even_61 (by decide) ?_
            refine jx_istore_n (pc := 65) C dX6_even_65 (jset_2 jc_i) (by decide) ?_
            refine jx_iincN (pc := 66) C dX6_even_66 rfl (jset_3 jc_i) (by decide) ?_
            refine jx_goto (pc := 69) C (tgt := 6) dX6_even_69 (by decide) ?_
            first
              | (rw [← sevN_no (fun z => absurd z (i32_nlt.mpr c21))]; exact ih (i + 1) _ (by omega))
              | (have hpos : 0 < I (x + 1) (18 + 12 * i + 0) := i32_nle.mp c21
                 have hh := ih (i + 1) (some (.int (I (x + 1) (18 + 12 * i + 4)))) (by omega)
                 first
                   | (rw [sevN_s hpos (if_pos (Or.inl c37)).symm (if_pos (i32_nle.mp c56)).symm] at hh; exact hh)
                   | (rw [sevN_s hpos (if_pos (Or.inl c37)).symm (if_neg (i32_nlt.mpr c56)).symm] at hh; exact hh)
                   | (rw [sevN_s hpos (if_pos (Or.inr (i32_nle.mp c43))).symm (if_pos (i32_nle.mp c56)).symm] at hh; exact hh)
                   | (rw [sevN_s hpos (if_pos (Or.inr (i32_nle.mp c43))).symm (if_neg (i32_nlt.mpr c56)).symm] at hh; exact hh)
                   | (rw [sevN_s hpos (if_neg (fun z => z.elim c37 (i32_nlt.mpr c43))).symm (if_pos (i32_nle.mp c56)).symm] at hh; exact hh)
                   | (rw [sevN_s hpos (if_neg (fun z => z.elim c37 (i32_nlt.mpr c43))).symm (if_neg (i32_nlt.mpr c56)).symm] at hh; exact hh))
set_option maxHeartbeats 4000000 in
theorem b_X6_even {p : Program} {l : Launch} {e : Env} {s : State} {m : MethodId} {args : Array Value} {below : List Frame} {meth : Method} {c : Code} {D : va_G} {cA : Nat → ClassId} {N0 : Nat} {Sh : jS} {I : jI} {P : jP} {L : jL} (C : jC p (jRm 1 0 0) s m args meth c D cA N0 cX6_even 5 RX6 1) (hr : meth.sig.returnType = (some .double)) {x : Nat} (hS : mS Sh x) (hP : mP P x) : jJ p l e (jRm 1 0 0) s m args below meth c D cA N0 5 (MQ below (jQn D cA N0 Sh (jD (some (.double (seven (I (x + 1))))) I P L)) args s 0 0 (fun q => N0 ≤ q)) (fun _ => True) Sh I P L 0 0 0 [some (.ref x), none, none, none, none] [] := by
  refine jx_iconst (pc := 0) C dX6_even_0 nc_m1 ?_
  refine jx_istore_n (pc := 1) C dX6_even_1 (jset_1 jc_r) (by decide) ?_
  refine jx_iconst (pc := 2) C dX6_even_2 nc_0 ?_
  refine jx_istore_n (pc := 3) C dX6_even_3 (jset_2 jc_i) (by decide) ?_
  refine jx_iconst (pc := 4) C dX6_even_4 nc_0 ?_
  refine jx_istore_n (pc := 5) C dX6_even_5 (jset_3 jc_i) (by decide) ?_
  refine lp_X6_even C hS hP (fun v' => ?_) 6 0 none (by omega)
  refine jx_iload_n (pc := 72) C dX6_even_72 rfl ?_
  refine jx_if_ne (pc := 73) C (tgt := 80) dX6_even_73 (by decide) (fun c73 => ?_) (fun c73 => ?_)
  · refine jx_iload_n (pc := 80) C dX6_even_80 rfl ?_
    refine jx_i2d (pc := 81) C dX6_even_81 ?_
    refine jx_iload_n (pc := 82) C dX6_even_82 rfl ?_
    refine jx_i2d (pc := 83) C dX6_even_83 ?_
    refine jx_ddiv (pc := 84) C dX6_even_84 (fl_n64 (fl_div c73)) ?_
    exact jn_dret (pc := 85) C hr (jD_of (congrArg (fun z => some (Value.double z)) (by unfold seven; first | exact (if_pos c73).symm | exact (if_neg c73).symm)) rfl rfl rfl) dX6_even_85
  · refine jx_dconst1 (pc := 76) C dX6_even_76 ?_
    refine jx_goto (pc := 77) C (tgt := 85) dX6_even_77 (by decide) ?_
    exact jn_dret (pc := 85) C hr (jD_of (congrArg (fun z => some (Value.double z)) (by unfold seven; first | exact (if_pos c73).symm | exact (if_neg c73).symm)) rfl rfl rfl) dX6_even_85
theorem t_X6_even {l : Launch} {D : va_G} {cA : Nat → ClassId} {N0 : Nat} {Sh : jS} {I : jI} {P : jP} {L : jL} {x : Nat} (hS : mS Sh x) (hP : mP P x) : jN l D cA N0 1 yX6_even cX6_even 5 (some .double) [.ref x] Sh I P L (jD (some (.double (seven (I (x + 1))))) I P L) := jN_of (by decide) (Nat.le_of_ble_eq_true rfl) (fun _ _ _ _ _ _ _ _ C hr => b_X6_even C hr hS hP)
set_option maxHeartbeats 4000000 in
theorem b_X6_evenness {p : Program} {l : Launch} {e : Env} {s : State} {m : MethodId} {args : Array Value} {below : List Frame} {meth : Method} {c : Code} {D : va_G} {cA : Nat → ClassId} {N0 : Nat} {Sh : jS} {I : jI} {P : jP} {L : jL} (C : jC p (jRm 2 0 0) s m args meth c D cA N0 cX6_evenness 1 RX6 2) (hr : meth.sig.returnType = (some .double)) {x : Nat} (hS : mS Sh x) (hP : mP P x) : jJ p l e (jRm 2 0 0) s m args below meth c D cA N0 1 (MQ below (jQn D cA N0 Sh (jD (some (.double (seven (I (x + 1))))) (jst I x 6 (nI 0)) P L)) args s 0 0 (fun q => N0 ≤ q)) (fun _ => True) Sh I P L 0 0 0 [some (.ref x)] [] := by
  have e0 : jst I x 6 (nI 0) (x + 1) = I (x + 1) := jst_ne (by omega)
  refine jx_aload_n (pc := 0) C dX6_evenness_0 rfl ?_
  refine jx_iconst (pc := 1) C dX6_evenness_1 nc_0 ?_
  refine jx_putI (pc := 2) C kf_X6_28 rfl rfl rfl rfl hS.1 dX6_evenness_2 ?_
  refine jx_aload_n (pc := 5) C dX6_evenness_5 rfl ?_
  refine jx_callD (pc := 6) C (go_X6_196 C hS.1 (Nat.le_of_ble_eq_true rfl) dX6_evenness_6) (t_X6_even hS hP) (by decide) (by decide) ⟨Nat.zero_le _, Nat.zero_le _⟩ ?_
  exact jn_dret (pc := 9) C hr (jD_of (by rw [e0]) rfl rfl rfl) dX6_evenness_9
theorem t_X6_evenness {l : Launch} {D : va_G} {cA : Nat → ClassId} {N0 : Nat} {Sh : jS} {I : jI} {P : jP} {L : jL} {x : Nat} (hS : mS Sh x) (hP : mP P x) : jN l D cA N0 2 yX6_evenness cX6_evenness 1 (some .double) [.ref x] Sh I P L (jD (some (.double (seven (I (x + 1))))) (jst I x 6 (nI 0)) P L) := jN_of (by decide) (Nat.le_of_ble_eq_true rfl) (fun _ _ _ _ _ _ _ _ C hr => b_X6_evenness C hr hS hP)
