/-- rows from n on moved behind by one, up to m -/
def sshf (f : sF) (m n : Nat) : sF := fun k => if 90 + 12 * (n + 1) ≤ k ∧ k < 90 + 12 * (m + 1) then f (k - 12) else f k
theorem sshf_0 {f : sF} {m : Nat} : sshf f m m = f := by funext k; unfold sshf; rw [if_neg (by omega)]
theorem sshf_s {f : sF} {m n : Nat} (h : n + 1 ≤ m) : cpy (sshf f m (n + 1)) f (90 + 12 * (n + 1)) (90 + 12 * n) 12 = sshf f m n := by
  funext k
  unfold cpy sshf
  by_cases h1 : 90 + 12 * (n + 1) ≤ k ∧ k < 90 + 12 * (n + 1) + 12
  · rw [if_pos h1, if_pos (by omega)]; exact congrArg f (by omega)
  · rw [if_neg h1]
    by_cases h2 : 90 + 12 * (n + 1 + 1) ≤ k ∧ k < 90 + 12 * (m + 1)
    · rw [if_pos h2, if_pos (by omega)]
    · rw [if_neg h2, if_neg (by omega)]
theorem i32_ac (a b : Int32) : a + b - b = a := by
  apply Int32.toBitVec_inj.mp
  simp only [Int32.toBitVec_sub, Int32.toBitVec_add]
  exact BitVec.add_sub_cancel _ _
theorem scomes_eq {f : sF} {cv wd len pr due : Int32} {p : Nat} (hp : spos f due (smany f) = p) (hpm : p ≤ smany f) :
    upd (upd (upd (upd (upd (upd (upd (upd (cpy (sshf f (smany f) p) (fun _ => nI 0) (90 + 12 * p) 0 12) (90 + 12 * p + 0) (f 6)) (90 + 12 * p + 1) cv) (90 + 12 * p + 2) wd) (90 + 12 * p + 3) len) (90 + 12 * p + 4) pr) (90 + 12 * p + 5) due) 5 (f 5 + nI 1)) 6 (f 6 + nI 1) = scomes f cv wd len pr due := by
  funext k
  unfold scomes
  rw [hp]
  by_cases h1 : 90 + 12 * p ≤ k ∧ k < 90 + 12 * p + 12
  · rw [if_pos h1]
    obtain ⟨j, rfl⟩ : ∃ j, k = 90 + 12 * p + j := ⟨k - (90 + 12 * p), by omega⟩
    rw [Nat.add_sub_cancel_left, upd_n (by omega), upd_n (by omega)]
    have hj : j < 12 := by omega
    by_cases e5 : j = 5
    · subst e5; rw [upd_s]; rfl
    rw [upd_n (by omega)]
    by_cases e4 : j = 4
    · subst e4; rw [upd_s]; rfl
    rw [upd_n (by omega)]
    by_cases e3 : j = 3
    · subst e3; rw [upd_s]; rfl
    rw [upd_n (by omega)]
    by_cases e2 : j = 2
    · subst e2; rw [upd_s]; rfl
    rw [upd_n (by omega)]
    by_cases e1 : j = 1
    · subst e1; rw [upd_s]; rfl
    rw [upd_n (by omega)]
    by_cases e0 : j = 0
    · subst e0; rw [upd_s]; rfl
    rw [upd_n (by omega), cpy_in hj]
    match j, e0, e1, e2, e3, e4, e5 with
    | j + 6, _, _, _, _, _, _ => rfl
  · rw [if_neg h1]
    by_cases h6 : k = 6
    · subst h6; rw [upd_s, if_neg (by omega), upd_s]
    by_cases h5 : k = 5
    · subst h5; rw [upd_n (by decide), upd_s, if_neg (by omega), upd_n (by decide), upd_s]
    rw [upd_n h6, upd_n h5, upd_n (by omega), upd_n (by omega), upd_n (by omega), upd_n (by omega), upd_n (by omega), upd_n (by omega), cpy_out (by omega), upd_n h6, upd_n h5]
    unfold sshf
    by_cases h2 : 90 + 12 * p + 12 ≤ k ∧ k < 90 + 12 * (smany f + 1)
    · rw [if_pos h2, if_pos (by omega)]
    · rw [if_neg h2, if_neg (by omega)]
set_option maxHeartbeats 4000000 in
theorem lp_X6_comesA {p : Program} {l : Launch} {e : Env} {s : State} {m : MethodId} {args : Array Value} {below : List Frame} {meth : Method} {c : Code} {D : va_G} {cA : Nat → ClassId} {N0 : Nat} {Sh : jS} {I : jI} {P : jP} {L : jL} {Qf : State → Prop} (C : jC p (jRm 1 0 0) s m args meth c D cA N0 cX6_comes 9 RX6 1) {x : Nat} (hS : mS Sh x) (hP : mP P x) {cv wd len pr due : Int32} {mc n : Nat} (hnm : n + 1 ≤ mc) (hm : mc < 10) {v : Option Value} (hx : ∀ u, jJ p l e (jRm 1 0 0) s m args below meth c D cA N0 9 Qf (fun _ => True) Sh (va_up I (x + 1) (sshf (I (x + 1)) mc n)) P L 0 0 75 [some (.ref x), some (.int cv), some (.int wd), some (.int len), some (.int pr), some (.int due), some (.int (nI (n + 1))), u, v] []) : ∀ d i, i + d = 12 → jJ p l e (jRm 1 0 0) s m args below meth c D cA N0 9 Qf (fun _ => True) Sh (va_up I (x + 1) (cpy (sshf (I (x + 1)) mc (n + 1)) (I (x + 1)) (90 + 12 * (n + 1)) (90 + 12 * n) i)) P L 0 0 33 [some (.ref x), some (.int cv), some (.int wd), some (.int len), some (.int pr), some (.int due), some (.int (nI (n + 1))), some (.int (nI i)), v] [] := by
  intro d
  induction d with
  | zero =>
    intro i hi
    obtain rfl : i = 12 := by omega
    rw [sshf_s hnm]
    refine jx_iload (pc := 33) C dX6_comes_33 rfl ?_
    refine jx_bipush (pc := 35) C dX6_comes_35 nb_12 ?_
    refine jx_icmp_ge (pc := 37) C (tgt := 75) dX6_comes_37 (by decide) (fun c37 => ?_) (fun c37 => (by rw [nI_leI (by omega) (by omega)] at c37; exfalso; omega))
    rw [nI_leI (by omega) (by omega)] at c37
    exact hx _
  | succ d ih =>
    intro i hi
    have h1 : (va_up I (x + 1) (cpy (sshf (I (x + 1)) mc (n + 1)) (I (x + 1)) (90 + 12 * (n + 1)) (90 + 12 * n) i)) (x + 1) (90 + 12 * (n + 1 - 1) + i) = (I (x + 1)) (90 + 12 * n + i) := by
      rw [va_up_s, cpy_out (by omega)]
      unfold sshf
      rw [if_neg (by omega)]
      exact congrArg _ (by omega)
    refine jx_iload (pc := 33) C dX6_comes_33 rfl ?_
    refine jx_bipush (pc := 35) C dX6_comes_35 nb_12 ?_
    refine jx_icmp_ge (pc := 37) C (tgt := 75) dX6_comes_37 (by decide) (fun c37 => (by rw [nI_leI (by omega) (by omega)] at c37; exfalso; omega)) (fun c37 => ?_)
    rw [nI_leI (by omega) (by omega)] at c37
    refine jx_aload_n (pc := 40) C dX6_comes_40 rfl ?_
    refine jx_getP (pc := 41) C kf_X6_7 rfl hS.1 hP.1 dX6_comes_41 ?_
    refine jx_bipush (pc := 44) C dX6_comes_44 nb_90 ?_
    refine jx_bipush (pc := 46) C dX6_comes_46 nb_12 ?_
    refine jx_iload (pc := 48) C dX6_comes_48 rfl ?_
    refine jx_imulN (pc := 50) C dX6_comes_50 ?_
    refine jx_iaddN (pc := 51) C dX6_comes_51 ?_
    refine jx_iload (pc := 52) C dX6_comes_52 rfl ?_
    refine jx_iaddN (pc := 54) C dX6_comes_54 ?_
    refine jx_aload_n (pc := 55) C dX6_comes_55 rfl ?_
    refine jx_getP (pc := 56) C kf_X6_7 rfl hS.1 hP.1 dX6_comes_56 ?_
    refine jx_iload (pc := 59) C dX6_comes_59 rfl ?_
    refine jx_iconst (pc := 61) C dX6_comes_61 nc_1 ?_
    refine jx_isubN (pc := 62) C (by omega) dX6_comes_62 ?_
    refine jx_iload (pc := 63) C dX6_comes_63 rfl ?_
    refine jx_callD (pc := 65) C (go_X6_43 C  (Nat.le_of_ble_eq_true rfl) dX6_comes_65) (t_X6_byv hS.2.1 (by omega) h1) (by decide) (by decide) ⟨Nat.zero_le _, Nat.zero_le _⟩ ?_
    refine jx_iast (pc := 68) C hS.2.1 (by omega) (by decide) dX6_comes_68 ?_
    rw [jst_up, cpy_s]
    refine jx_iincN (pc := 69) C dX6_comes_69 rfl (jset_7 jc_i) (by decide) ?_
    refine jx_goto (pc := 72) C (tgt := 33) dX6_comes_72 (by decide) ?_
    exact ih (i + 1) (by omega)
set_option maxHeartbeats 4000000 in
theorem lp_X6_comesB {p : Program} {l : Launch} {e : Env} {s : State} {m : MethodId} {args : Array Value} {below : List Frame} {meth : Method} {c : Code} {D : va_G} {cA : Nat → ClassId} {N0 : Nat} {Sh : jS} {I : jI} {P : jP} {L : jL} {Qf : State → Prop} (C : jC p (jRm 1 0 0) s m args meth c D cA N0 cX6_comes 9 RX6 1) {x : Nat} (hS : mS Sh x) (hP : mP P x) {cv wd len pr due : Int32} {mc : Nat} (hm : mc < 10) {v : Option Value} : ∀ n, n ≤ mc → ∀ u, (∀ u, jJ p l e (jRm 1 0 0) s m args below meth c D cA N0 9 Qf (fun _ => True) Sh (va_up I (x + 1) (sshf (I (x + 1)) mc (spos (I (x + 1)) due n))) P L 0 0 81 [some (.ref x), some (.int cv), some (.int wd), some (.int len), some (.int pr), some (.int due), some (.int (nI (spos (I (x + 1)) due n))), u, v] []) → jJ p l e (jRm 1 0 0) s m args below meth c D cA N0 9 Qf (fun _ => True) Sh (va_up I (x + 1) (sshf (I (x + 1)) mc n)) P L 0 0 8 [some (.ref x), some (.int cv), some (.int wd), some (.int len), some (.int pr), some (.int due), some (.int (nI (n))), u, v] [] := by
  intro n
  induction n with
  | zero =>
    intro hn u hx
    refine jx_iload (pc := 8) C dX6_comes_8 rfl ?_
    refine jx_if_le (pc := 10) C (tgt := 81) dX6_comes_10 (by decide) (fun c10 => ?_) (fun c10 => (by rw [nI_le0 (by omega)] at c10; exfalso; omega))
    rw [nI_le0 (by omega)] at c10
    exact hx _
  | succ n ih =>
    intro hn u hx
    have h1 : (va_up I (x + 1) (sshf (I (x + 1)) mc (n + 1))) (x + 1) (90 + 12 * (n + 1 - 1) + 5) = (I (x + 1)) (90 + 12 * n + 5) := by
      rw [va_up_s]
      unfold sshf
      rw [if_neg (by omega)]
      exact congrArg _ (by omega)
    refine jx_iload (pc := 8) C dX6_comes_8 rfl ?_
    refine jx_if_le (pc := 10) C (tgt := 81) dX6_comes_10 (by decide) (fun c10 => (by rw [nI_le0 (by omega)] at c10; exfalso; omega)) (fun c10 => ?_)
    rw [nI_le0 (by omega)] at c10
    refine jx_aload_n (pc := 13) C dX6_comes_13 rfl ?_
    refine jx_getP (pc := 14) C kf_X6_7 rfl hS.1 hP.1 dX6_comes_14 ?_
    refine jx_iload (pc := 17) C dX6_comes_17 rfl ?_
    refine jx_iconst (pc := 19) C dX6_comes_19 nc_1 ?_
    refine jx_isubN (pc := 20) C (by omega) dX6_comes_20 ?_
    refine jx_iconst (pc := 21) C dX6_comes_21 nc_5 ?_
    refine jx_callD (pc := 22) C (go_X6_43 C  (Nat.le_of_ble_eq_true rfl) dX6_comes_22) (t_X6_byv hS.2.1 (by omega) h1) (by decide) (by decide) ⟨Nat.zero_le _, Nat.zero_le _⟩ ?_
    refine jx_iload (pc := 25) C dX6_comes_25 rfl ?_
    refine jx_icmp_le (pc := 27) C (tgt := 81) dX6_comes_27 (by decide) (fun c27 => ?_) (fun c27 => ?_)
    · rw [show spos (I (x + 1)) due (n + 1) = n + 1 from if_pos c27] at hx
      exact hx _
    · refine jx_iconst (pc := 30) C dX6_comes_30 nc_0 ?_
      refine jx_istore (pc := 31) C dX6_comes_31 (jset_7 jc_i) (by decide) ?_
      rw [show spos (I (x + 1)) due (n + 1) = spos (I (x + 1)) due n from if_neg c27] at hx
      refine jx_mem (I' := (va_up I (x + 1) (cpy (sshf (I (x + 1)) mc (n + 1)) (I (x + 1)) (90 + 12 * (n + 1)) (90 + 12 * n) 0))) (P' := P) (by rw [cpy_0]) rfl ?_
      refine lp_X6_comesA C hS hP hn hm (fun u2 => ?_) 12 0 rfl
      refine jx_iincM (pc := 75) C dX6_comes_75 rfl (jset_6 jc_i) (by decide) ?_
      refine jx_goto (pc := 78) C (tgt := 8) dX6_comes_78 (by decide) ?_
      exact ih (by omega) _ hx
set_option maxHeartbeats 4000000 in
theorem lp_X6_comesC {p : Program} {l : Launch} {e : Env} {s : State} {m : MethodId} {args : Array Value} {below : List Frame} {meth : Method} {c : Code} {D : va_G} {cA : Nat → ClassId} {N0 : Nat} {Sh : jS} {I : jI} {P : jP} {L : jL} {Qf : State → Prop} (C : jC p (jRm 1 0 0) s m args meth c D cA N0 cX6_comes 9 RX6 1) {x : Nat} (hS : mS Sh x) (hP : mP P x) {cv wd len pr due : Int32} {g : sF} {q r : Nat} (hr12 : r + 12 ≤ 210) (hx : jJ p l e (jRm 1 0 0) s m args below meth c D cA N0 9 Qf (fun _ => True) Sh (va_up I (x + 1) (cpy g (fun _ => nI 0) r 0 12)) P L 0 0 118 [some (.ref x), some (.int cv), some (.int wd), some (.int len), some (.int pr), some (.int due), some (.int (nI q)), some (.int (nI r)), some (.int (nI 12))] []) : ∀ d i, i + d = 12 → jJ p l e (jRm 1 0 0) s m args below meth c D cA N0 9 Qf (fun _ => True) Sh (va_up I (x + 1) (cpy g (fun _ => nI 0) r 0 i)) P L 0 0 94 [some (.ref x), some (.int cv), some (.int wd), some (.int len), some (.int pr), some (.int due), some (.int (nI q)), some (.int (nI r)), some (.int (nI i))] [] := by
  intro d
  induction d with
  | zero =>
    intro i hi
    obtain rfl : i = 12 := by omega
    refine jx_iload (pc := 94) C dX6_comes_94 rfl ?_
    refine jx_bipush (pc := 96) C dX6_comes_96 nb_12 ?_
    refine jx_icmp_ge (pc := 98) C (tgt := 118) dX6_comes_98 (by decide) (fun c98 => ?_) (fun c98 => (by rw [nI_leI (by omega) (by omega)] at c98; exfalso; omega))
    rw [nI_leI (by omega) (by omega)] at c98
    exact hx
  | succ d ih =>
    intro i hi
    have h2 := cpy_s (g := g) (h := fun _ => nI 0) (b := r) (c := 0) (n := i)
    refine jx_iload (pc := 94) C dX6_comes_94 rfl ?_
    refine jx_bipush (pc := 96) C dX6_comes_96 nb_12 ?_
    refine jx_icmp_ge (pc := 98) C (tgt := 118) dX6_comes_98 (by decide) (fun c98 => (by rw [nI_leI (by omega) (by omega)] at c98; exfalso; omega)) (fun c98 => ?_)
    rw [nI_leI (by omega) (by omega)] at c98
    refine jx_aload_n (pc := 101) C dX6_comes_101 rfl ?_
    refine jx_getP (pc := 102) C kf_X6_7 rfl hS.1 hP.1 dX6_comes_102 ?_
    refine jx_iload (pc := 105) C dX6_comes_105 rfl ?_
    refine jx_iload (pc := 107) C dX6_comes_107 rfl ?_
    refine jx_iaddN (pc := 109) C dX6_comes_109 ?_
    refine jx_iconst (pc := 110) C dX6_comes_110 nc_0 ?_
    refine jx_iast (pc := 111) C hS.2.1 (by omega) (by decide) dX6_comes_111 ?_
    rw [jst_up, h2]
    refine jx_iincN (pc := 112) C dX6_comes_112 rfl (jset_8 jc_i) (by decide) ?_
    refine jx_goto (pc := 115) C (tgt := 94) dX6_comes_115 (by decide) ?_
    exact ih (i + 1) (by omega)
set_option maxHeartbeats 4000000 in
theorem b_X6_comes {p : Program} {l : Launch} {e : Env} {s : State} {m : MethodId} {args : Array Value} {below : List Frame} {meth : Method} {c : Code} {D : va_G} {cA : Nat → ClassId} {N0 : Nat} {Sh : jS} {I : jI} {P : jP} {L : jL} (C : jC p (jRm 1 0 0) s m args meth c D cA N0 cX6_comes 9 RX6 1) (hr : meth.sig.returnType = (some .int)) {x : Nat} (hS : mS Sh x) (hP : mP P x) {cv wd len pr due : Int32} (hm : (I (x + 1)) 5 = nI (smany (I (x + 1)))) (hk : smany (I (x + 1)) < 10) : jJ p l e (jRm 1 0 0) s m args below meth c D cA N0 9 (MQ below (jQn D cA N0 Sh (jD (some (.int ((I (x + 1)) 6))) (va_up I (x + 1) (scomes (I (x + 1)) cv wd len pr due)) P L)) args s 0 0 (fun q => N0 ≤ q)) (fun _ => True) Sh I P L 0 0 0 [some (.ref x), some (.int cv), some (.int wd), some (.int len), some (.int pr), some (.int due), none, none, none] [] := by
  refine jx_aload_n (pc := 0) C dX6_comes_0 rfl ?_
  refine jx_getP (pc := 1) C kf_X6_7 rfl hS.1 hP.1 dX6_comes_1 ?_
  refine jx_iconst (pc := 4) C dX6_comes_4 nc_5 ?_
  refine jx_ialdv (pc := 5) C hS.2.1 (by omega) (by decide) hm dX6_comes_5 ?_
  refine jx_istore (pc := 6) C dX6_comes_6 (jset_6 jc_i) (by decide) ?_
  refine jx_mem (I' := (va_up I (x + 1) (sshf (I (x + 1)) (smany (I (x + 1))) (smany (I (x + 1)))))) (P' := P) (by rw [sshf_0]; exact va_up_id.symm) rfl ?_
  refine lp_X6_comesB C hS hP hk (smany (I (x + 1))) (Nat.le_refl _) none (fun u => ?_)
  have hpm := spos_le (f := (I (x + 1))) (due := due) (smany (I (x + 1)))
  generalize hp : spos (I (x + 1)) due (smany (I (x + 1))) = q at hpm ⊢
  refine jx_bipush (pc := 81) C dX6_comes_81 nb_90 ?_
  refine jx_bipush (pc := 83) C dX6_comes_83 nb_12 ?_
  refine jx_iload (pc := 85) C dX6_comes_85 rfl ?_
  refine jx_imulN (pc := 87) C dX6_comes_87 ?_
  refine jx_iaddN (pc := 88) C dX6_comes_88 ?_
  refine jx_istore (pc := 89) C dX6_comes_89 (jset_7 jc_i) (by decide) ?_
  refine jx_iconst (pc := 91) C dX6_comes_91 nc_0 ?_
  refine jx_istore (pc := 92) C dX6_comes_92 (jset_8 jc_i) (by decide) ?_
  refine jx_mem (I' := (va_up I (x + 1) (cpy (sshf (I (x + 1)) (smany (I (x + 1))) q) (fun _ => nI 0) (90 + 12 * q) 0 0))) (P' := P) (by rw [cpy_0]) rfl ?_
  refine lp_X6_comesC C hS hP (by omega) ?_ 12 0 rfl
  have e6 : cpy (sshf (I (x + 1)) (smany (I (x + 1))) q) (fun _ => nI 0) (90 + 12 * q) 0 12 6 = (I (x + 1)) 6 := by rw [cpy_out (by omega)]; unfold sshf; rw [if_neg (by omega)]
  have e5 : cpy (sshf (I (x + 1)) (smany (I (x + 1))) q) (fun _ => nI 0) (90 + 12 * q) 0 12 5 = (I (x + 1)) 5 := by rw [cpy_out (by omega)]; unfold sshf; rw [if_neg (by omega)]
  refine jx_aload_n (pc := 118) C dX6_comes_118 rfl ?_
  refine jx_getP (pc := 119) C kf_X6_7 rfl hS.1 hP.1 dX6_comes_119 ?_
  refine jx_iload (pc := 122) C dX6_comes_122 rfl ?_
  refine jx_iconst (pc := 124) C dX6_comes_124 nc_0 ?_
  refine jx_iaddN (pc := 125) C dX6_comes_125 ?_
  refine jx_aload_n (pc := 126) C dX6_comes_126 rfl ?_
  refine jx_getP (pc := 127) C kf_X6_7 rfl hS.1 hP.1 dX6_comes_127 ?_
  refine jx_bipush (pc := 130) C dX6_comes_130 nb_6 ?_
  refine jx_ialdv (pc := 132) C hS.2.1 (by omega) (by decide) ((congrFun va_up_s _).trans e6) dX6_comes_132 ?_
  refine jx_iast (pc := 133) C hS.2.1 (by omega) (by decide) dX6_comes_133 ?_
  rw [jst_up]
  refine jx_aload_n (pc := 134) C dX6_comes_134 rfl ?_
  refine jx_getP (pc := 135) C kf_X6_7 rfl hS.1 hP.1 dX6_comes_135 ?_
  refine jx_iload (pc := 138) C dX6_comes_138 rfl ?_
  refine jx_iconst (pc := 140) C dX6_comes_140 nc_1 ?_
  refine jx_iaddN (pc := 141) C dX6_comes_141 ?_
  refine jx_iload_n (pc := 142) C dX6_comes_142 rfl ?_
  refine jx_iast (pc := 143) C hS.2.1 (by omega) (by decide) dX6_comes_143 ?_
  rw [jst_up]
  refine jx_aload_n (pc := 144) C dX6_comes_144 rfl ?_
  refine jx_getP (pc := 145) C kf_X6_7 rfl hS.1 hP.1 dX6_comes_145 ?_
  refine jx_iload (pc := 148) C dX6_comes_148 rfl ?_
  refine jx_iconst (pc := 150) C dX6_comes_150 nc_2 ?_
  refine jx_iaddN (pc := 151) C dX6_comes_151 ?_
  refine jx_iload_n (pc := 152) C dX6_comes_152 rfl ?_
  refine jx_iast (pc := 153) C hS.2.1 (by omega) (by decide) dX6_comes_153 ?_
  rw [jst_up]
  refine jx_aload_n (pc := 154) C dX6_comes_154 rfl ?_
  refine jx_getP (pc := 155) C kf_X6_7 rfl hS.1 hP.1 dX6_comes_155 ?_
  refine jx_iload (pc := 158) C dX6_comes_158 rfl ?_
  refine jx_iconst (pc := 160) C dX6_comes_160 nc_3 ?_
  refine jx_iaddN (pc := 161) C dX6_comes_161 ?_
  refine jx_iload_n (pc := 162) C dX6_comes_162 rfl ?_
  refine jx_iast (pc := 163) C hS.2.1 (by omega) (by decide) dX6_comes_163 ?_
  rw [jst_up]
  refine jx_aload_n (pc := 164) C dX6_comes_164 rfl ?_
  refine jx_getP (pc := 165) C kf_X6_7 rfl hS.1 hP.1 dX6_comes_165 ?_
  refine jx_iload (pc := 168) C dX6_comes_168 rfl ?_
  refine jx_iconst (pc := 170) C dX6_comes_170 nc_4 ?_
  refine jx_iaddN (pc := 171) C dX6_comes_171 ?_
  refine jx_iload (pc := 172) C dX6_comes_172 rfl ?_
  refine jx_iast (pc := 174) C hS.2.1 (by omega) (by decide) dX6_comes_174 ?_
  rw [jst_up]
  refine jx_aload_n (pc := 175) C dX6_comes_175 rfl ?_
  refine jx_getP (pc := 176) C kf_X6_7 rfl hS.1 hP.1 dX6_comes_176 ?_
  refine jx_iload (pc := 179) C dX6_comes_179 rfl ?_
  refine jx_iconst (pc := 181) C dX6_comes_181 nc_5 ?_
  refine jx_iaddN (pc := 182) C dX6_comes_182 ?_
  refine jx_iload (pc := 183) C dX6_comes_183 rfl ?_
  refine jx_iast (pc := 185) C hS.2.1 (by omega) (by decide) dX6_comes_185 ?_
  rw [jst_up]
  refine jx_aload_n (pc := 186) C dX6_comes_186 rfl ?_
  refine jx_getP (pc := 187) C kf_X6_7 rfl hS.1 hP.1 dX6_comes_187 ?_
  refine jx_iconst (pc := 190) C dX6_comes_190 nc_5 ?_
  refine jx_dup2_11 (pc := 191) C dX6_comes_191 rfl rfl ?_
  refine jx_ialdv (pc := 192) C hS.2.1 (by omega) (by decide) ((congrFun va_up_s _).trans (by rw [upd_n (by omega), upd_n (by omega), upd_n (by omega), upd_n (by omega), upd_n (by omega), upd_n (by omega), e5])) dX6_comes_192 ?_
  refine jx_iconst (pc := 193) C dX6_comes_193 nc_1 ?_
  refine jx_iadd (pc := 194) C dX6_comes_194 ?_
  refine jx_iast (pc := 195) C hS.2.1 (by omega) (by decide) dX6_comes_195 ?_
  rw [jst_up]
  refine jx_aload_n (pc := 196) C dX6_comes_196 rfl ?_
  refine jx_getP (pc := 197) C kf_X6_7 rfl hS.1 hP.1 dX6_comes_197 ?_
  refine jx_bipush (pc := 200) C dX6_comes_200 nb_6 ?_
  refine jx_dup2_11 (pc := 202) C dX6_comes_202 rfl rfl ?_
  refine jx_ialdv (pc := 203) C hS.2.1 (by omega) (by decide) ((congrFun va_up_s _).trans (by rw [upd_n (by omega), upd_n (by omega), upd_n (by omega), upd_n (by omega), upd_n (by omega), upd_n (by omega), upd_n (by omega), e6])) dX6_comes_203 ?_
  refine jx_iconst (pc := 204) C dX6_comes_204 nc_1 ?_
  refine jx_iadd (pc := 205) C dX6_comes_205 ?_
  refine jx_iast (pc := 206) C hS.2.1 (by omega) (by decide) dX6_comes_206 ?_
  rw [jst_up]
  refine jx_aload_n (pc := 207) C dX6_comes_207 rfl ?_
  refine jx_getP (pc := 208) C kf_X6_7 rfl hS.1 hP.1 dX6_comes_208 ?_
  refine jx_bipush (pc := 211) C dX6_comes_211 nb_6 ?_
  refine jx_ialdv (pc := 213) C hS.2.1 (by omega) (by decide) ((congrFun va_up_s _).trans upd_s) dX6_comes_213 ?_
  refine jx_iconst (pc := 214) C dX6_comes_214 nc_1 ?_
  refine jx_isub (pc := 215) C dX6_comes_215 ?_
  exact jn_iret (pc := 216) C hr (by rw [scomes_eq hp hpm]; exact jD_i (i32_ac _ _)) dX6_comes_216
theorem t_X6_comes {l : Launch} {D : va_G} {cA : Nat → ClassId} {N0 : Nat} {Sh : jS} {I : jI} {P : jP} {L : jL} {x : Nat} (hS : mS Sh x) (hP : mP P x) {cv wd len pr due : Int32} (hm : (I (x + 1)) 5 = nI (smany (I (x + 1)))) (hk : smany (I (x + 1)) < 10) : jN l D cA N0 1 yX6_comes cX6_comes 9 (some .int) [.ref x, .int cv, .int wd, .int len, .int pr, .int due] Sh I P L (jD (some (.int ((I (x + 1)) 6))) (va_up I (x + 1) (scomes (I (x + 1)) cv wd len pr due)) P L) := jN_of (by decide) (Nat.le_of_ble_eq_true rfl) (fun _ _ _ _ _ _ _ _ C hr => b_X6_comes C hr hS hP hm hk)
set_option maxHeartbeats 4000000 in
theorem b_X6_order {p : Program} {l : Launch} {e : Env} {s : State} {m : MethodId} {args : Array Value} {below : List Frame} {meth : Method} {c : Code} {D : va_G} {cA : Nat → ClassId} {N0 : Nat} {Sh : jS} {I : jI} {P : jP} {L : jL} (C : jC p (jRm 2 0 0) s m args meth c D cA N0 cX6_order 6 RX6 2) (hr : meth.sig.returnType = (some .int)) {x : Nat} (hS : mS Sh x) (hP : mP P x) {q0 : Nat} (hq0 : I x 3 = nI q0) (hqq : q0 ≤ 6) {cv wd len pr due : Int32} (hok : sOK (I (x + 1))) : jJ p l e (jRm 2 0 0) s m args below meth c D cA N0 6 (MQ below (jQn D cA N0 Sh (mDo I P L x (sorder (I (x + 1)) cv wd len pr due))) args s 0 0 (fun q => N0 ≤ q)) (fun _ => True) Sh I P L 0 0 0 [some (.ref x), some (.int cv), some (.int wd), some (.int len), some (.int pr), some (.int due)] [] := by
  have hk := hok.2.1
  refine jx_aload_n (pc := 0) C dX6_order_0 rfl ?_
  refine jx_iconst (pc := 1) C dX6_order_1 nc_0 ?_
  refine jx_putI (pc := 2) C kf_X6_28 rfl rfl rfl rfl hS.1 dX6_order_2 ?_
  refine jx_iload_n (pc := 5) C dX6_order_5 rfl ?_
  refine jx_callD (pc := 6) C (go_X6_110 C  (Nat.le_of_ble_eq_true rfl) dX6_order_6) t_X6_isColour (by decide) (by decide) ⟨Nat.zero_le _, Nat.zero_le _⟩ ?_
  refine jx_if_ne (pc := 9) C (tgt := 18) dX6_order_9 (by decide) (fun c9 => ?_) (fun c9 => ?_)
  · rw [bI_0, decide_eq_false_iff_not, Decidable.not_not] at c9
    refine jx_iload_n (pc := 18) C dX6_order_18 rfl ?_
    refine jx_bipush (pc := 19) C dX6_order_19 nb_40 ?_
    refine jx_sipush (pc := 21) C dX6_order_21 ns_200 ?_
    refine jx_callD (pc := 24) C (go_X6_32 C  (Nat.le_of_ble_eq_true rfl) dX6_order_24) t_X6_in (by decide) (by decide) ⟨Nat.zero_le _, Nat.zero_le _⟩ ?_
    refine jx_if_eq (pc := 27) C (tgt := 64) dX6_order_27 (by decide) (fun c27 => ?_) (fun c27 => ?_)
    · rw [bI_0, decide_eq_false_iff_not] at c27
      refine jx_aload_n (pc := 64) C dX6_order_64 rfl ?_
      refine jx_iconst (pc := 65) C dX6_order_65 nc_2 ?_
      refine jx_callD (pc := 66) C (go_X6_39 C hS.1 (Nat.le_of_ble_eq_true rfl) dX6_order_66) (t_X6_fails hS.1) (by decide) (by decide) ⟨Nat.zero_le _, Nat.zero_le _⟩ ?_
      exact jn_iret (pc := 69) C hr (mDo_fail (k := 2) (by unfold sorder; rw [if_pos c9, if_neg (by rintro ⟨h1, h2, h3, h4⟩; contradiction)]) (by decide)) dX6_order_69
    · rw [bI_0, decide_eq_false_iff_not, Decidable.not_not] at c27
      refine jx_iload_n (pc := 30) C dX6_order_30 rfl ?_
      refine jx_iconst (pc := 31) C dX6_order_31 nc_1 ?_
      refine jx_sipush (pc := 32) C dX6_order_32 ns_200 ?_
      refine jx_callD (pc := 35) C (go_X6_32 C  (Nat.le_of_ble_eq_true rfl) dX6_order_35) t_X6_in (by decide) (by decide) ⟨Nat.zero_le _, Nat.zero_le _⟩ ?_
      refine jx_if_eq (pc := 38) C (tgt := 64) dX6_order_38 (by decide) (fun c38 => ?_) (fun c38 => ?_)
      · rw [bI_0, decide_eq_false_iff_not] at c38
        refine jx_aload_n (pc := 64) C dX6_order_64 rfl ?_
        refine jx_iconst (pc := 65) C dX6_order_65 nc_2 ?_
        refine jx_callD (pc := 66) C (go_X6_39 C hS.1 (Nat.le_of_ble_eq_true rfl) dX6_order_66) (t_X6_fails hS.1) (by decide) (by decide) ⟨Nat.zero_le _, Nat.zero_le _⟩ ?_
        exact jn_iret (pc := 69) C hr (mDo_fail (k := 2) (by unfold sorder; rw [if_pos c9, if_neg (by rintro ⟨h1, h2, h3, h4⟩; contradiction)]) (by decide)) dX6_order_69
      · rw [bI_0, decide_eq_false_iff_not, Decidable.not_not] at c38
        refine jx_iload (pc := 41) C dX6_order_41 rfl ?_
        refine jx_iconst (pc := 43) C dX6_order_43 nc_1 ?_
        refine jx_bipush (pc := 44) C dX6_order_44 nb_99 ?_
        refine jx_callD (pc := 46) C (go_X6_32 C  (Nat.le_of_ble_eq_true rfl) dX6_order_46) t_X6_in (by decide) (by decide) ⟨Nat.zero_le _, Nat.zero_le _⟩ ?_
        refine jx_if_eq (pc := 49) C (tgt := 64) dX6_order_49 (by decide) (fun c49 => ?_) (fun c49 => ?_)
        · rw [bI_0, decide_eq_false_iff_not] at c49
          refine jx_aload_n (pc := 64) C dX6_order_64 rfl ?_
          refine jx_iconst (pc := 65) C dX6_order_65 nc_2 ?_
          refine jx_callD (pc := 66) C (go_X6_39 C hS.1 (Nat.le_of_ble_eq_true rfl) dX6_order_66) (t_X6_fails hS.1) (by decide) (by decide) ⟨Nat.zero_le _, Nat.zero_le _⟩ ?_
          exact jn_iret (pc := 69) C hr (mDo_fail (k := 2) (by unfold sorder; rw [if_pos c9, if_neg (by rintro ⟨h1, h2, h3, h4⟩; contradiction)]) (by decide)) dX6_order_69
        · rw [bI_0, decide_eq_false_iff_not, Decidable.not_not] at c49
          refine jx_iload (pc := 52) C dX6_order_52 rfl ?_
          refine jx_iconst (pc := 54) C dX6_order_54 nc_0 ?_
          refine jx_sipush (pc := 55) C dX6_order_55 ns_9999 ?_
          refine jx_callD (pc := 58) C (go_X6_32 C  (Nat.le_of_ble_eq_true rfl) dX6_order_58) t_X6_in (by decide) (by decide) ⟨Nat.zero_le _, Nat.zero_le _⟩ ?_
          refine jx_if_ne (pc := 61) C (tgt := 70) dX6_order_61 (by decide) (fun c61 => ?_) (fun c61 => ?_)
          · rw [bI_0, decide_eq_false_iff_not, Decidable.not_not] at c61
            refine jx_aload_n (pc := 70) C dX6_order_70 rfl ?_
            refine jx_getP (pc := 71) C kf_X6_7 rfl hS.1 hP.1 dX6_order_71 ?_
            refine jx_iconst (pc := 74) C dX6_order_74 nc_5 ?_
            refine jx_ialdv (pc := 75) C hS.2.1 (by omega) (by decide) (congrFun (jst_ne (by omega)) _) dX6_order_75 ?_
            refine jx_bipush (pc := 76) C dX6_order_76 nb_10 ?_
            refine jx_icmp_ne (pc := 78) C (tgt := 87) dX6_order_78 (by decide) (fun c78 => ?_) (fun c78 => ?_)
            · refine jx_aload_n (pc := 87) C dX6_order_87 rfl ?_
              refine jx_callv (pc := 88) C (go_X6_107 C hS.1 (Nat.le_of_ble_eq_true rfl) dX6_order_88) (t_X6_saves hS hP ((congrFun jst_eq 3).trans ((upd_n (by decide)).trans hq0)) hqq) (by decide) (by decide) ⟨Nat.zero_le _, Nat.zero_le _⟩ (fun I88 P88 L88 q88 => ?_)
              obtain ⟨hsv, rfl, rfl⟩ := q88
              have hn : I88 (x + 1) = I (x + 1) := hsv.1.trans (jst_ne (by omega))
              refine jx_mem (I' := va_up I88 (x + 1) (I (x + 1))) (P' := _) (by rw [← hn]; exact va_up_id.symm) rfl ?_
              refine jx_aload_n (pc := 91) C dX6_order_91 rfl ?_
              refine jx_iload_n (pc := 92) C dX6_order_92 rfl ?_
              refine jx_iload_n (pc := 93) C dX6_order_93 rfl ?_
              refine jx_iload_n (pc := 94) C dX6_order_94 rfl ?_
              refine jx_iload (pc := 95) C dX6_order_95 rfl ?_
              refine jx_iload (pc := 97) C dX6_order_97 rfl ?_
              refine jx_callD (pc := 99) C (go_X6_114 C hS.1 (Nat.le_of_ble_eq_true rfl) dX6_order_99) (t_X6_comes hS hP (by rw [va_up_s]; exact hok.1) (by rw [va_up_s]; rcases Nat.lt_or_ge (smany (I (x + 1))) 10 with h | h; exact h; exact absurd (by rw [hok.1, show smany (I (x + 1)) = 10 by omega]) c78)) (by decide) (by decide) ⟨Nat.zero_le _, Nat.zero_le _⟩ ?_
              rw [va_up_s, va_up_u]
              exact jn_iret (pc := 102) C hr (mDo_okE hsv (by unfold sorder; rw [if_pos c9, if_pos ⟨c27, c38, c49, c61⟩, if_pos c78])) dX6_order_102
            · refine jx_aload_n (pc := 81) C dX6_order_81 rfl ?_
              refine jx_iconst (pc := 82) C dX6_order_82 nc_3 ?_
              refine jx_callD (pc := 83) C (go_X6_39 C hS.1 (Nat.le_of_ble_eq_true rfl) dX6_order_83) (t_X6_fails hS.1) (by decide) (by decide) ⟨Nat.zero_le _, Nat.zero_le _⟩ ?_
              exact jn_iret (pc := 86) C hr (mDo_fail (k := 3) (by unfold sorder; rw [if_pos c9, if_pos ⟨c27, c38, c49, c61⟩, if_neg (not_not_intro c78)]) (by decide)) dX6_order_86
          · rw [bI_0, decide_eq_false_iff_not] at c61
            refine jx_aload_n (pc := 64) C dX6_order_64 rfl ?_
            refine jx_iconst (pc := 65) C dX6_order_65 nc_2 ?_
            refine jx_callD (pc := 66) C (go_X6_39 C hS.1 (Nat.le_of_ble_eq_true rfl) dX6_order_66) (t_X6_fails hS.1) (by decide) (by decide) ⟨Nat.zero_le _, Nat.zero_le _⟩ ?_
            exact jn_iret (pc := 69) C hr (mDo_fail (k := 2) (by unfold sorder; rw [if_pos c9, if_neg (by rintro ⟨h1, h2, h3, h4⟩; contradiction)]) (by decide)) dX6_order_69
  · rw [bI_0, decide_eq_false_iff_not] at c9
    refine jx_aload_n (pc := 12) C dX6_order_12 rfl ?_
    refine jx_iconst (pc := 13) C dX6_order_13 nc_1 ?_
    refine jx_callD (pc := 14) C (go_X6_39 C hS.1 (Nat.le_of_ble_eq_true rfl) dX6_order_14) (t_X6_fails hS.1) (by decide) (by decide) ⟨Nat.zero_le _, Nat.zero_le _⟩ ?_
    exact jn_iret (pc := 17) C hr (mDo_fail (k := 1) (by unfold sorder; rw [if_neg c9]) (by decide)) dX6_order_17
theorem t_X6_order {l : Launch} {D : va_G} {cA : Nat → ClassId} {N0 : Nat} {Sh : jS} {I : jI} {P : jP} {L : jL} {x : Nat} (hS : mS Sh x) (hP : mP P x) {q0 : Nat} (hq0 : I x 3 = nI q0) (hqq : q0 ≤ 6) {cv wd len pr due : Int32} (hok : sOK (I (x + 1))) : jN l D cA N0 2 yX6_order cX6_order 6 (some .int) [.ref x, .int cv, .int wd, .int len, .int pr, .int due] Sh I P L (mDo I P L x (sorder (I (x + 1)) cv wd len pr due)) := jN_of (by decide) (Nat.le_of_ble_eq_true rfl) (fun _ _ _ _ _ _ _ _ C hr => b_X6_order C hr hS hP hq0 hqq hok)
