theorem spays_c {f : sF} {o : Nat} {du du' : Nat → Int32} (h : ∀ w, w < 6 → du w = du' w) : spays f o du = spays f o du' := by
  rw [spays_A, spays_A]
  unfold spaysA
  rw [spayN_c h]
theorem mm_of {I : jI} {x a : Nat} {d : Nat → Int32} (h : a ≠ x + 6) : va_up I (x + 6) d = mm I x a d (I a) := by
  unfold mm
  rw [show I a = va_up I (x + 6) d a from (va_up_n h).symm]
  exact va_up_id.symm
theorem smake_1 {f : sF} {w o : Nat} (hw : w < 6) (ho : o < 10) : smake f w o (18 + 12 * w + 1) = f (18 + 12 * w + 1) := smake_k (by omega) (by omega) (by omega) (by omega) (by omega)
theorem stake_1 {f f1 : sF} {w o : Nat} (hw : w < 6) (hc : scol f o < 4) (h : stake f w o = some f1) : f1 (18 + 12 * w + 1) = f (18 + 12 * w + 1) := stake_k h (by omega) (by omega) (by omega) (by omega) (by omega)
theorem swv_2 {w o : Nat} : ∀ (r : Nat) (f : sF), (swv w o r f).2 ≤ r := by
  intro r
  induction r with
  | zero => intro f; exact Nat.le_refl 0
  | succ r ih =>
    intro f
    unfold swv
    cases stake f w o with
    | none => exact Nat.zero_le _
    | some f1 =>
      dsimp only
      split
      · exact Nat.succ_le_succ (Nat.zero_le _)
      · exact Nat.succ_le_succ (ih _)
theorem swv_none {w o r : Nat} {f : sF} (h : stake f w o = none) : swv w o (r + 1) f = (f, 0) := by
  show (match stake f w o with | none => _ | some f1 => _) = _
  rw [h]
theorem swv_done {w o r : Nat} {f f1 : sF} (h : stake f w o = some f1) (hd : sgood (smake f1 w o) o = smake f1 w o (90 + 12 * o + 3)) : swv w o (r + 1) f = (spaysF (smake f1 w o) o, 1) := by
  show (match stake f w o with | none => _ | some f1 => _) = _
  rw [h]
  exact if_pos hd
theorem swv_more {w o r : Nat} {f f1 : sF} (h : stake f w o = some f1) (hd : ¬ sgood (smake f1 w o) o = smake f1 w o (90 + 12 * o + 3)) : swv w o (r + 1) f = ((swv w o r (smake f1 w o)).1, (swv w o r (smake f1 w o)).2 + 1) := by
  show (match stake f w o with | none => _ | some f1 => _) = _
  rw [h]
  exact if_neg hd
set_option maxHeartbeats 4000000 in
theorem lp_X6_pays {p : Program} {l : Launch} {e : Env} {s : State} {m : MethodId} {args : Array Value} {below : List Frame} {meth : Method} {c : Code} {D : va_G} {cA : Nat → ClassId} {N0 : Nat} {Sh : jS} {I : jI} {P : jP} {L : jL} {Qf : State → Prop} (C : jC p (jRm 3 0 0) s m args meth c D cA N0 cX6_pays 8 RX6 3) {x a : Nat} (hS : mS Sh x) (hP : mP P x) (hs : Sh a = some (10, 210)) (hne : a ≠ x + 6) {o : Nat} {du : Nat → Int32} (hx : ∀ u6 u7, jJ p l e (jRm 3 0 0) s m args below meth c D cA N0 8 Qf (fun _ => True) Sh (mm I x a du (spayN (I a) du 6)) P L 0 0 120 [some (.ref x), some (.ref a), some (.int (nI o)), some (.int (I a (90 + 12 * o + 3))), some (.int (swhole (I a) o (I a (90 + 12 * o + 3)))), some (.int (nI 6)), u6, u7] []) : ∀ d w u6 u7, w + d = 6 → jJ p l e (jRm 3 0 0) s m args below meth c D cA N0 8 Qf (fun _ => True) Sh (mm I x a du (spayN (I a) du w)) P L 0 0 27 [some (.ref x), some (.ref a), some (.int (nI o)), some (.int (I a (90 + 12 * o + 3))), some (.int (swhole (I a) o (I a (90 + 12 * o + 3)))), some (.int (nI w)), u6, u7] [] := by
  intro d
  induction d with
  | zero =>
    intro w u6 u7 hw
    obtain rfl : w = 6 := by omega
    refine jx_iload (pc := 27) C dX6_pays_27 rfl ?_
    refine jx_bipush (pc := 29) C dX6_pays_29 nb_6 ?_
    refine jx_icmp_ge (pc := 31) C (tgt := 120) dX6_pays_31 (by decide) (fun c31 => ?_) (fun c31 => (by rw [nI_leI (by omega) (by omega)] at c31; exfalso; omega))
    rw [nI_leI (by omega) (by omega)] at c31
    exact hx _ _
  | succ d ih =>
    intro w u6 u7 hw
    have key : ∀ v, v = (if spayN (I a) du w 3 = 0 then spayN (I a) du w (18 + 12 * w + 3) else if du w / spayN (I a) du w 3 ≤ spayN (I a) du w (18 + 12 * w + 3) then du w / spayN (I a) du w 3 else spayN (I a) du w (18 + 12 * w + 3)) → jJ p l e (jRm 3 0 0) s m args below meth c D cA N0 8 Qf (fun _ => True) Sh (mm I x a du (spayN (I a) du w)) P L 0 0 81 [some (.ref x), some (.ref a), some (.int (nI o)), some (.int (I a (90 + 12 * o + 3))), some (.int (swhole (I a) o (I a (90 + 12 * o + 3)))), some (.int (nI w)), some (.int (spayN (I a) du w (18 + 12 * w + 3))), u7] [.int v] := by
      intro v hv
      subst hv
      refine jx_istore (pc := 81) C dX6_pays_81 (jset_7 jc_i) (by decide) ?_
      refine jx_aload_n (pc := 83) C dX6_pays_83 rfl ?_
      refine jx_iload (pc := 84) C dX6_pays_84 rfl ?_
      refine jx_iconst (pc := 86) C dX6_pays_86 nc_3 ?_
      refine jx_iload (pc := 87) C dX6_pays_87 rfl ?_
      refine jx_ineg (pc := 89) C dX6_pays_89 ?_
      refine jx_callDv (pc := 90) C (go_X6_66 C  (Nat.le_of_ble_eq_true rfl) dX6_pays_90) (t_X6_adds hs (by omega)) (by decide) (by decide) ⟨Nat.zero_le _, Nat.zero_le _⟩ ?_
      rw [mm_st, mm_a]
      refine jx_aload_n (pc := 93) C dX6_pays_93 rfl ?_
      refine jx_iload (pc := 94) C dX6_pays_94 rfl ?_
      refine jx_iconst (pc := 96) C dX6_pays_96 nc_4 ?_
      refine jx_aload_n (pc := 97) C dX6_pays_97 rfl ?_
      refine jx_getP (pc := 98) C kf_X6_25 rfl hS.1 hP.2.2.2.2.2 dX6_pays_98 ?_
      refine jx_iload (pc := 101) C dX6_pays_101 rfl ?_
      refine jx_ialdv (pc := 103) C hS.2.2.2.2.2.2 (by omega) (by decide) (congrFun (mm_d hne) _) dX6_pays_103 ?_
      refine jx_iload (pc := 104) C dX6_pays_104 rfl ?_
      refine jx_aload_n (pc := 106) C dX6_pays_106 rfl ?_
      refine jx_iconst (pc := 107) C dX6_pays_107 nc_3 ?_
      refine jx_ialdv (pc := 108) C hs (by omega) (by decide) (congrFun mm_a _) dX6_pays_108 ?_
      refine jx_imul (pc := 109) C dX6_pays_109 ?_
      refine jx_isub (pc := 110) C dX6_pays_110 ?_
      refine jx_callDv (pc := 111) C (go_X6_66 C  (Nat.le_of_ble_eq_true rfl) dX6_pays_111) (t_X6_adds hs (by omega)) (by decide) (by decide) ⟨Nat.zero_le _, Nat.zero_le _⟩ ?_
      rw [mm_st, mm_a]
      refine jx_iincN (pc := 114) C dX6_pays_114 rfl (jset_5 jc_i) (by decide) ?_
      refine jx_goto (pc := 117) C (tgt := 27) dX6_pays_117 (by decide) ?_
      exact ih (w + 1) _ _ (by omega)
    refine jx_iload (pc := 27) C dX6_pays_27 rfl ?_
    refine jx_bipush (pc := 29) C dX6_pays_29 nb_6 ?_
    refine jx_icmp_ge (pc := 31) C (tgt := 120) dX6_pays_31 (by decide) (fun c31 => (by rw [nI_leI (by omega) (by omega)] at c31; exfalso; omega)) (fun c31 => ?_)
    rw [nI_leI (by omega) (by omega)] at c31
    refine jx_aload_n (pc := 34) C dX6_pays_34 rfl ?_
    refine jx_iload (pc := 35) C dX6_pays_35 rfl ?_
    refine jx_iconst (pc := 37) C dX6_pays_37 nc_3 ?_
    refine jx_callD (pc := 38) C (go_X6_47 C  (Nat.le_of_ble_eq_true rfl) dX6_pays_38) (t_X6_ofv hs (by omega) (congrFun mm_a _)) (by decide) (by decide) ⟨Nat.zero_le _, Nat.zero_le _⟩ ?_
    refine jx_istore (pc := 41) C dX6_pays_41 (jset_6 jc_i) (by decide) ?_
    refine jx_aload_n (pc := 43) C dX6_pays_43 rfl ?_
    refine jx_iconst (pc := 44) C dX6_pays_44 nc_3 ?_
    refine jx_ialdv (pc := 45) C hs (by omega) (by decide) (congrFun mm_a _) dX6_pays_45 ?_
    refine jx_if_eq (pc := 46) C (tgt := 65) dX6_pays_46 (by decide) (fun c46 => ?_) (fun c46 => ?_)
    · refine jx_iload (pc := 65) C dX6_pays_65 rfl ?_
      refine jx_goto (pc := 67) C (tgt := 81) dX6_pays_67 (by decide) ?_
      first | exact key _ (if_pos c46).symm | exact key _ ((if_neg c46).trans (if_pos c62)).symm | exact key _ ((if_neg c46).trans (if_neg c62)).symm
    · refine jx_aload_n (pc := 49) C dX6_pays_49 rfl ?_
      refine jx_getP (pc := 50) C kf_X6_25 rfl hS.1 hP.2.2.2.2.2 dX6_pays_50 ?_
      refine jx_iload (pc := 53) C dX6_pays_53 rfl ?_
      refine jx_ialdv (pc := 55) C hS.2.2.2.2.2.2 (by omega) (by decide) (congrFun (mm_d hne) _) dX6_pays_55 ?_
      refine jx_aload_n (pc := 56) C dX6_pays_56 rfl ?_
      refine jx_iconst (pc := 57) C dX6_pays_57 nc_3 ?_
      refine jx_ialdv (pc := 58) C hs (by omega) (by decide) (congrFun mm_a _) dX6_pays_58 ?_
      refine jx_idiv (pc := 59) C dX6_pays_59 c46 ?_
      refine jx_iload (pc := 60) C dX6_pays_60 rfl ?_
      refine jx_icmp_le (pc := 62) C (tgt := 70) dX6_pays_62 (by decide) (fun c62 => ?_) (fun c62 => ?_)
      · refine jx_aload_n (pc := 70) C dX6_pays_70 rfl ?_
        refine jx_getP (pc := 71) C kf_X6_25 rfl hS.1 hP.2.2.2.2.2 dX6_pays_71 ?_
        refine jx_iload (pc := 74) C dX6_pays_74 rfl ?_
        refine jx_ialdv (pc := 76) C hS.2.2.2.2.2.2 (by omega) (by decide) (congrFun (mm_d hne) _) dX6_pays_76 ?_
        refine jx_aload_n (pc := 77) C dX6_pays_77 rfl ?_
        refine jx_iconst (pc := 78) C dX6_pays_78 nc_3 ?_
        refine jx_ialdv (pc := 79) C hs (by omega) (by decide) (congrFun mm_a _) dX6_pays_79 ?_
        refine jx_idiv (pc := 80) C dX6_pays_80 c46 ?_
        first | exact key _ (if_pos c46).symm | exact key _ ((if_neg c46).trans (if_pos c62)).symm | exact key _ ((if_neg c46).trans (if_neg c62)).symm
      · refine jx_iload (pc := 65) C dX6_pays_65 rfl ?_
        refine jx_goto (pc := 67) C (tgt := 81) dX6_pays_67 (by decide) ?_
        first | exact key _ (if_pos c46).symm | exact key _ ((if_neg c46).trans (if_pos c62)).symm | exact key _ ((if_neg c46).trans (if_neg c62)).symm
set_option maxHeartbeats 4000000 in
theorem b_X6_pays {p : Program} {l : Launch} {e : Env} {s : State} {m : MethodId} {args : Array Value} {below : List Frame} {meth : Method} {c : Code} {D : va_G} {cA : Nat → ClassId} {N0 : Nat} {Sh : jS} {I : jI} {P : jP} {L : jL} (C : jC p (jRm 3 0 0) s m args meth c D cA N0 cX6_pays 8 RX6 3) (hr : meth.sig.returnType = none) {x a : Nat} (hS : mS Sh x) (hP : mP P x) (hs : Sh a = some (10, 210)) (hne : a ≠ x + 6) {o : Nat} (hok : sOK (I a)) (ho : o < smany (I a)) : jJ p l e (jRm 3 0 0) s m args below meth c D cA N0 8 (MQ below (jQn D cA N0 Sh (jNv (fun I' P' L' => (∃ d, I' = mm I x a d (spaysF (I a) o)) ∧ P' = P ∧ L' = L))) args s 0 0 (fun q => N0 ≤ q)) (fun _ => True) Sh I P L 0 0 0 [some (.ref x), some (.ref a), some (.int (nI o)), none, none, none, none, none] [] := by
  have hk := hok.2.1
  refine jx_aload_n (pc := 0) C dX6_pays_0 rfl ?_
  refine jx_iload_n (pc := 1) C dX6_pays_1 rfl ?_
  refine jx_iconst (pc := 2) C dX6_pays_2 nc_3 ?_
  refine jx_callD (pc := 3) C (go_X6_43 C  (Nat.le_of_ble_eq_true rfl) dX6_pays_3) (t_X6_by hs (by omega)) (by decide) (by decide) ⟨Nat.zero_le _, Nat.zero_le _⟩ ?_
  refine jx_istore_n (pc := 6) C dX6_pays_6 (jset_3 jc_i) (by decide) ?_
  refine jx_aload_n (pc := 7) C dX6_pays_7 rfl ?_
  refine jx_iload_n (pc := 8) C dX6_pays_8 rfl ?_
  refine jx_iload_n (pc := 9) C dX6_pays_9 rfl ?_
  refine jx_callD (pc := 10) C (go_X6_59 C  (Nat.le_of_ble_eq_true rfl) dX6_pays_10) (t_X6_whole hs (by omega)) (by decide) (by decide) ⟨Nat.zero_le _, Nat.zero_le _⟩ ?_
  refine jx_istore (pc := 13) C dX6_pays_13 (jset_4 jc_i) (by decide) ?_
  refine jx_aload_n (pc := 15) C dX6_pays_15 rfl ?_
  refine jx_aload_n (pc := 16) C dX6_pays_16 rfl ?_
  refine jx_iload_n (pc := 17) C dX6_pays_17 rfl ?_
  refine jx_iload (pc := 18) C dX6_pays_18 rfl ?_
  refine jx_iload_n (pc := 20) C dX6_pays_20 rfl ?_
  refine jx_callDv (pc := 21) C (go_X6_62 C hS.1 (Nat.le_of_ble_eq_true rfl) dX6_pays_21) (t_X6_shares hS hP hs hne (by omega)) (by decide) (by decide) ⟨Nat.zero_le _, Nat.zero_le _⟩ ?_
  refine jx_iconst (pc := 24) C dX6_pays_24 nc_0 ?_
  refine jx_istore (pc := 25) C dX6_pays_25 (jset_5 jc_i) (by decide) ?_
  generalize hdu : (sshares (I a) o (swhole (I a) o (I a (90 + 12 * o + 3))) (I a (90 + 12 * o + 3)) (I (x + 6))) = du
  rw [mm_of hne]
  refine lp_X6_pays C hS hP hs hne ?_ 6 0 none none rfl
  intro u6 u7
  have key : ∀ v, v = (if slate (upd (spayN (I a) du 6) 7 (spayN (I a) du 6 7 + nI 1)) o ≤ 0 then nI 0 else nI 1) → jJ p l e (jRm 3 0 0) s m args below meth c D cA N0 8 (MQ below (jQn D cA N0 Sh (jNv (fun I' P' L' => (∃ d, I' = mm I x a d (spaysF (I a) o)) ∧ P' = P ∧ L' = L))) args s 0 0 (fun q => N0 ≤ q)) (fun _ => True) Sh (mm I x a du (upd (spayN (I a) du 6) 7 (spayN (I a) du 6 7 + nI 1))) P L 0 0 146 [some (.ref x), some (.ref a), some (.int (nI o)), some (.int (I a (90 + 12 * o + 3))), some (.int (swhole (I a) o (I a (90 + 12 * o + 3)))), some (.int (nI 6)), u6, u7] [.int v, .int (upd (spayN (I a) du 6) 7 (spayN (I a) du 6 7 + nI 1) 8), .int (nI 8), .ref a] := by
    intro v hv
    subst hv
    refine jx_iadd (pc := 146) C dX6_pays_146 ?_
    refine jx_iast (pc := 147) C hs (by omega) (by decide) dX6_pays_147 ?_
    rw [mm_st]
    refine jx_aload_n (pc := 148) C dX6_pays_148 rfl ?_
    refine jx_bipush (pc := 149) C dX6_pays_149 nb_9 ?_
    refine jx_dup2_11 (pc := 151) C dX6_pays_151 rfl rfl ?_
    refine jx_ialdv (pc := 152) C hs (by omega) (by decide) (congrFun mm_a _) dX6_pays_152 ?_
    refine jx_iload (pc := 153) C dX6_pays_153 rfl ?_
    refine jx_iadd (pc := 155) C dX6_pays_155 ?_
    refine jx_iast (pc := 156) C hs (by omega) (by decide) dX6_pays_156 ?_
    rw [mm_st]
    have hA := spaysA_OK (o := o) (du := du) hok
    have ho2 : o < smany (spaysA (I a) o du) := by rw [hA.2]; exact ho
    refine jx_aload_n (pc := 157) C dX6_pays_157 rfl ?_
    refine jx_iload_n (pc := 158) C dX6_pays_158 rfl ?_
    refine jx_callDv (pc := 159) C (go_X6_69 C  (Nat.le_of_ble_eq_true rfl) dX6_pays_159) (t_X6_goes hs (by omega) (by rw [mm_a]; exact hA.1.1) (by rw [mm_a]; exact hA.1.2.1) (by rw [mm_a]; exact ho2)) (by decide) (by decide) ⟨Nat.zero_le _, Nat.zero_le _⟩ ?_
    rw [mm_a, mm_up]
    exact jn_vret (pc := 162) C hr (⟨rfl, ⟨du, by rw [show spaysF (I a) o = spays (I a) o du from spays_c (fun w hw => by rw [← hdu]; exact sshares_c hw)]; rfl⟩, rfl, rfl⟩) dX6_pays_162
  refine jx_aload_n (pc := 120) C dX6_pays_120 rfl ?_
  refine jx_bipush (pc := 121) C dX6_pays_121 nb_7 ?_
  refine jx_dup2_11 (pc := 123) C dX6_pays_123 rfl rfl ?_
  refine jx_ialdv (pc := 124) C hs (by omega) (by decide) (congrFun mm_a _) dX6_pays_124 ?_
  refine jx_iconst (pc := 125) C dX6_pays_125 nc_1 ?_
  refine jx_iadd (pc := 126) C dX6_pays_126 ?_
  refine jx_iast (pc := 127) C hs (by omega) (by decide) dX6_pays_127 ?_
  rw [mm_st]
  refine jx_aload_n (pc := 128) C dX6_pays_128 rfl ?_
  refine jx_bipush (pc := 129) C dX6_pays_129 nb_8 ?_
  refine jx_dup2_11 (pc := 131) C dX6_pays_131 rfl rfl ?_
  refine jx_ialdv (pc := 132) C hs (by omega) (by decide) (congrFun mm_a _) dX6_pays_132 ?_
  refine jx_aload_n (pc := 133) C dX6_pays_133 rfl ?_
  refine jx_iload_n (pc := 134) C dX6_pays_134 rfl ?_
  refine jx_callD (pc := 135) C (go_X6_54 C  (Nat.le_of_ble_eq_true rfl) dX6_pays_135) (t_X6_late hs (by omega)) (by decide) (by decide) ⟨Nat.zero_le _, Nat.zero_le _⟩ ?_
  rw [mm_a]
  refine jx_if_le (pc := 138) C (tgt := 145) dX6_pays_138 (by decide) (fun c138 => ?_) (fun c138 => ?_)
  · refine jx_iconst (pc := 145) C dX6_pays_145 nc_0 ?_
    first | exact key _ (if_pos c138).symm | exact key _ (if_neg c138).symm
  · refine jx_iconst (pc := 141) C dX6_pays_141 nc_1 ?_
    refine jx_goto (pc := 142) C (tgt := 146) dX6_pays_142 (by decide) ?_
    first | exact key _ (if_pos c138).symm | exact key _ (if_neg c138).symm
theorem t_X6_pays {l : Launch} {D : va_G} {cA : Nat → ClassId} {N0 : Nat} {Sh : jS} {I : jI} {P : jP} {L : jL} {x a : Nat} (hS : mS Sh x) (hP : mP P x) (hs : Sh a = some (10, 210)) (hne : a ≠ x + 6) {o : Nat} (hok : sOK (I a)) (ho : o < smany (I a)) : jN l D cA N0 3 yX6_pays cX6_pays 8 none [.ref x, .ref a, .int (nI o)] Sh I P L (jNv (fun I' P' L' => (∃ d, I' = mm I x a d (spaysF (I a) o)) ∧ P' = P ∧ L' = L)) := jN_of (by decide) (Nat.le_of_ble_eq_true rfl) (fun _ _ _ _ _ _ _ _ C hr => b_X6_pays C hr hS hP hs hne hok ho)
set_option maxHeartbeats 4000000 in
theorem lp_X6_weaves {p : Program} {l : Launch} {e : Env} {s : State} {m : MethodId} {args : Array Value} {below : List Frame} {meth : Method} {c : Code} {D : va_G} {cA : Nat → ClassId} {N0 : Nat} {Sh : jS} {I : jI} {P : jP} {L : jL} {Qf : State → Prop} (C : jC p (jRm 4 0 0) s m args meth c D cA N0 cX6_weaves 6 RX6 4) {x a : Nat} (hS : mS Sh x) (hP : mP P x) (hs : Sh a = some (10, 210)) (hne : a ≠ x + 6) {w : Nat} (hw : w < 6) {o sp : Nat} (hsl : sp ≤ 9) : ∀ r g d n, n + r = sp → sOK g → o < smany g → g (18 + 12 * w + 1) = nI sp → (∀ d' v, jJ p l e (jRm 4 0 0) s m args below meth c D cA N0 6 Qf (fun _ => True) Sh (mm I x a d' (swv w o r g).1) P L 0 0 85 [some (.ref x), some (.ref a), some (.int (nI w)), some (.int (nI o)), some (.int (nI (n + (swv w o r g).2))), v] []) → jJ p l e (jRm 4 0 0) s m args below meth c D cA N0 6 Qf (fun _ => True) Sh (mm I x a d g) P L 0 0 21 [some (.ref x), some (.ref a), some (.int (nI w)), some (.int (nI o)), some (.int (nI (n))), some (.int (nI 1))] [] := by
  intro r
  induction r with
  | zero =>
    intro g d n hn hok ho hsp hx
    refine jx_iload (pc := 21) C dX6_weaves_21 rfl ?_
    refine jx_if_eq (pc := 23) C (tgt := 85) dX6_weaves_23 (by decide) (fun c23 => (by exfalso; revert c23; decide)) (fun c23 => ?_)
    refine jx_iload (pc := 26) C dX6_weaves_26 rfl ?_
    refine jx_aload_n (pc := 28) C dX6_weaves_28 rfl ?_
    refine jx_iload_n (pc := 29) C dX6_weaves_29 rfl ?_
    refine jx_iconst (pc := 30) C dX6_weaves_30 nc_1 ?_
    refine jx_callD (pc := 31) C (go_X6_47 C  (Nat.le_of_ble_eq_true rfl) dX6_weaves_31) (t_X6_ofv hs (by omega) ((congrFun mm_a _).trans hsp)) (by decide) (by decide) ⟨Nat.zero_le _, Nat.zero_le _⟩ ?_
    refine jx_icmp_ge (pc := 34) C (tgt := 85) dX6_weaves_34 (by decide) (fun c34 => ?_) (fun c34 => (by rw [nI_leI (by omega) (by omega)] at c34; exfalso; omega))
    rw [nI_leI (by omega) (by omega)] at c34
    exact hx d _
  | succ r ih =>
    intro g d n hn hok ho hsp hx
    have hk := hok.2.1
    have hcc := hok.2.2.1 o ho
    refine jx_iload (pc := 21) C dX6_weaves_21 rfl ?_
    refine jx_if_eq (pc := 23) C (tgt := 85) dX6_weaves_23 (by decide) (fun c23 => (by exfalso; revert c23; decide)) (fun c23 => ?_)
    refine jx_iload (pc := 26) C dX6_weaves_26 rfl ?_
    refine jx_aload_n (pc := 28) C dX6_weaves_28 rfl ?_
    refine jx_iload_n (pc := 29) C dX6_weaves_29 rfl ?_
    refine jx_iconst (pc := 30) C dX6_weaves_30 nc_1 ?_
    refine jx_callD (pc := 31) C (go_X6_47 C  (Nat.le_of_ble_eq_true rfl) dX6_weaves_31) (t_X6_ofv hs (by omega) ((congrFun mm_a _).trans hsp)) (by decide) (by decide) ⟨Nat.zero_le _, Nat.zero_le _⟩ ?_
    refine jx_icmp_ge (pc := 34) C (tgt := 85) dX6_weaves_34 (by decide) (fun c34 => (by rw [nI_leI (by omega) (by omega)] at c34; exfalso; omega)) (fun c34 => ?_)
    rw [nI_leI (by omega) (by omega)] at c34
    refine jx_aload_n (pc := 37) C dX6_weaves_37 rfl ?_
    refine jx_iload_n (pc := 38) C dX6_weaves_38 rfl ?_
    refine jx_iload_n (pc := 39) C dX6_weaves_39 rfl ?_
    refine jx_callD (pc := 40) C (go_X6_83 C  (Nat.le_of_ble_eq_true rfl) dX6_weaves_40) (t_X6_takes hs (by omega) hw (by rw [mm_a]; exact hcc.1) (by rw [mm_a]; exact hcc.2)) (by decide) (by decide) ⟨Nat.zero_le _, Nat.zero_le _⟩ ?_
    rw [mm_a, mm_up]
    cases ht : stake g w o with
    | none =>
      rw [swv_none ht] at hx
      refine jx_top C (show Value.int (bI (none : Option sF).isSome) = .int (nI 0) from rfl) ?_
      refine jx_istore (pc := 43) C dX6_weaves_43 (jset_5 jc_i) (by decide) ?_
      refine jx_iload (pc := 45) C dX6_weaves_45 rfl ?_
      refine jx_if_eq (pc := 47) C (tgt := 21) dX6_weaves_47 (by decide) (fun c47 => ?_) (fun c47 => (by exfalso; revert c47; decide))
      refine jx_iload (pc := 21) C dX6_weaves_21 rfl ?_
      refine jx_if_eq (pc := 23) C (tgt := 85) dX6_weaves_23 (by decide) (fun c23 => ?_) (fun c23 => (by exfalso; revert c23; decide))
      exact hx d _
    | some f1 =>
      obtain ⟨b1, b2⟩ := stake_OK hok hw ho ht
      have ho1 : o < smany f1 := by rw [b2]; exact ho
      obtain ⟨b3, b4⟩ := smake_OK b1 hw ho1
      have ho2 : o < smany (smake f1 w o) := by rw [b4]; exact ho1
      have hsp2 : smake f1 w o (18 + 12 * w + 1) = nI sp := by rw [smake_1 hw (by omega), stake_1 hw hcc.2 ht]; exact hsp
      refine jx_top C (show Value.int (bI (some f1 : Option sF).isSome) = .int (nI 1) from rfl) ?_
      rw [show (some f1).getD g = f1 from rfl]
      refine jx_istore (pc := 43) C dX6_weaves_43 (jset_5 jc_i) (by decide) ?_
      refine jx_iload (pc := 45) C dX6_weaves_45 rfl ?_
      refine jx_if_eq (pc := 47) C (tgt := 21) dX6_weaves_47 (by decide) (fun c47 => (by exfalso; revert c47; decide)) (fun c47 => ?_)
      refine jx_aload_n (pc := 50) C dX6_weaves_50 rfl ?_
      refine jx_iload_n (pc := 51) C dX6_weaves_51 rfl ?_
      refine jx_iload_n (pc := 52) C dX6_weaves_52 rfl ?_
      refine jx_callDv (pc := 53) C (go_X6_86 C  (Nat.le_of_ble_eq_true rfl) dX6_weaves_53) (t_X6_makes hs (by omega) hw) (by decide) (by decide) ⟨Nat.zero_le _, Nat.zero_le _⟩ ?_
      rw [mm_a, mm_up]
      refine jx_iincN (pc := 56) C dX6_weaves_56 rfl (jset_4 jc_i) (by decide) ?_
      refine jx_aload_n (pc := 59) C dX6_weaves_59 rfl ?_
      refine jx_iload_n (pc := 60) C dX6_weaves_60 rfl ?_
      refine jx_callD (pc := 61) C (go_X6_90 C  (Nat.le_of_ble_eq_true rfl) dX6_weaves_61) (t_X6_good hs (by omega)) (by decide) (by decide) ⟨Nat.zero_le _, Nat.zero_le _⟩ ?_
      rw [mm_a]
      refine jx_aload_n (pc := 64) C dX6_weaves_64 rfl ?_
      refine jx_iload_n (pc := 65) C dX6_weaves_65 rfl ?_
      refine jx_iconst (pc := 66) C dX6_weaves_66 nc_3 ?_
      refine jx_callD (pc := 67) C (go_X6_43 C  (Nat.le_of_ble_eq_true rfl) dX6_weaves_67) (t_X6_byv hs (by omega) (congrFun mm_a _)) (by decide) (by decide) ⟨Nat.zero_le _, Nat.zero_le _⟩ ?_
      refine jx_icmp_ne (pc := 70) C (tgt := 21) dX6_weaves_70 (by decide) (fun c70 => ?_) (fun c70 => ?_)
      · rw [swv_more ht c70] at hx
        exact ih _ d (n + 1) (by omega) b3 ho2 hsp2 (fun d' v => by rw [Nat.add_assoc, Nat.add_comm 1]; exact hx d' v)
      · refine jx_aload_n (pc := 73) C dX6_weaves_73 rfl ?_
        refine jx_aload_n (pc := 74) C dX6_weaves_74 rfl ?_
        refine jx_iload_n (pc := 75) C dX6_weaves_75 rfl ?_
        refine jx_callv (pc := 76) C (go_X6_93 C hS.1 (Nat.le_of_ble_eq_true rfl) dX6_weaves_76) (t_X6_pays hS hP hs hne (by rw [mm_a]; exact b3) (by rw [mm_a]; exact ho2)) (by decide) (by decide) ⟨Nat.zero_le _, Nat.zero_le _⟩ (fun I76 P76 L76 q76 => ?_)
        obtain ⟨⟨d76, rfl⟩, rfl, rfl⟩ := q76
        rw [mm_a, mm_mm hne]
        refine jx_iconst (pc := 79) C dX6_weaves_79 nc_0 ?_
        refine jx_istore (pc := 80) C dX6_weaves_80 (jset_5 jc_i) (by decide) ?_
        refine jx_goto (pc := 82) C (tgt := 21) dX6_weaves_82 (by decide) ?_
        refine jx_iload (pc := 21) C dX6_weaves_21 rfl ?_
        refine jx_if_eq (pc := 23) C (tgt := 85) dX6_weaves_23 (by decide) (fun c23 => ?_) (fun c23 => (by exfalso; revert c23; decide))
        rw [swv_done ht c70] at hx
        exact hx d76 _
set_option maxHeartbeats 4000000 in
theorem le_X6_weaves {p : Program} {l : Launch} {e : Env} {s : State} {m : MethodId} {args : Array Value} {below : List Frame} {meth : Method} {c : Code} {D : va_G} {cA : Nat → ClassId} {N0 : Nat} {Sh : jS} {I : jI} {P : jP} {L : jL} (C : jC p (jRm 4 0 0) s m args meth c D cA N0 cX6_weaves 6 RX6 4) (hr : meth.sig.returnType = none) {x a : Nat} (hS : mS Sh x) (hP : mP P x) (hs : Sh a = some (10, 210)) (hne : a ≠ x + 6) {w : Nat} (hw : w < 6) {o3 v : Option Value} {d : Nat → Int32} (hk : (sweaves (I a) w).2 < 100) : jJ p l e (jRm 4 0 0) s m args below meth c D cA N0 6 (MQ below (jQn D cA N0 Sh (jNv (fun I' P' L' => (∃ d, I' = mm I x a d (sweave (I a) w)) ∧ P' = P ∧ L' = L))) args s 0 0 (fun q => N0 ≤ q)) (fun _ => True) Sh (mm I x a d (sweaves (I a) w).1) P L 0 0 85 [some (.ref x), some (.ref a), some (.int (nI w)), o3, some (.int (nI (sweaves (I a) w).2)), v] [] := by
  refine jx_aload_n (pc := 85) C dX6_weaves_85 rfl ?_
  refine jx_bipush (pc := 86) C dX6_weaves_86 nb_13 ?_
  refine jx_dup2_11 (pc := 88) C dX6_weaves_88 rfl rfl ?_
  refine jx_ialdv (pc := 89) C hs (by omega) (by decide) (congrFun mm_a _) dX6_weaves_89 ?_
  refine jx_iload (pc := 90) C dX6_weaves_90 rfl ?_
  refine jx_if_ne (pc := 92) C (tgt := 99) dX6_weaves_92 (by decide) (fun c92 => ?_) (fun c92 => ?_)
  · rw [nI_eq0 (by omega)] at c92
    refine jx_iconst (pc := 99) C dX6_weaves_99 nc_0 ?_
    refine jx_iadd (pc := 100) C dX6_weaves_100 ?_
    refine jx_iast (pc := 101) C hs (by omega) (by decide) dX6_weaves_101 ?_
    exact jn_vret (pc := 102) C hr (⟨rfl, ⟨d, by rw [mm_st]; unfold sweave; first | rw [if_pos c92] | rw [if_neg c92]⟩, rfl, rfl⟩) dX6_weaves_102
  · rw [nI_eq0 (by omega)] at c92
    refine jx_iconst (pc := 95) C dX6_weaves_95 nc_1 ?_
    refine jx_goto (pc := 96) C (tgt := 100) dX6_weaves_96 (by decide) ?_
    refine jx_iadd (pc := 100) C dX6_weaves_100 ?_
    refine jx_iast (pc := 101) C hs (by omega) (by decide) dX6_weaves_101 ?_
    exact jn_vret (pc := 102) C hr (⟨rfl, ⟨d, by rw [mm_st]; unfold sweave; first | rw [if_pos c92] | rw [if_neg c92]⟩, rfl, rfl⟩) dX6_weaves_102
set_option maxHeartbeats 4000000 in
theorem b_X6_weaves {p : Program} {l : Launch} {e : Env} {s : State} {m : MethodId} {args : Array Value} {below : List Frame} {meth : Method} {c : Code} {D : va_G} {cA : Nat → ClassId} {N0 : Nat} {Sh : jS} {I : jI} {P : jP} {L : jL} (C : jC p (jRm 4 0 0) s m args meth c D cA N0 cX6_weaves 6 RX6 4) (hr : meth.sig.returnType = none) {x a : Nat} (hS : mS Sh x) (hP : mP P x) (hs : Sh a = some (10, 210)) (hne : a ≠ x + 6) {w : Nat} (hw : w < 6) (hok : sOK (I a)) : jJ p l e (jRm 4 0 0) s m args below meth c D cA N0 6 (MQ below (jQn D cA N0 Sh (jNv (fun I' P' L' => (∃ d, I' = mm I x a d (sweave (I a) w)) ∧ P' = P ∧ L' = L))) args s 0 0 (fun q => N0 ≤ q)) (fun _ => True) Sh I P L 0 0 0 [some (.ref x), some (.ref a), some (.int (nI w)), none, none, none] [] := by
  refine jx_aload_n (pc := 0) C dX6_weaves_0 rfl ?_
  refine jx_iload_n (pc := 1) C dX6_weaves_1 rfl ?_
  refine jx_callD (pc := 2) C (go_X6_80 C  (Nat.le_of_ble_eq_true rfl) dX6_weaves_2) (t_X6_chosen hs hw hok.1 hok.2.1) (by decide) (by decide) ⟨Nat.zero_le _, Nat.zero_le _⟩ ?_
  cases hq : schos (I a) w with
  | none =>
    have h0 : sweaves (I a) w = (I a, 0) := by unfold sweaves; rw [hq]
    refine jx_top C (show Value.int (oI none) = .int (-1 : Int32) from rfl) ?_
    refine jx_istore_n (pc := 5) C dX6_weaves_5 (jset_3 jc_i) (by decide) ?_
    refine jx_iconst (pc := 6) C dX6_weaves_6 nc_0 ?_
    refine jx_istore (pc := 7) C dX6_weaves_7 (jset_4 jc_i) (by decide) ?_
    refine jx_iload_n (pc := 9) C dX6_weaves_9 rfl ?_
    refine jx_iconst (pc := 10) C dX6_weaves_10 nc_m1 ?_
    refine jx_icmp_eq (pc := 11) C (tgt := 18) dX6_weaves_11 (by decide) (fun c11 => ?_) (fun c11 => (by exfalso; revert c11; decide))
    refine jx_iconst (pc := 18) C dX6_weaves_18 nc_0 ?_
    refine jx_istore (pc := 19) C dX6_weaves_19 (jset_5 jc_i) (by decide) ?_
    refine jx_iload (pc := 21) C dX6_weaves_21 rfl ?_
    refine jx_if_eq (pc := 23) C (tgt := 85) dX6_weaves_23 (by decide) (fun c23 => ?_) (fun c23 => (by exfalso; revert c23; decide))
    have h1 := le_X6_weaves (l := l) (e := e) (below := below) (L := L) (o3 := some (.int (-1))) (v := some (.int (nI 0))) (d := I (x + 6)) C hr hS hP hs hne hw (by rw [h0]; show 0 < 100; decide)
    rw [h0, mm_id hne] at h1
    exact h1
  | some o =>
    obtain ⟨hq1, hq2⟩ := schosN_lt hq
    have hk := hok.2.1
    have hsp := hok.2.2.2 w hw
    have h0 : sweaves (I a) w = swv w o (sspd (I a) w) (I a) := by unfold sweaves; rw [hq]
    have hle := swv_2 (w := w) (o := o) (sspd (I a) w) (I a)
    refine jx_top C (show Value.int (oI (some o)) = .int (nI o) from rfl) ?_
    refine jx_istore_n (pc := 5) C dX6_weaves_5 (jset_3 jc_i) (by decide) ?_
    refine jx_iconst (pc := 6) C dX6_weaves_6 nc_0 ?_
    refine jx_istore (pc := 7) C dX6_weaves_7 (jset_4 jc_i) (by decide) ?_
    refine jx_iload_n (pc := 9) C dX6_weaves_9 rfl ?_
    refine jx_iconst (pc := 10) C dX6_weaves_10 nc_m1 ?_
    refine jx_icmp_eq (pc := 11) C (tgt := 18) dX6_weaves_11 (by decide) (fun c11 => (by exfalso; rw [nI_m1 (by omega)] at c11; exact c11)) (fun c11 => ?_)
    refine jx_iconst (pc := 14) C dX6_weaves_14 nc_1 ?_
    refine jx_goto (pc := 15) C (tgt := 19) dX6_weaves_15 (by decide) ?_
    refine jx_istore (pc := 19) C dX6_weaves_19 (jset_5 jc_i) (by decide) ?_
    refine jx_mem (I' := mm I x a (I (x + 6)) (I a)) (P' := P) (mm_id hne).symm rfl ?_
    refine lp_X6_weaves C hS hP hs hne hw hsp.2 (sspd (I a) w) (I a) (I (x + 6)) 0 (Nat.zero_add _) hok hq1 hsp.1 (fun d' v => ?_)
    have h1 := le_X6_weaves (l := l) (e := e) (below := below) (L := L) (o3 := some (.int (nI o))) (v := v) (d := d') C hr hS hP hs hne hw (by rw [h0]; omega)
    rw [h0] at h1
    rw [Nat.zero_add]
    exact h1
theorem t_X6_weaves {l : Launch} {D : va_G} {cA : Nat → ClassId} {N0 : Nat} {Sh : jS} {I : jI} {P : jP} {L : jL} {x a : Nat} (hS : mS Sh x) (hP : mP P x) (hs : Sh a = some (10, 210)) (hne : a ≠ x + 6) {w : Nat} (hw : w < 6) (hok : sOK (I a)) : jN l D cA N0 4 yX6_weaves cX6_weaves 6 none [.ref x, .ref a, .int (nI w)] Sh I P L (jNv (fun I' P' L' => (∃ d, I' = mm I x a d (sweave (I a) w)) ∧ P' = P ∧ L' = L)) := jN_of (by decide) (Nat.le_of_ble_eq_true rfl) (fun _ _ _ _ _ _ _ _ C hr => b_X6_weaves C hr hS hP hs hne hw hok)
set_option maxHeartbeats 4000000 in
theorem lp_X6_hour {p : Program} {l : Launch} {e : Env} {s : State} {m : MethodId} {args : Array Value} {below : List Frame} {meth : Method} {c : Code} {D : va_G} {cA : Nat → ClassId} {N0 : Nat} {Sh : jS} {I : jI} {P : jP} {L : jL} {Qf : State → Prop} (C : jC p (jRm 5 0 0) s m args meth c D cA N0 cX6_hour 3 RX6 5) {x a : Nat} (hS : mS Sh x) (hP : mP P x) (hs : Sh a = some (10, 210)) (hne : a ≠ x + 6) (hok : sOK (I a)) (hx : ∀ d, jJ p l e (jRm 5 0 0) s m args below meth c D cA N0 3 Qf (fun _ => True) Sh (mm I x a d (shourN (I a) 6)) P L 0 0 29 [some (.ref x), some (.ref a), some (.int (nI 6))] []) : ∀ r w d, w + r = 6 → jJ p l e (jRm 5 0 0) s m args below meth c D cA N0 3 Qf (fun _ => True) Sh (mm I x a d (shourN (I a) w)) P L 0 0 2 [some (.ref x), some (.ref a), some (.int (nI w))] [] := by
  intro r
  induction r with
  | zero =>
    intro w d hw
    obtain rfl : w = 6 := by omega
    refine jx_iload_n (pc := 2) C dX6_hour_2 rfl ?_
    refine jx_bipush (pc := 3) C dX6_hour_3 nb_6 ?_
    refine jx_icmp_ge (pc := 5) C (tgt := 29) dX6_hour_5 (by decide) (fun c5 => ?_) (fun c5 => (by rw [nI_leI (by omega) (by omega)] at c5; exfalso; omega))
    rw [nI_leI (by omega) (by omega)] at c5
    exact hx d
  | succ r ih =>
    intro w d hw
    have hok2 := shourN_OK hok w (by omega)
    refine jx_iload_n (pc := 2) C dX6_hour_2 rfl ?_
    refine jx_bipush (pc := 3) C dX6_hour_3 nb_6 ?_
    refine jx_icmp_ge (pc := 5) C (tgt := 29) dX6_hour_5 (by decide) (fun c5 => (by rw [nI_leI (by omega) (by omega)] at c5; exfalso; omega)) (fun c5 => ?_)
    rw [nI_leI (by omega) (by omega)] at c5
    refine jx_aload_n (pc := 8) C dX6_hour_8 rfl ?_
    refine jx_iload_n (pc := 9) C dX6_hour_9 rfl ?_
    refine jx_iconst (pc := 10) C dX6_hour_10 nc_0 ?_
    refine jx_callD (pc := 11) C (go_X6_47 C  (Nat.le_of_ble_eq_true rfl) dX6_hour_11) (t_X6_ofv hs (by omega) (congrFun mm_a _)) (by decide) (by decide) ⟨Nat.zero_le _, Nat.zero_le _⟩ ?_
    refine jx_if_le (pc := 14) C (tgt := 23) dX6_hour_14 (by decide) (fun c14 => ?_) (fun c14 => ?_)
    · refine jx_iincN (pc := 23) C dX6_hour_23 rfl (jset_2 jc_r) (by decide) ?_
      refine jx_goto (pc := 26) C (tgt := 2) dX6_hour_26 (by decide) ?_
      have h1 := fun d => ih (w + 1) d (by omega)
      first
        | (rw [show shourN (I a) (w + 1) = sweave (shourN (I a) w) w from if_pos (i32_nle.mp c14)] at h1; exact h1 _)
        | (rw [show shourN (I a) (w + 1) = shourN (I a) w from if_neg (i32_nlt.mpr c14)] at h1; exact h1 _)
    · refine jx_aload_n (pc := 17) C dX6_hour_17 rfl ?_
      refine jx_aload_n (pc := 18) C dX6_hour_18 rfl ?_
      refine jx_iload_n (pc := 19) C dX6_hour_19 rfl ?_
      refine jx_callv (pc := 20) C (go_X6_96 C hS.1 (Nat.le_of_ble_eq_true rfl) dX6_hour_20) (t_X6_weaves hS hP hs hne (by omega) (by rw [mm_a]; exact hok2)) (by decide) (by decide) ⟨Nat.zero_le _, Nat.zero_le _⟩ (fun I20 P20 L20 q20 => ?_)
      obtain ⟨⟨d20, rfl⟩, rfl, rfl⟩ := q20
      rw [mm_a, mm_mm hne]
      refine jx_iincN (pc := 23) C dX6_hour_23 rfl (jset_2 jc_r) (by decide) ?_
      refine jx_goto (pc := 26) C (tgt := 2) dX6_hour_26 (by decide) ?_
      have h1 := fun d => ih (w + 1) d (by omega)
      first
        | (rw [show shourN (I a) (w + 1) = sweave (shourN (I a) w) w from if_pos (i32_nle.mp c14)] at h1; exact h1 _)
        | (rw [show shourN (I a) (w + 1) = shourN (I a) w from if_neg (i32_nlt.mpr c14)] at h1; exact h1 _)
set_option maxHeartbeats 4000000 in
theorem b_X6_hour {p : Program} {l : Launch} {e : Env} {s : State} {m : MethodId} {args : Array Value} {below : List Frame} {meth : Method} {c : Code} {D : va_G} {cA : Nat → ClassId} {N0 : Nat} {Sh : jS} {I : jI} {P : jP} {L : jL} (C : jC p (jRm 5 0 0) s m args meth c D cA N0 cX6_hour 3 RX6 5) (hr : meth.sig.returnType = none) {x a : Nat} (hS : mS Sh x) (hP : mP P x) (hs : Sh a = some (10, 210)) (hne : a ≠ x + 6) (hok : sOK (I a)) : jJ p l e (jRm 5 0 0) s m args below meth c D cA N0 3 (MQ below (jQn D cA N0 Sh (jNv (fun I' P' L' => (∃ d, I' = mm I x a d (shour (I a))) ∧ P' = P ∧ L' = L))) args s 0 0 (fun q => N0 ≤ q)) (fun _ => True) Sh I P L 0 0 0 [some (.ref x), some (.ref a), none] [] := by
  refine jx_iconst (pc := 0) C dX6_hour_0 nc_0 ?_
  refine jx_istore_n (pc := 1) C dX6_hour_1 (jset_2 jc_r) (by decide) ?_
  refine jx_mem (I' := mm I x a (I (x + 6)) (I a)) (P' := P) (mm_id hne).symm rfl ?_
  refine lp_X6_hour C hS hP hs hne hok (fun d => ?_) 6 0 (I (x + 6)) rfl
  refine jx_aload_n (pc := 29) C dX6_hour_29 rfl ?_
  refine jx_iconst (pc := 30) C dX6_hour_30 nc_4 ?_
  refine jx_dup2_11 (pc := 31) C dX6_hour_31 rfl rfl ?_
  refine jx_ialdv (pc := 32) C hs (by omega) (by decide) (congrFun mm_a _) dX6_hour_32 ?_
  refine jx_iconst (pc := 33) C dX6_hour_33 nc_1 ?_
  refine jx_iadd (pc := 34) C dX6_hour_34 ?_
  refine jx_iast (pc := 35) C hs (by omega) (by decide) dX6_hour_35 ?_
  exact jn_vret (pc := 36) C hr (⟨rfl, ⟨d, by rw [mm_st]; rfl⟩, rfl, rfl⟩) dX6_hour_36
theorem t_X6_hour {l : Launch} {D : va_G} {cA : Nat → ClassId} {N0 : Nat} {Sh : jS} {I : jI} {P : jP} {L : jL} {x a : Nat} (hS : mS Sh x) (hP : mP P x) (hs : Sh a = some (10, 210)) (hne : a ≠ x + 6) (hok : sOK (I a)) : jN l D cA N0 5 yX6_hour cX6_hour 3 none [.ref x, .ref a] Sh I P L (jNv (fun I' P' L' => (∃ d, I' = mm I x a d (shour (I a))) ∧ P' = P ∧ L' = L)) := jN_of (by decide) (Nat.le_of_ble_eq_true rfl) (fun _ _ _ _ _ _ _ _ C hr => b_X6_hour C hr hS hP hs hne hok)
set_option maxHeartbeats 4000000 in
theorem lp_X6_hours {p : Program} {l : Launch} {e : Env} {s : State} {m : MethodId} {args : Array Value} {below : List Frame} {meth : Method} {c : Code} {D : va_G} {cA : Nat → ClassId} {N0 : Nat} {Sh : jS} {I : jI} {P : jP} {L : jL} {Qf : State → Prop} (C : jC p (jRm 6 0 0) s m args meth c D cA N0 cX6_hours 4 RX6 6) {x a : Nat} (hS : mS Sh x) (hP : mP P x) (hs : Sh a = some (10, 210)) (hne : a ≠ x + 6) (hok : sOK (I a)) {n : Nat} (hn : n < 1000) (hx : ∀ d, jJ p l e (jRm 6 0 0) s m args below meth c D cA N0 4 Qf (fun _ => True) Sh (mm I x a d (shours (I a) n)) P L 0 0 18 [some (.ref x), some (.ref a), some (.int (nI n)), some (.int (nI n))] []) : ∀ r w d, w + r = n → jJ p l e (jRm 6 0 0) s m args below meth c D cA N0 4 Qf (fun _ => True) Sh (mm I x a d (shours (I a) w)) P L 0 0 2 [some (.ref x), some (.ref a), some (.int (nI n)), some (.int (nI w))] [] := by
  intro r
  induction r with
  | zero =>
    intro w d hw
    obtain rfl : w = n := by omega
    refine jx_iload_n (pc := 2) C dX6_hours_2 rfl ?_
    refine jx_iload_n (pc := 3) C dX6_hours_3 rfl ?_
    refine jx_icmp_ge (pc := 4) C (tgt := 18) dX6_hours_4 (by decide) (fun c4 => ?_) (fun c4 => (by rw [nI_leI (by omega) (by omega)] at c4; exfalso; omega))
    rw [nI_leI (by omega) (by omega)] at c4
    exact hx d
  | succ r ih =>
    intro w d hw
    have hok2 := shours_OK hok w
    refine jx_iload_n (pc := 2) C dX6_hours_2 rfl ?_
    refine jx_iload_n (pc := 3) C dX6_hours_3 rfl ?_
    refine jx_icmp_ge (pc := 4) C (tgt := 18) dX6_hours_4 (by decide) (fun c4 => (by rw [nI_leI (by omega) (by omega)] at c4; exfalso; omega)) (fun c4 => ?_)
    rw [nI_leI (by omega) (by omega)] at c4
    refine jx_aload_n (pc := 7) C dX6_hours_7 rfl ?_
    refine jx_aload_n (pc := 8) C dX6_hours_8 rfl ?_
    refine jx_callv (pc := 9) C (go_X6_99 C hS.1 (Nat.le_of_ble_eq_true rfl) dX6_hours_9) (t_X6_hour hS hP hs hne (by rw [mm_a]; exact hok2)) (by decide) (by decide) ⟨Nat.zero_le _, Nat.zero_le _⟩ (fun I9 P9 L9 q9 => ?_)
    obtain ⟨⟨d9, rfl⟩, rfl, rfl⟩ := q9
    rw [mm_a, mm_mm hne]
    refine jx_iincN (pc := 12) C dX6_hours_12 rfl (jset_3 jc_i) (by decide) ?_
    refine jx_goto (pc := 15) C (tgt := 2) dX6_hours_15 (by decide) ?_
    exact ih (w + 1) d9 (by omega)
set_option maxHeartbeats 4000000 in
theorem b_X6_hours {p : Program} {l : Launch} {e : Env} {s : State} {m : MethodId} {args : Array Value} {below : List Frame} {meth : Method} {c : Code} {D : va_G} {cA : Nat → ClassId} {N0 : Nat} {Sh : jS} {I : jI} {P : jP} {L : jL} (C : jC p (jRm 6 0 0) s m args meth c D cA N0 cX6_hours 4 RX6 6) (hr : meth.sig.returnType = none) {x a : Nat} (hS : mS Sh x) (hP : mP P x) (hs : Sh a = some (10, 210)) (hne : a ≠ x + 6) (hok : sOK (I a)) {n : Nat} (hn : n < 1000) : jJ p l e (jRm 6 0 0) s m args below meth c D cA N0 4 (MQ below (jQn D cA N0 Sh (jNv (fun I' P' L' => (∃ d, I' = mm I x a d (shours (I a) n)) ∧ P' = P ∧ L' = L))) args s 0 0 (fun q => N0 ≤ q)) (fun _ => True) Sh I P L 0 0 0 [some (.ref x), some (.ref a), some (.int (nI n)), none] [] := by
  refine jx_iconst (pc := 0) C dX6_hours_0 nc_0 ?_
  refine jx_istore_n (pc := 1) C dX6_hours_1 (jset_3 jc_i) (by decide) ?_
  refine jx_mem (I' := mm I x a (I (x + 6)) (I a)) (P' := P) (mm_id hne).symm rfl ?_
  refine lp_X6_hours C hS hP hs hne hok hn (fun d => ?_) n 0 (I (x + 6)) (Nat.zero_add n)
  exact jn_vret (pc := 18) C hr (⟨rfl, ⟨d, rfl⟩, rfl, rfl⟩) dX6_hours_18
theorem t_X6_hours {l : Launch} {D : va_G} {cA : Nat → ClassId} {N0 : Nat} {Sh : jS} {I : jI} {P : jP} {L : jL} {x a : Nat} (hS : mS Sh x) (hP : mP P x) (hs : Sh a = some (10, 210)) (hne : a ≠ x + 6) (hok : sOK (I a)) {n : Nat} (hn : n < 1000) : jN l D cA N0 6 yX6_hours cX6_hours 4 none [.ref x, .ref a, .int (nI n)] Sh I P L (jNv (fun I' P' L' => (∃ d, I' = mm I x a d (shours (I a) n)) ∧ P' = P ∧ L' = L)) := jN_of (by decide) (Nat.le_of_ble_eq_true rfl) (fun _ _ _ _ _ _ _ _ C hr => b_X6_hours C hr hS hP hs hne hok hn)
