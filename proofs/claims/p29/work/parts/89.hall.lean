/-! THE LAW'S LOOK: it finds all in order -/
set_option maxHeartbeats 4000000 in
theorem lp_hall1 {p : Program} {l : Launch} {e : Env} {s : State} {m : MethodId} {args : Array Value} {below : List Frame} {meth : Method} {c : Code} {D : va_G} {cA : Nat → ClassId} {N0 : Nat} {Sh : jS} {L : jL} {Qf : State → Prop} (C : jC p (jRm 9 800 4800) s m args meth c D cA N0 cL_hall 12 RL 9) {b Ls : Nat} {xs : Nat → Int32} (hE : jEn b Ls xs N0 s) (hst : l.stackTraces = false) {y : Nat} (S : cS Sh y) {f : sF} {q : Nat} {pst : Nat → sF} {t : Nat} {ch : Nat → Nat} {n0 : Nat} (a : aT n0 f) (h36 : n0 ≤ 36) (hI : sI f) (hend : ∀ (l8 : Option Value) (I : jI) (P : jP) (k n : Nat), cR I P y f q pst t ch → k ≤ 270 → n ≤ 1620 → jJ p l e (jRm 9 800 4800) s m args below meth c D cA N0 12 Qf (fun _ => True) Sh I P L k n 316 [some (.ref y), some (.int (ssum (fun w => f (18 + 12 * w + 5)) 6)), some (.int (ssum (fun w => f (18 + 12 * w + 6)) 6)), some (.int (ssum (fun w => f (18 + 12 * w + 3)) 6)), some (.int (ssum (fun w => f (18 + 12 * w + 4)) 6)), some (.int (sloomsN f 6)), some (.int (nI 1)), some (.int (nI 6)), l8, none, none, none] []) : ∀ (d w : Nat) (l8 : Option Value) (I : jI) (P : jP) (k n : Nat), w + d = 6 → cR I P y f q pst t ch → k ≤ 45 * w → n ≤ 270 * w → jJ p l e (jRm 9 800 4800) s m args below meth c D cA N0 12 Qf (fun _ => True) Sh I P L k n 18 [some (.ref y), some (.int (ssum (fun w => f (18 + 12 * w + 5)) w)), some (.int (ssum (fun w => f (18 + 12 * w + 6)) w)), some (.int (ssum (fun w => f (18 + 12 * w + 3)) w)), some (.int (ssum (fun w => f (18 + 12 * w + 4)) w)), some (.int (sloomsN f w)), some (.int (nI 1)), some (.int (nI w)), l8, none, none, none] [] := by
  have hm := hI.m
  intro d
  induction d with
  | zero =>
    intro w l8 I P k n hid R hk hn
    obtain rfl : w = 6 := hid
    refine jx_iload (pc := 18) C dL_hall_18 rfl ?_
    refine jx_bipush (pc := 20) C dL_hall_20 nb_6 ?_
    refine jx_icmp_ge (pc := 22) C (tgt := 316) dL_hall_22 (by decide) (fun c22 => ?_) (fun c22 => (by rw [nI_leI (by omega) (by omega)] at c22; exfalso; omega))
    rw [nI_leI (by omega) (by omega)] at c22
    exact hend _ _ _ _ _ R (by omega) (by omega)
  | succ d ih =>
    intro w l8 I P k n hid R hk hn
    have hw : w < 6 := by omega
    obtain ⟨h65, h3, h37, h4⟩ := fx_w a h36 hw
    rcases fx_next a h36 hI hw with ⟨e0, e1, e2, l1, l2⟩ | ⟨v, ⟨v1, v2⟩, e0, e1, e2⟩ | ⟨v, o, nu, ⟨v1, v2⟩, e0, e1, ho, hnu, e4, e2, hfit⟩
    · have el : sloomsN f w + nI 0 = sloomsN f (w + 1) := congrArg (fun z => sloomsN f w + z) (if_pos (show f (18 + 12 * w + 0) ≤ 0 by rw [e0]; decide)).symm
      refine jx_iload (pc := 18) C dL_hall_18 rfl ?_
      refine jx_bipush (pc := 20) C dL_hall_20 nb_6 ?_
      refine jx_icmp_ge (pc := 22) C (tgt := 316) dL_hall_22 (by decide) (fun c22 => (by rw [nI_leI (by omega) (by omega)] at c22; exfalso; omega)) (fun c22 => ?_)
      rw [nI_leI (by omega) (by omega)] at c22
      refine jx_iload (pc := 25) C dL_hall_25 rfl ?_
      refine jx_if_eq (pc := 27) C (tgt := 316) dL_hall_27 (by decide) (fun c27 => (by exfalso; revert c27; decide)) (fun c27 => ?_)
      refine jx_aload_n (pc := 30) C dL_hall_30 rfl ?_
      refine jx_iload (pc := 31) C dL_hall_31 rfl ?_
      refine jx_iconst (pc := 33) C dL_hall_33 nc_1 ?_
      refine aq_next (pc := 34) C hE.1 hst (by decide) S R hw (by decide) (Nat.le_of_ble_eq_true rfl) dL_hall_34 ⟨by show _ ≤ 800; omega, by show _ ≤ 4800; omega⟩ (fun I P R => ?_)
      refine jx_top C (y := .int (nI 1)) (congrArg Value.int e1) ?_
      refine jx_istore (pc := 37) C dL_hall_37 (jset_8 jc_i) (by decide) ?_
      refine jx_iload_n (pc := 39) C dL_hall_39 rfl ?_
      refine jx_aload_n (pc := 40) C dL_hall_40 rfl ?_
      refine jx_iload (pc := 41) C dL_hall_41 rfl ?_
      refine jx_iconst (pc := 43) C dL_hall_43 nc_5 ?_
      refine aq_weaver (pc := 44) C hE.1 hst (by decide) S R hw (by decide) (Nat.le_of_ble_eq_true rfl) dL_hall_44 ⟨by show _ ≤ 800; omega, by show _ ≤ 4800; omega⟩ (fun I P R => ?_)
      refine jx_iadd (pc := 47) C dL_hall_47 ?_
      refine jx_istore_n (pc := 48) C dL_hall_48 (jset_1 jc_r) (by decide) ?_
      refine jx_iload_n (pc := 49) C dL_hall_49 rfl ?_
      refine jx_aload_n (pc := 50) C dL_hall_50 rfl ?_
      refine jx_iload (pc := 51) C dL_hall_51 rfl ?_
      refine jx_bipush (pc := 53) C dL_hall_53 nb_6 ?_
      refine aq_weaver (pc := 55) C hE.1 hst (by decide) S R hw (by decide) (Nat.le_of_ble_eq_true rfl) dL_hall_55 ⟨by show _ ≤ 800; omega, by show _ ≤ 4800; omega⟩ (fun I P R => ?_)
      refine jx_iadd (pc := 58) C dL_hall_58 ?_
      refine jx_istore_n (pc := 59) C dL_hall_59 (jset_2 jc_i) (by decide) ?_
      refine jx_iload_n (pc := 60) C dL_hall_60 rfl ?_
      refine jx_aload_n (pc := 61) C dL_hall_61 rfl ?_
      refine jx_iload (pc := 62) C dL_hall_62 rfl ?_
      refine jx_iconst (pc := 64) C dL_hall_64 nc_3 ?_
      refine aq_weaver (pc := 65) C hE.1 hst (by decide) S R hw (by decide) (Nat.le_of_ble_eq_true rfl) dL_hall_65 ⟨by show _ ≤ 800; omega, by show _ ≤ 4800; omega⟩ (fun I P R => ?_)
      refine jx_iadd (pc := 68) C dL_hall_68 ?_
      refine jx_istore_n (pc := 69) C dL_hall_69 (jset_3 jc_i) (by decide) ?_
      refine jx_iload (pc := 70) C dL_hall_70 rfl ?_
      refine jx_aload_n (pc := 72) C dL_hall_72 rfl ?_
      refine jx_iload (pc := 73) C dL_hall_73 rfl ?_
      refine jx_iconst (pc := 75) C dL_hall_75 nc_4 ?_
      refine aq_weaver (pc := 76) C hE.1 hst (by decide) S R hw (by decide) (Nat.le_of_ble_eq_true rfl) dL_hall_76 ⟨by show _ ≤ 800; omega, by show _ ≤ 4800; omega⟩ (fun I P R => ?_)
      refine jx_iadd (pc := 79) C dL_hall_79 ?_
      refine jx_istore (pc := 80) C dL_hall_80 (jset_4 jc_i) (by decide) ?_
      refine jx_iload (pc := 82) C dL_hall_82 rfl ?_
      refine jx_aload_n (pc := 84) C dL_hall_84 rfl ?_
      refine jx_iload (pc := 85) C dL_hall_85 rfl ?_
      refine jx_iconst (pc := 87) C dL_hall_87 nc_0 ?_
      refine aq_weaver (pc := 88) C hE.1 hst (by decide) S R hw (by decide) (Nat.le_of_ble_eq_true rfl) dL_hall_88 ⟨by show _ ≤ 800; omega, by show _ ≤ 4800; omega⟩ (fun I P R => ?_)
      refine jx_top C (y := .int (nI 0)) (congrArg Value.int e0) ?_
      refine jx_if_le (pc := 91) C (tgt := 98) dL_hall_91 (by decide) (fun c91 => ?_) (fun c91 => (by exfalso; revert c91; decide))
      refine jx_iconst (pc := 98) C dL_hall_98 nc_0 ?_
      refine jx_iadd (pc := 99) C dL_hall_99 ?_
      refine jx_top C (y := .int (sloomsN f (w + 1))) (congrArg Value.int el) ?_
      refine jx_istore (pc := 100) C dL_hall_100 (jset_5 jc_i) (by decide) ?_
      refine jx_aload_n (pc := 102) C dL_hall_102 rfl ?_
      refine jx_iload (pc := 103) C dL_hall_103 rfl ?_
      refine jx_bipush (pc := 105) C dL_hall_105 nb_6 ?_
      refine aq_weaver (pc := 107) C hE.1 hst (by decide) S R hw (by decide) (Nat.le_of_ble_eq_true rfl) dL_hall_107 ⟨by show _ ≤ 800; omega, by show _ ≤ 4800; omega⟩ (fun I P R => ?_)
      refine jx_aload_n (pc := 110) C dL_hall_110 rfl ?_
      refine jx_iload (pc := 111) C dL_hall_111 rfl ?_
      refine jx_iconst (pc := 113) C dL_hall_113 nc_5 ?_
      refine aq_weaver (pc := 114) C hE.1 hst (by decide) S R hw (by decide) (Nat.le_of_ble_eq_true rfl) dL_hall_114 ⟨by show _ ≤ 800; omega, by show _ ≤ 4800; omega⟩ (fun I P R => ?_)
      refine jx_icmp_gt (pc := 117) C (tgt := 257) dL_hall_117 (by decide) (fun c117 => (by exfalso; exact absurd c117 (i32_nlt.mpr h65))) (fun c117 => ?_)
      refine jx_aload_n (pc := 120) C dL_hall_120 rfl ?_
      refine jx_iload (pc := 121) C dL_hall_121 rfl ?_
      refine jx_iconst (pc := 123) C dL_hall_123 nc_3 ?_
      refine aq_weaver (pc := 124) C hE.1 hst (by decide) S R hw (by decide) (Nat.le_of_ble_eq_true rfl) dL_hall_124 ⟨by show _ ≤ 800; omega, by show _ ≤ 4800; omega⟩ (fun I P R => ?_)
      refine jx_if_lt (pc := 127) C (tgt := 257) dL_hall_127 (by decide) (fun c127 => (by exfalso; exact absurd c127 (i32_nlt.mpr h3))) (fun c127 => ?_)
      refine jx_aload_n (pc := 130) C dL_hall_130 rfl ?_
      refine jx_iload (pc := 131) C dL_hall_131 rfl ?_
      refine jx_iconst (pc := 133) C dL_hall_133 nc_3 ?_
      refine aq_weaver (pc := 134) C hE.1 hst (by decide) S R hw (by decide) (Nat.le_of_ble_eq_true rfl) dL_hall_134 ⟨by show _ ≤ 800; omega, by show _ ≤ 4800; omega⟩ (fun I P R => ?_)
      refine jx_aload_n (pc := 137) C dL_hall_137 rfl ?_
      refine jx_iload (pc := 138) C dL_hall_138 rfl ?_
      refine jx_bipush (pc := 140) C dL_hall_140 nb_7 ?_
      refine aq_weaver (pc := 142) C hE.1 hst (by decide) S R hw (by decide) (Nat.le_of_ble_eq_true rfl) dL_hall_142 ⟨by show _ ≤ 800; omega, by show _ ≤ 4800; omega⟩ (fun I P R => ?_)
      refine jx_icmp_gt (pc := 145) C (tgt := 257) dL_hall_145 (by decide) (fun c145 => (by exfalso; exact absurd c145 (i32_nlt.mpr h37))) (fun c145 => ?_)
      refine jx_aload_n (pc := 148) C dL_hall_148 rfl ?_
      refine jx_iload (pc := 149) C dL_hall_149 rfl ?_
      refine jx_iconst (pc := 151) C dL_hall_151 nc_4 ?_
      refine aq_weaver (pc := 152) C hE.1 hst (by decide) S R hw (by decide) (Nat.le_of_ble_eq_true rfl) dL_hall_152 ⟨by show _ ≤ 800; omega, by show _ ≤ 4800; omega⟩ (fun I P R => ?_)
      refine jx_if_lt (pc := 155) C (tgt := 257) dL_hall_155 (by decide) (fun c155 => (by exfalso; exact absurd c155 (i32_nlt.mpr h4))) (fun c155 => ?_)
      refine jx_aload_n (pc := 158) C dL_hall_158 rfl ?_
      refine jx_iload (pc := 159) C dL_hall_159 rfl ?_
      refine jx_iconst (pc := 161) C dL_hall_161 nc_0 ?_
      refine aq_weaver (pc := 162) C hE.1 hst (by decide) S R hw (by decide) (Nat.le_of_ble_eq_true rfl) dL_hall_162 ⟨by show _ ≤ 800; omega, by show _ ≤ 4800; omega⟩ (fun I P R => ?_)
      refine jx_top C (y := .int (nI 0)) (congrArg Value.int e0) ?_
      refine jx_if_ne (pc := 165) C (tgt := 172) dL_hall_165 (by decide) (fun c165 => (by exfalso; revert c165; decide)) (fun c165 => ?_)
      refine jx_iconst (pc := 168) C dL_hall_168 nc_1 ?_
      refine jx_goto (pc := 169) C (tgt := 173) dL_hall_169 (by decide) ?_
      refine jx_iload (pc := 173) C dL_hall_173 rfl ?_
      refine jx_iconst (pc := 175) C dL_hall_175 nc_1 ?_
      refine jx_icmp_ne (pc := 176) C (tgt := 183) dL_hall_176 (by decide) (fun c176 => (by exfalso; revert c176; decide)) (fun c176 => ?_)
      refine jx_iconst (pc := 179) C dL_hall_179 nc_1 ?_
      refine jx_goto (pc := 180) C (tgt := 184) dL_hall_180 (by decide) ?_
      refine jx_icmp_ne (pc := 184) C (tgt := 257) dL_hall_184 (by decide) (fun c184 => (by exfalso; revert c184; decide)) (fun c184 => ?_)
      refine jx_iload (pc := 187) C dL_hall_187 rfl ?_
      refine jx_iconst (pc := 189) C dL_hall_189 nc_1 ?_
      refine jx_icmp_eq (pc := 190) C (tgt := 199) dL_hall_190 (by decide) (fun c190 => ?_) (fun c190 => (by exfalso; revert c190; decide))
      refine jx_iconst (pc := 199) C dL_hall_199 nc_1 ?_
      refine jx_goto (pc := 200) C (tgt := 204) dL_hall_200 (by decide) ?_
      refine jx_aload_n (pc := 204) C dL_hall_204 rfl ?_
      refine jx_iload (pc := 205) C dL_hall_205 rfl ?_
      refine jx_iconst (pc := 207) C dL_hall_207 nc_0 ?_
      refine aq_next (pc := 208) C hE.1 hst (by decide) S R hw (by decide) (Nat.le_of_ble_eq_true rfl) dL_hall_208 ⟨by show _ ≤ 800; omega, by show _ ≤ 4800; omega⟩ (fun I P R => ?_)
      refine jx_top C (y := .int (-1)) (congrArg Value.int e2) ?_
      refine jx_iconst (pc := 211) C dL_hall_211 nc_m1 ?_
      refine jx_icmp_ne (pc := 212) C (tgt := 219) dL_hall_212 (by decide) (fun c212 => (by exfalso; revert c212; decide)) (fun c212 => ?_)
      refine jx_iconst (pc := 215) C dL_hall_215 nc_1 ?_
      refine jx_goto (pc := 216) C (tgt := 220) dL_hall_216 (by decide) ?_
      refine jx_icmp_ne (pc := 220) C (tgt := 257) dL_hall_220 (by decide) (fun c220 => (by exfalso; revert c220; decide)) (fun c220 => ?_)
      refine jx_aload_n (pc := 223) C dL_hall_223 rfl ?_
      refine jx_iload (pc := 224) C dL_hall_224 rfl ?_
      refine jx_iconst (pc := 226) C dL_hall_226 nc_0 ?_
      refine aq_weaver (pc := 227) C hE.1 hst (by decide) S R hw (by decide) (Nat.le_of_ble_eq_true rfl) dL_hall_227 ⟨by show _ ≤ 800; omega, by show _ ≤ 4800; omega⟩ (fun I P R => ?_)
      refine jx_top C (y := .int (nI 0)) (congrArg Value.int e0) ?_
      refine jx_if_gt (pc := 230) C (tgt := 253) dL_hall_230 (by decide) (fun c230 => (by exfalso; revert c230; decide)) (fun c230 => ?_)
      refine jx_aload_n (pc := 233) C dL_hall_233 rfl ?_
      refine jx_iload (pc := 234) C dL_hall_234 rfl ?_
      refine jx_iconst (pc := 236) C dL_hall_236 nc_1 ?_
      refine aq_weaver (pc := 237) C hE.1 hst (by decide) S R hw (by decide) (Nat.le_of_ble_eq_true rfl) dL_hall_237 ⟨by show _ ≤ 800; omega, by show _ ≤ 4800; omega⟩ (fun I P R => ?_)
      refine jx_top C (y := .int (nI 0)) (congrArg Value.int l1) ?_
      refine jx_if_ne (pc := 240) C (tgt := 257) dL_hall_240 (by decide) (fun c240 => (by exfalso; revert c240; decide)) (fun c240 => ?_)
      refine jx_aload_n (pc := 243) C dL_hall_243 rfl ?_
      refine jx_iload (pc := 244) C dL_hall_244 rfl ?_
      refine jx_iconst (pc := 246) C dL_hall_246 nc_2 ?_
      refine aq_weaver (pc := 247) C hE.1 hst (by decide) S R hw (by decide) (Nat.le_of_ble_eq_true rfl) dL_hall_247 ⟨by show _ ≤ 800; omega, by show _ ≤ 4800; omega⟩ (fun I P R => ?_)
      refine jx_top C (y := .int (nI 0)) (congrArg Value.int l2) ?_
      refine jx_if_ne (pc := 250) C (tgt := 257) dL_hall_250 (by decide) (fun c250 => (by exfalso; revert c250; decide)) (fun c250 => ?_)
      refine jx_iconst (pc := 253) C dL_hall_253 nc_1 ?_
      refine jx_goto (pc := 254) C (tgt := 258) dL_hall_254 (by decide) ?_
      refine jx_istore (pc := 258) C dL_hall_258 (jset_6 jc_i) (by decide) ?_
      refine jx_iload (pc := 260) C dL_hall_260 rfl ?_
      refine jx_if_eq (pc := 262) C (tgt := 307) dL_hall_262 (by decide) (fun c262 => (by exfalso; revert c262; decide)) (fun c262 => ?_)
      refine jx_iload (pc := 265) C dL_hall_265 rfl ?_
      refine jx_iconst (pc := 267) C dL_hall_267 nc_1 ?_
      refine jx_icmp_eq (pc := 268) C (tgt := 303) dL_hall_268 (by decide) (fun c268 => ?_) (fun c268 => (by exfalso; revert c268; decide))
      refine jx_iconst (pc := 303) C dL_hall_303 nc_1 ?_
      refine jx_goto (pc := 304) C (tgt := 308) dL_hall_304 (by decide) ?_
      refine jx_istore (pc := 308) C dL_hall_308 (jset_6 jc_i) (by decide) ?_
      refine jx_iincN (pc := 310) C dL_hall_310 rfl (jset_7 jc_i) (by decide) ?_
      refine jx_goto (pc := 313) C (tgt := 18) dL_hall_313 (by decide) ?_
      exact ih (w + 1) _ _ _ _ _ (by omega) R (by omega) (by omega)
    · have el : sloomsN f w + nI 1 = sloomsN f (w + 1) := congrArg (fun z => sloomsN f w + z) (if_neg (show ¬ f (18 + 12 * w + 0) ≤ 0 by rw [e0, nI_le0 v2]; omega)).symm
      refine jx_iload (pc := 18) C dL_hall_18 rfl ?_
      refine jx_bipush (pc := 20) C dL_hall_20 nb_6 ?_
      refine jx_icmp_ge (pc := 22) C (tgt := 316) dL_hall_22 (by decide) (fun c22 => (by rw [nI_leI (by omega) (by omega)] at c22; exfalso; omega)) (fun c22 => ?_)
      rw [nI_leI (by omega) (by omega)] at c22
      refine jx_iload (pc := 25) C dL_hall_25 rfl ?_
      refine jx_if_eq (pc := 27) C (tgt := 316) dL_hall_27 (by decide) (fun c27 => (by exfalso; revert c27; decide)) (fun c27 => ?_)
      refine jx_aload_n (pc := 30) C dL_hall_30 rfl ?_
      refine jx_iload (pc := 31) C dL_hall_31 rfl ?_
      refine jx_iconst (pc := 33) C dL_hall_33 nc_1 ?_
      refine aq_next (pc := 34) C hE.1 hst (by decide) S R hw (by decide) (Nat.le_of_ble_eq_true rfl) dL_hall_34 ⟨by show _ ≤ 800; omega, by show _ ≤ 4800; omega⟩ (fun I P R => ?_)
      refine jx_top C (y := .int (nI 2)) (congrArg Value.int e1) ?_
      refine jx_istore (pc := 37) C dL_hall_37 (jset_8 jc_i) (by decide) ?_
      refine jx_iload_n (pc := 39) C dL_hall_39 rfl ?_
      refine jx_aload_n (pc := 40) C dL_hall_40 rfl ?_
      refine jx_iload (pc := 41) C dL_hall_41 rfl ?_
      refine jx_iconst (pc := 43) C dL_hall_43 nc_5 ?_
      refine aq_weaver (pc := 44) C hE.1 hst (by decide) S R hw (by decide) (Nat.le_of_ble_eq_true rfl) dL_hall_44 ⟨by show _ ≤ 800; omega, by show _ ≤ 4800; omega⟩ (fun I P R => ?_)
      refine jx_iadd (pc := 47) C dL_hall_47 ?_
      refine jx_istore_n (pc := 48) C dL_hall_48 (jset_1 jc_r) (by decide) ?_
      refine jx_iload_n (pc := 49) C dL_hall_49 rfl ?_
      refine jx_aload_n (pc := 50) C dL_hall_50 rfl ?_
      refine jx_iload (pc := 51) C dL_hall_51 rfl ?_
      refine jx_bipush (pc := 53) C dL_hall_53 nb_6 ?_
      refine aq_weaver (pc := 55) C hE.1 hst (by decide) S R hw (by decide) (Nat.le_of_ble_eq_true rfl) dL_hall_55 ⟨by show _ ≤ 800; omega, by show _ ≤ 4800; omega⟩ (fun I P R => ?_)
      refine jx_iadd (pc := 58) C dL_hall_58 ?_
      refine jx_istore_n (pc := 59) C dL_hall_59 (jset_2 jc_i) (by decide) ?_
      refine jx_iload_n (pc := 60) C dL_hall_60 rfl ?_
      refine jx_aload_n (pc := 61) C dL_hall_61 rfl ?_
      refine jx_iload (pc := 62) C dL_hall_62 rfl ?_
      refine jx_iconst (pc := 64) C dL_hall_64 nc_3 ?_
      refine aq_weaver (pc := 65) C hE.1 hst (by decide) S R hw (by decide) (Nat.le_of_ble_eq_true rfl) dL_hall_65 ⟨by show _ ≤ 800; omega, by show _ ≤ 4800; omega⟩ (fun I P R => ?_)
      refine jx_iadd (pc := 68) C dL_hall_68 ?_
      refine jx_istore_n (pc := 69) C dL_hall_69 (jset_3 jc_i) (by decide) ?_
      refine jx_iload (pc := 70) C dL_hall_70 rfl ?_
      refine jx_aload_n (pc := 72) C dL_hall_72 rfl ?_
      refine jx_iload (pc := 73) C dL_hall_73 rfl ?_
      refine jx_iconst (pc := 75) C dL_hall_75 nc_4 ?_
      refine aq_weaver (pc := 76) C hE.1 hst (by decide) S R hw (by decide) (Nat.le_of_ble_eq_true rfl) dL_hall_76 ⟨by show _ ≤ 800; omega, by show _ ≤ 4800; omega⟩ (fun I P R => ?_)
      refine jx_iadd (pc := 79) C dL_hall_79 ?_
      refine jx_istore (pc := 80) C dL_hall_80 (jset_4 jc_i) (by decide) ?_
      refine jx_iload (pc := 82) C dL_hall_82 rfl ?_
      refine jx_aload_n (pc := 84) C dL_hall_84 rfl ?_
      refine jx_iload (pc := 85) C dL_hall_85 rfl ?_
      refine jx_iconst (pc := 87) C dL_hall_87 nc_0 ?_
      refine aq_weaver (pc := 88) C hE.1 hst (by decide) S R hw (by decide) (Nat.le_of_ble_eq_true rfl) dL_hall_88 ⟨by show _ ≤ 800; omega, by show _ ≤ 4800; omega⟩ (fun I P R => ?_)
      refine jx_top C (y := .int (nI v)) (congrArg Value.int e0) ?_
      refine jx_if_le (pc := 91) C (tgt := 98) dL_hall_91 (by decide) (fun c91 => (by rw [nI_le0 (by omega)] at c91; exfalso; omega)) (fun c91 => ?_)
      rw [nI_le0 (by omega)] at c91
      refine jx_iconst (pc := 94) C dL_hall_94 nc_1 ?_
      refine jx_goto (pc := 95) C (tgt := 99) dL_hall_95 (by decide) ?_
      refine jx_iadd (pc := 99) C dL_hall_99 ?_
      refine jx_top C (y := .int (sloomsN f (w + 1))) (congrArg Value.int el) ?_
      refine jx_istore (pc := 100) C dL_hall_100 (jset_5 jc_i) (by decide) ?_
      refine jx_aload_n (pc := 102) C dL_hall_102 rfl ?_
      refine jx_iload (pc := 103) C dL_hall_103 rfl ?_
      refine jx_bipush (pc := 105) C dL_hall_105 nb_6 ?_
      refine aq_weaver (pc := 107) C hE.1 hst (by decide) S R hw (by decide) (Nat.le_of_ble_eq_true rfl) dL_hall_107 ⟨by show _ ≤ 800; omega, by show _ ≤ 4800; omega⟩ (fun I P R => ?_)
      refine jx_aload_n (pc := 110) C dL_hall_110 rfl ?_
      refine jx_iload (pc := 111) C dL_hall_111 rfl ?_
      refine jx_iconst (pc := 113) C dL_hall_113 nc_5 ?_
      refine aq_weaver (pc := 114) C hE.1 hst (by decide) S R hw (by decide) (Nat.le_of_ble_eq_true rfl) dL_hall_114 ⟨by show _ ≤ 800; omega, by show _ ≤ 4800; omega⟩ (fun I P R => ?_)
      refine jx_icmp_gt (pc := 117) C (tgt := 257) dL_hall_117 (by decide) (fun c117 => (by exfalso; exact absurd c117 (i32_nlt.mpr h65))) (fun c117 => ?_)
      refine jx_aload_n (pc := 120) C dL_hall_120 rfl ?_
      refine jx_iload (pc := 121) C dL_hall_121 rfl ?_
      refine jx_iconst (pc := 123) C dL_hall_123 nc_3 ?_
      refine aq_weaver (pc := 124) C hE.1 hst (by decide) S R hw (by decide) (Nat.le_of_ble_eq_true rfl) dL_hall_124 ⟨by show _ ≤ 800; omega, by show _ ≤ 4800; omega⟩ (fun I P R => ?_)
      refine jx_if_lt (pc := 127) C (tgt := 257) dL_hall_127 (by decide) (fun c127 => (by exfalso; exact absurd c127 (i32_nlt.mpr h3))) (fun c127 => ?_)
      refine jx_aload_n (pc := 130) C dL_hall_130 rfl ?_
      refine jx_iload (pc := 131) C dL_hall_131 rfl ?_
      refine jx_iconst (pc := 133) C dL_hall_133 nc_3 ?_
      refine aq_weaver (pc := 134) C hE.1 hst (by decide) S R hw (by decide) (Nat.le_of_ble_eq_true rfl) dL_hall_134 ⟨by show _ ≤ 800; omega, by show _ ≤ 4800; omega⟩ (fun I P R => ?_)
      refine jx_aload_n (pc := 137) C dL_hall_137 rfl ?_
      refine jx_iload (pc := 138) C dL_hall_138 rfl ?_
      refine jx_bipush (pc := 140) C dL_hall_140 nb_7 ?_
      refine aq_weaver (pc := 142) C hE.1 hst (by decide) S R hw (by decide) (Nat.le_of_ble_eq_true rfl) dL_hall_142 ⟨by show _ ≤ 800; omega, by show _ ≤ 4800; omega⟩ (fun I P R => ?_)
      refine jx_icmp_gt (pc := 145) C (tgt := 257) dL_hall_145 (by decide) (fun c145 => (by exfalso; exact absurd c145 (i32_nlt.mpr h37))) (fun c145 => ?_)
      refine jx_aload_n (pc := 148) C dL_hall_148 rfl ?_
      refine jx_iload (pc := 149) C dL_hall_149 rfl ?_
      refine jx_iconst (pc := 151) C dL_hall_151 nc_4 ?_
      refine aq_weaver (pc := 152) C hE.1 hst (by decide) S R hw (by decide) (Nat.le_of_ble_eq_true rfl) dL_hall_152 ⟨by show _ ≤ 800; omega, by show _ ≤ 4800; omega⟩ (fun I P R => ?_)
      refine jx_if_lt (pc := 155) C (tgt := 257) dL_hall_155 (by decide) (fun c155 => (by exfalso; exact absurd c155 (i32_nlt.mpr h4))) (fun c155 => ?_)
      refine jx_aload_n (pc := 158) C dL_hall_158 rfl ?_
      refine jx_iload (pc := 159) C dL_hall_159 rfl ?_
      refine jx_iconst (pc := 161) C dL_hall_161 nc_0 ?_
      refine aq_weaver (pc := 162) C hE.1 hst (by decide) S R hw (by decide) (Nat.le_of_ble_eq_true rfl) dL_hall_162 ⟨by show _ ≤ 800; omega, by show _ ≤ 4800; omega⟩ (fun I P R => ?_)
      refine jx_top C (y := .int (nI v)) (congrArg Value.int e0) ?_
      refine jx_if_ne (pc := 165) C (tgt := 172) dL_hall_165 (by decide) (fun c165 => ?_) (fun c165 => (by rw [nI_eq0 (by omega)] at c165; exfalso; omega))
      rw [nI_eq0 (by omega)] at c165
      refine jx_iconst (pc := 172) C dL_hall_172 nc_0 ?_
      refine jx_iload (pc := 173) C dL_hall_173 rfl ?_
      refine jx_iconst (pc := 175) C dL_hall_175 nc_1 ?_
      refine jx_icmp_ne (pc := 176) C (tgt := 183) dL_hall_176 (by decide) (fun c176 => ?_) (fun c176 => (by exfalso; revert c176; decide))
      refine jx_iconst (pc := 183) C dL_hall_183 nc_0 ?_
      refine jx_icmp_ne (pc := 184) C (tgt := 257) dL_hall_184 (by decide) (fun c184 => (by exfalso; revert c184; decide)) (fun c184 => ?_)
      refine jx_iload (pc := 187) C dL_hall_187 rfl ?_
      refine jx_iconst (pc := 189) C dL_hall_189 nc_1 ?_
      refine jx_icmp_eq (pc := 190) C (tgt := 199) dL_hall_190 (by decide) (fun c190 => (by exfalso; revert c190; decide)) (fun c190 => ?_)
      refine jx_iload (pc := 193) C dL_hall_193 rfl ?_
      refine jx_iconst (pc := 195) C dL_hall_195 nc_2 ?_
      refine jx_icmp_ne (pc := 196) C (tgt := 203) dL_hall_196 (by decide) (fun c196 => (by exfalso; revert c196; decide)) (fun c196 => ?_)
      refine jx_iconst (pc := 199) C dL_hall_199 nc_1 ?_
      refine jx_goto (pc := 200) C (tgt := 204) dL_hall_200 (by decide) ?_
      refine jx_aload_n (pc := 204) C dL_hall_204 rfl ?_
      refine jx_iload (pc := 205) C dL_hall_205 rfl ?_
      refine jx_iconst (pc := 207) C dL_hall_207 nc_0 ?_
      refine aq_next (pc := 208) C hE.1 hst (by decide) S R hw (by decide) (Nat.le_of_ble_eq_true rfl) dL_hall_208 ⟨by show _ ≤ 800; omega, by show _ ≤ 4800; omega⟩ (fun I P R => ?_)
      refine jx_top C (y := .int (-1)) (congrArg Value.int e2) ?_
      refine jx_iconst (pc := 211) C dL_hall_211 nc_m1 ?_
      refine jx_icmp_ne (pc := 212) C (tgt := 219) dL_hall_212 (by decide) (fun c212 => (by exfalso; revert c212; decide)) (fun c212 => ?_)
      refine jx_iconst (pc := 215) C dL_hall_215 nc_1 ?_
      refine jx_goto (pc := 216) C (tgt := 220) dL_hall_216 (by decide) ?_
      refine jx_icmp_ne (pc := 220) C (tgt := 257) dL_hall_220 (by decide) (fun c220 => (by exfalso; revert c220; decide)) (fun c220 => ?_)
      refine jx_aload_n (pc := 223) C dL_hall_223 rfl ?_
      refine jx_iload (pc := 224) C dL_hall_224 rfl ?_
      refine jx_iconst (pc := 226) C dL_hall_226 nc_0 ?_
      refine aq_weaver (pc := 227) C hE.1 hst (by decide) S R hw (by decide) (Nat.le_of_ble_eq_true rfl) dL_hall_227 ⟨by show _ ≤ 800; omega, by show _ ≤ 4800; omega⟩ (fun I P R => ?_)
      refine jx_top C (y := .int (nI v)) (congrArg Value.int e0) ?_
      refine jx_if_gt (pc := 230) C (tgt := 253) dL_hall_230 (by decide) (fun c230 => ?_) (fun c230 => (by rw [nI_gt0 (by omega)] at c230; exfalso; omega))
      rw [nI_gt0 (by omega)] at c230
      refine jx_iconst (pc := 253) C dL_hall_253 nc_1 ?_
      refine jx_goto (pc := 254) C (tgt := 258) dL_hall_254 (by decide) ?_
      refine jx_istore (pc := 258) C dL_hall_258 (jset_6 jc_i) (by decide) ?_
      refine jx_iload (pc := 260) C dL_hall_260 rfl ?_
      refine jx_if_eq (pc := 262) C (tgt := 307) dL_hall_262 (by decide) (fun c262 => (by exfalso; revert c262; decide)) (fun c262 => ?_)
      refine jx_iload (pc := 265) C dL_hall_265 rfl ?_
      refine jx_iconst (pc := 267) C dL_hall_267 nc_1 ?_
      refine jx_icmp_eq (pc := 268) C (tgt := 303) dL_hall_268 (by decide) (fun c268 => (by exfalso; revert c268; decide)) (fun c268 => ?_)
      refine jx_iload (pc := 271) C dL_hall_271 rfl ?_
      refine jx_iconst (pc := 273) C dL_hall_273 nc_2 ?_
      refine jx_icmp_eq (pc := 274) C (tgt := 303) dL_hall_274 (by decide) (fun c274 => ?_) (fun c274 => (by exfalso; revert c274; decide))
      refine jx_iconst (pc := 303) C dL_hall_303 nc_1 ?_
      refine jx_goto (pc := 304) C (tgt := 308) dL_hall_304 (by decide) ?_
      refine jx_istore (pc := 308) C dL_hall_308 (jset_6 jc_i) (by decide) ?_
      refine jx_iincN (pc := 310) C dL_hall_310 rfl (jset_7 jc_i) (by decide) ?_
      refine jx_goto (pc := 313) C (tgt := 18) dL_hall_313 (by decide) ?_
      exact ih (w + 1) _ _ _ _ _ (by omega) R (by omega) (by omega)
    · have el : sloomsN f w + nI 1 = sloomsN f (w + 1) := congrArg (fun z => sloomsN f w + z) (if_neg (show ¬ f (18 + 12 * w + 0) ≤ 0 by rw [e0, nI_le0 v2]; omega)).symm
      rcases e1 with e1 | e1
      · skip
        refine jx_iload (pc := 18) C dL_hall_18 rfl ?_
        refine jx_bipush (pc := 20) C dL_hall_20 nb_6 ?_
        refine jx_icmp_ge (pc := 22) C (tgt := 316) dL_hall_22 (by decide) (fun c22 => (by rw [nI_leI (by omega) (by omega)] at c22; exfalso; omega)) (fun c22 => ?_)
        rw [nI_leI (by omega) (by omega)] at c22
        refine jx_iload (pc := 25) C dL_hall_25 rfl ?_
        refine jx_if_eq (pc := 27) C (tgt := 316) dL_hall_27 (by decide) (fun c27 => (by exfalso; revert c27; decide)) (fun c27 => ?_)
        refine jx_aload_n (pc := 30) C dL_hall_30 rfl ?_
        refine jx_iload (pc := 31) C dL_hall_31 rfl ?_
        refine jx_iconst (pc := 33) C dL_hall_33 nc_1 ?_
        refine aq_next (pc := 34) C hE.1 hst (by decide) S R hw (by decide) (Nat.le_of_ble_eq_true rfl) dL_hall_34 ⟨by show _ ≤ 800; omega, by show _ ≤ 4800; omega⟩ (fun I P R => ?_)
        refine jx_top C (y := .int (nI 0)) (congrArg Value.int e1) ?_
        refine jx_istore (pc := 37) C dL_hall_37 (jset_8 jc_i) (by decide) ?_
        refine jx_iload_n (pc := 39) C dL_hall_39 rfl ?_
        refine jx_aload_n (pc := 40) C dL_hall_40 rfl ?_
        refine jx_iload (pc := 41) C dL_hall_41 rfl ?_
        refine jx_iconst (pc := 43) C dL_hall_43 nc_5 ?_
        refine aq_weaver (pc := 44) C hE.1 hst (by decide) S R hw (by decide) (Nat.le_of_ble_eq_true rfl) dL_hall_44 ⟨by show _ ≤ 800; omega, by show _ ≤ 4800; omega⟩ (fun I P R => ?_)
        refine jx_iadd (pc := 47) C dL_hall_47 ?_
        refine jx_istore_n (pc := 48) C dL_hall_48 (jset_1 jc_r) (by decide) ?_
        refine jx_iload_n (pc := 49) C dL_hall_49 rfl ?_
        refine jx_aload_n (pc := 50) C dL_hall_50 rfl ?_
        refine jx_iload (pc := 51) C dL_hall_51 rfl ?_
        refine jx_bipush (pc := 53) C dL_hall_53 nb_6 ?_
        refine aq_weaver (pc := 55) C hE.1 hst (by decide) S R hw (by decide) (Nat.le_of_ble_eq_true rfl) dL_hall_55 ⟨by show _ ≤ 800; omega, by show _ ≤ 4800; omega⟩ (fun I P R => ?_)
        refine jx_iadd (pc := 58) C dL_hall_58 ?_
        refine jx_istore_n (pc := 59) C dL_hall_59 (jset_2 jc_i) (by decide) ?_
        refine jx_iload_n (pc := 60) C dL_hall_60 rfl ?_
        refine jx_aload_n (pc := 61) C dL_hall_61 rfl ?_
        refine jx_iload (pc := 62) C dL_hall_62 rfl ?_
        refine jx_iconst (pc := 64) C dL_hall_64 nc_3 ?_
        refine aq_weaver (pc := 65) C hE.1 hst (by decide) S R hw (by decide) (Nat.le_of_ble_eq_true rfl) dL_hall_65 ⟨by show _ ≤ 800; omega, by show _ ≤ 4800; omega⟩ (fun I P R => ?_)
        refine jx_iadd (pc := 68) C dL_hall_68 ?_
        refine jx_istore_n (pc := 69) C dL_hall_69 (jset_3 jc_i) (by decide) ?_
        refine jx_iload (pc := 70) C dL_hall_70 rfl ?_
        refine jx_aload_n (pc := 72) C dL_hall_72 rfl ?_
        refine jx_iload (pc := 73) C dL_hall_73 rfl ?_
        refine jx_iconst (pc := 75) C dL_hall_75 nc_4 ?_
        refine aq_weaver (pc := 76) C hE.1 hst (by decide) S R hw (by decide) (Nat.le_of_ble_eq_true rfl) dL_hall_76 ⟨by show _ ≤ 800; omega, by show _ ≤ 4800; omega⟩ (fun I P R => ?_)
        refine jx_iadd (pc := 79) C dL_hall_79 ?_
        refine jx_istore (pc := 80) C dL_hall_80 (jset_4 jc_i) (by decide) ?_
        refine jx_iload (pc := 82) C dL_hall_82 rfl ?_
        refine jx_aload_n (pc := 84) C dL_hall_84 rfl ?_
        refine jx_iload (pc := 85) C dL_hall_85 rfl ?_
        refine jx_iconst (pc := 87) C dL_hall_87 nc_0 ?_
        refine aq_weaver (pc := 88) C hE.1 hst (by decide) S R hw (by decide) (Nat.le_of_ble_eq_true rfl) dL_hall_88 ⟨by show _ ≤ 800; omega, by show _ ≤ 4800; omega⟩ (fun I P R => ?_)
        refine jx_top C (y := .int (nI v)) (congrArg Value.int e0) ?_
        refine jx_if_le (pc := 91) C (tgt := 98) dL_hall_91 (by decide) (fun c91 => (by rw [nI_le0 (by omega)] at c91; exfalso; omega)) (fun c91 => ?_)
        rw [nI_le0 (by omega)] at c91
        refine jx_iconst (pc := 94) C dL_hall_94 nc_1 ?_
        refine jx_goto (pc := 95) C (tgt := 99) dL_hall_95 (by decide) ?_
        refine jx_iadd (pc := 99) C dL_hall_99 ?_
        refine jx_top C (y := .int (sloomsN f (w + 1))) (congrArg Value.int el) ?_
        refine jx_istore (pc := 100) C dL_hall_100 (jset_5 jc_i) (by decide) ?_
        refine jx_aload_n (pc := 102) C dL_hall_102 rfl ?_
        refine jx_iload (pc := 103) C dL_hall_103 rfl ?_
        refine jx_bipush (pc := 105) C dL_hall_105 nb_6 ?_
        refine aq_weaver (pc := 107) C hE.1 hst (by decide) S R hw (by decide) (Nat.le_of_ble_eq_true rfl) dL_hall_107 ⟨by show _ ≤ 800; omega, by show _ ≤ 4800; omega⟩ (fun I P R => ?_)
        refine jx_aload_n (pc := 110) C dL_hall_110 rfl ?_
        refine jx_iload (pc := 111) C dL_hall_111 rfl ?_
        refine jx_iconst (pc := 113) C dL_hall_113 nc_5 ?_
        refine aq_weaver (pc := 114) C hE.1 hst (by decide) S R hw (by decide) (Nat.le_of_ble_eq_true rfl) dL_hall_114 ⟨by show _ ≤ 800; omega, by show _ ≤ 4800; omega⟩ (fun I P R => ?_)
        refine jx_icmp_gt (pc := 117) C (tgt := 257) dL_hall_117 (by decide) (fun c117 => (by exfalso; exact absurd c117 (i32_nlt.mpr h65))) (fun c117 => ?_)
        refine jx_aload_n (pc := 120) C dL_hall_120 rfl ?_
        refine jx_iload (pc := 121) C dL_hall_121 rfl ?_
        refine jx_iconst (pc := 123) C dL_hall_123 nc_3 ?_
        refine aq_weaver (pc := 124) C hE.1 hst (by decide) S R hw (by decide) (Nat.le_of_ble_eq_true rfl) dL_hall_124 ⟨by show _ ≤ 800; omega, by show _ ≤ 4800; omega⟩ (fun I P R => ?_)
        refine jx_if_lt (pc := 127) C (tgt := 257) dL_hall_127 (by decide) (fun c127 => (by exfalso; exact absurd c127 (i32_nlt.mpr h3))) (fun c127 => ?_)
        refine jx_aload_n (pc := 130) C dL_hall_130 rfl ?_
        refine jx_iload (pc := 131) C dL_hall_131 rfl ?_
        refine jx_iconst (pc := 133) C dL_hall_133 nc_3 ?_
        refine aq_weaver (pc := 134) C hE.1 hst (by decide) S R hw (by decide) (Nat.le_of_ble_eq_true rfl) dL_hall_134 ⟨by show _ ≤ 800; omega, by show _ ≤ 4800; omega⟩ (fun I P R => ?_)
        refine jx_aload_n (pc := 137) C dL_hall_137 rfl ?_
        refine jx_iload (pc := 138) C dL_hall_138 rfl ?_
        refine jx_bipush (pc := 140) C dL_hall_140 nb_7 ?_
        refine aq_weaver (pc := 142) C hE.1 hst (by decide) S R hw (by decide) (Nat.le_of_ble_eq_true rfl) dL_hall_142 ⟨by show _ ≤ 800; omega, by show _ ≤ 4800; omega⟩ (fun I P R => ?_)
        refine jx_icmp_gt (pc := 145) C (tgt := 257) dL_hall_145 (by decide) (fun c145 => (by exfalso; exact absurd c145 (i32_nlt.mpr h37))) (fun c145 => ?_)
        refine jx_aload_n (pc := 148) C dL_hall_148 rfl ?_
        refine jx_iload (pc := 149) C dL_hall_149 rfl ?_
        refine jx_iconst (pc := 151) C dL_hall_151 nc_4 ?_
        refine aq_weaver (pc := 152) C hE.1 hst (by decide) S R hw (by decide) (Nat.le_of_ble_eq_true rfl) dL_hall_152 ⟨by show _ ≤ 800; omega, by show _ ≤ 4800; omega⟩ (fun I P R => ?_)
        refine jx_if_lt (pc := 155) C (tgt := 257) dL_hall_155 (by decide) (fun c155 => (by exfalso; exact absurd c155 (i32_nlt.mpr h4))) (fun c155 => ?_)
        refine jx_aload_n (pc := 158) C dL_hall_158 rfl ?_
        refine jx_iload (pc := 159) C dL_hall_159 rfl ?_
        refine jx_iconst (pc := 161) C dL_hall_161 nc_0 ?_
        refine aq_weaver (pc := 162) C hE.1 hst (by decide) S R hw (by decide) (Nat.le_of_ble_eq_true rfl) dL_hall_162 ⟨by show _ ≤ 800; omega, by show _ ≤ 4800; omega⟩ (fun I P R => ?_)
        refine jx_top C (y := .int (nI v)) (congrArg Value.int e0) ?_
        refine jx_if_ne (pc := 165) C (tgt := 172) dL_hall_165 (by decide) (fun c165 => ?_) (fun c165 => (by rw [nI_eq0 (by omega)] at c165; exfalso; omega))
        rw [nI_eq0 (by omega)] at c165
        refine jx_iconst (pc := 172) C dL_hall_172 nc_0 ?_
        refine jx_iload (pc := 173) C dL_hall_173 rfl ?_
        refine jx_iconst (pc := 175) C dL_hall_175 nc_1 ?_
        refine jx_icmp_ne (pc := 176) C (tgt := 183) dL_hall_176 (by decide) (fun c176 => ?_) (fun c176 => (by exfalso; revert c176; decide))
        refine jx_iconst (pc := 183) C dL_hall_183 nc_0 ?_
        refine jx_icmp_ne (pc := 184) C (tgt := 257) dL_hall_184 (by decide) (fun c184 => (by exfalso; revert c184; decide)) (fun c184 => ?_)
        refine jx_iload (pc := 187) C dL_hall_187 rfl ?_
        refine jx_iconst (pc := 189) C dL_hall_189 nc_1 ?_
        refine jx_icmp_eq (pc := 190) C (tgt := 199) dL_hall_190 (by decide) (fun c190 => (by exfalso; revert c190; decide)) (fun c190 => ?_)
        refine jx_iload (pc := 193) C dL_hall_193 rfl ?_
        refine jx_iconst (pc := 195) C dL_hall_195 nc_2 ?_
        refine jx_icmp_ne (pc := 196) C (tgt := 203) dL_hall_196 (by decide) (fun c196 => ?_) (fun c196 => (by exfalso; revert c196; decide))
        refine jx_iconst (pc := 203) C dL_hall_203 nc_0 ?_
        refine jx_aload_n (pc := 204) C dL_hall_204 rfl ?_
        refine jx_iload (pc := 205) C dL_hall_205 rfl ?_
        refine jx_iconst (pc := 207) C dL_hall_207 nc_0 ?_
        refine aq_next (pc := 208) C hE.1 hst (by decide) S R hw (by decide) (Nat.le_of_ble_eq_true rfl) dL_hall_208 ⟨by show _ ≤ 800; omega, by show _ ≤ 4800; omega⟩ (fun I P R => ?_)
        refine jx_top C (y := .int (nI nu)) (congrArg Value.int e2) ?_
        refine jx_iconst (pc := 211) C dL_hall_211 nc_m1 ?_
        refine jx_icmp_ne (pc := 212) C (tgt := 219) dL_hall_212 (by decide) (fun c212 => ?_) (fun c212 => (by exfalso; exact (nI_m1 hnu).mp c212))
        refine jx_iconst (pc := 219) C dL_hall_219 nc_0 ?_
        refine jx_icmp_ne (pc := 220) C (tgt := 257) dL_hall_220 (by decide) (fun c220 => (by exfalso; revert c220; decide)) (fun c220 => ?_)
        refine jx_aload_n (pc := 223) C dL_hall_223 rfl ?_
        refine jx_iload (pc := 224) C dL_hall_224 rfl ?_
        refine jx_iconst (pc := 226) C dL_hall_226 nc_0 ?_
        refine aq_weaver (pc := 227) C hE.1 hst (by decide) S R hw (by decide) (Nat.le_of_ble_eq_true rfl) dL_hall_227 ⟨by show _ ≤ 800; omega, by show _ ≤ 4800; omega⟩ (fun I P R => ?_)
        refine jx_top C (y := .int (nI v)) (congrArg Value.int e0) ?_
        refine jx_if_gt (pc := 230) C (tgt := 253) dL_hall_230 (by decide) (fun c230 => ?_) (fun c230 => (by rw [nI_gt0 (by omega)] at c230; exfalso; omega))
        rw [nI_gt0 (by omega)] at c230
        refine jx_iconst (pc := 253) C dL_hall_253 nc_1 ?_
        refine jx_goto (pc := 254) C (tgt := 258) dL_hall_254 (by decide) ?_
        refine jx_istore (pc := 258) C dL_hall_258 (jset_6 jc_i) (by decide) ?_
        refine jx_iload (pc := 260) C dL_hall_260 rfl ?_
        refine jx_if_eq (pc := 262) C (tgt := 307) dL_hall_262 (by decide) (fun c262 => (by exfalso; revert c262; decide)) (fun c262 => ?_)
        refine jx_iload (pc := 265) C dL_hall_265 rfl ?_
        refine jx_iconst (pc := 267) C dL_hall_267 nc_1 ?_
        refine jx_icmp_eq (pc := 268) C (tgt := 303) dL_hall_268 (by decide) (fun c268 => (by exfalso; revert c268; decide)) (fun c268 => ?_)
        refine jx_iload (pc := 271) C dL_hall_271 rfl ?_
        refine jx_iconst (pc := 273) C dL_hall_273 nc_2 ?_
        refine jx_icmp_eq (pc := 274) C (tgt := 303) dL_hall_274 (by decide) (fun c274 => (by exfalso; revert c274; decide)) (fun c274 => ?_)
        refine jx_aload_n (pc := 277) C dL_hall_277 rfl ?_
        refine jx_aload_n (pc := 278) C dL_hall_278 rfl ?_
        refine jx_aload_n (pc := 279) C dL_hall_279 rfl ?_
        refine jx_iload (pc := 280) C dL_hall_280 rfl ?_
        refine jx_iconst (pc := 282) C dL_hall_282 nc_0 ?_
        refine aq_next (pc := 283) C hE.1 hst (by decide) S R hw (by decide) (Nat.le_of_ble_eq_true rfl) dL_hall_283 ⟨by show _ ≤ 800; omega, by show _ ≤ 4800; omega⟩ (fun I P R => ?_)
        refine jx_top C (y := .int (f (90 + 12 * o + 0))) (congrArg Value.int (e2.trans e4.symm)) ?_
        refine jx_callG (pc := 286) C hE (go_L_48 C (Nat.le_of_ble_eq_true rfl) dL_hall_286) (t_L_placeOf hst S a hI ho R) (by decide) (by decide) ⟨by show _ ≤ 800; omega, by show _ ≤ 4800; omega⟩ (fun v9 I P L9 q9 => ?_)
        obtain ⟨rfl, R, rfl⟩ := q9
        refine jx_iconst (pc := 289) C dL_hall_289 nc_2 ?_
        refine aq_orderOf (pc := 290) C hE.1 hst (by decide) S R hI.1.1 hm ho (by decide) (Nat.le_of_ble_eq_true rfl) dL_hall_290 ⟨by show _ ≤ 800; omega, by show _ ≤ 4800; omega⟩ (fun I P R => ?_)
        refine jx_top C (y := .int (f (90 + 12 * o + 2))) (rfl) ?_
        refine jx_aload_n (pc := 293) C dL_hall_293 rfl ?_
        refine jx_iload (pc := 294) C dL_hall_294 rfl ?_
        refine jx_iconst (pc := 296) C dL_hall_296 nc_0 ?_
        refine aq_weaver (pc := 297) C hE.1 hst (by decide) S R hw (by decide) (Nat.le_of_ble_eq_true rfl) dL_hall_297 ⟨by show _ ≤ 800; omega, by show _ ≤ 4800; omega⟩ (fun I P R => ?_)
        refine jx_icmp_gt (pc := 300) C (tgt := 307) dL_hall_300 (by decide) (fun c300 => (by exfalso; exact absurd c300 (i32_nlt.mpr hfit))) (fun c300 => ?_)
        refine jx_iconst (pc := 303) C dL_hall_303 nc_1 ?_
        refine jx_goto (pc := 304) C (tgt := 308) dL_hall_304 (by decide) ?_
        refine jx_istore (pc := 308) C dL_hall_308 (jset_6 jc_i) (by decide) ?_
        refine jx_iincN (pc := 310) C dL_hall_310 rfl (jset_7 jc_i) (by decide) ?_
        refine jx_goto (pc := 313) C (tgt := 18) dL_hall_313 (by decide) ?_
        exact ih (w + 1) _ _ _ _ _ (by omega) R (by omega) (by omega)
      · skip
        refine jx_iload (pc := 18) C dL_hall_18 rfl ?_
        refine jx_bipush (pc := 20) C dL_hall_20 nb_6 ?_
        refine jx_icmp_ge (pc := 22) C (tgt := 316) dL_hall_22 (by decide) (fun c22 => (by rw [nI_leI (by omega) (by omega)] at c22; exfalso; omega)) (fun c22 => ?_)
        rw [nI_leI (by omega) (by omega)] at c22
        refine jx_iload (pc := 25) C dL_hall_25 rfl ?_
        refine jx_if_eq (pc := 27) C (tgt := 316) dL_hall_27 (by decide) (fun c27 => (by exfalso; revert c27; decide)) (fun c27 => ?_)
        refine jx_aload_n (pc := 30) C dL_hall_30 rfl ?_
        refine jx_iload (pc := 31) C dL_hall_31 rfl ?_
        refine jx_iconst (pc := 33) C dL_hall_33 nc_1 ?_
        refine aq_next (pc := 34) C hE.1 hst (by decide) S R hw (by decide) (Nat.le_of_ble_eq_true rfl) dL_hall_34 ⟨by show _ ≤ 800; omega, by show _ ≤ 4800; omega⟩ (fun I P R => ?_)
        refine jx_top C (y := .int (nI 3)) (congrArg Value.int e1) ?_
        refine jx_istore (pc := 37) C dL_hall_37 (jset_8 jc_i) (by decide) ?_
        refine jx_iload_n (pc := 39) C dL_hall_39 rfl ?_
        refine jx_aload_n (pc := 40) C dL_hall_40 rfl ?_
        refine jx_iload (pc := 41) C dL_hall_41 rfl ?_
        refine jx_iconst (pc := 43) C dL_hall_43 nc_5 ?_
        refine aq_weaver (pc := 44) C hE.1 hst (by decide) S R hw (by decide) (Nat.le_of_ble_eq_true rfl) dL_hall_44 ⟨by show _ ≤ 800; omega, by show _ ≤ 4800; omega⟩ (fun I P R => ?_)
        refine jx_iadd (pc := 47) C dL_hall_47 ?_
        refine jx_istore_n (pc := 48) C dL_hall_48 (jset_1 jc_r) (by decide) ?_
        refine jx_iload_n (pc := 49) C dL_hall_49 rfl ?_
        refine jx_aload_n (pc := 50) C dL_hall_50 rfl ?_
        refine jx_iload (pc := 51) C dL_hall_51 rfl ?_
        refine jx_bipush (pc := 53) C dL_hall_53 nb_6 ?_
        refine aq_weaver (pc := 55) C hE.1 hst (by decide) S R hw (by decide) (Nat.le_of_ble_eq_true rfl) dL_hall_55 ⟨by show _ ≤ 800; omega, by show _ ≤ 4800; omega⟩ (fun I P R => ?_)
        refine jx_iadd (pc := 58) C dL_hall_58 ?_
        refine jx_istore_n (pc := 59) C dL_hall_59 (jset_2 jc_i) (by decide) ?_
        refine jx_iload_n (pc := 60) C dL_hall_60 rfl ?_
        refine jx_aload_n (pc := 61) C dL_hall_61 rfl ?_
        refine jx_iload (pc := 62) C dL_hall_62 rfl ?_
        refine jx_iconst (pc := 64) C dL_hall_64 nc_3 ?_
        refine aq_weaver (pc := 65) C hE.1 hst (by decide) S R hw (by decide) (Nat.le_of_ble_eq_true rfl) dL_hall_65 ⟨by show _ ≤ 800; omega, by show _ ≤ 4800; omega⟩ (fun I P R => ?_)
        refine jx_iadd (pc := 68) C dL_hall_68 ?_
        refine jx_istore_n (pc := 69) C dL_hall_69 (jset_3 jc_i) (by decide) ?_
        refine jx_iload (pc := 70) C dL_hall_70 rfl ?_
        refine jx_aload_n (pc := 72) C dL_hall_72 rfl ?_
        refine jx_iload (pc := 73) C dL_hall_73 rfl ?_
        refine jx_iconst (pc := 75) C dL_hall_75 nc_4 ?_
        refine aq_weaver (pc := 76) C hE.1 hst (by decide) S R hw (by decide) (Nat.le_of_ble_eq_true rfl) dL_hall_76 ⟨by show _ ≤ 800; omega, by show _ ≤ 4800; omega⟩ (fun I P R => ?_)
        refine jx_iadd (pc := 79) C dL_hall_79 ?_
        refine jx_istore (pc := 80) C dL_hall_80 (jset_4 jc_i) (by decide) ?_
        refine jx_iload (pc := 82) C dL_hall_82 rfl ?_
        refine jx_aload_n (pc := 84) C dL_hall_84 rfl ?_
        refine jx_iload (pc := 85) C dL_hall_85 rfl ?_
        refine jx_iconst (pc := 87) C dL_hall_87 nc_0 ?_
        refine aq_weaver (pc := 88) C hE.1 hst (by decide) S R hw (by decide) (Nat.le_of_ble_eq_true rfl) dL_hall_88 ⟨by show _ ≤ 800; omega, by show _ ≤ 4800; omega⟩ (fun I P R => ?_)
        refine jx_top C (y := .int (nI v)) (congrArg Value.int e0) ?_
        refine jx_if_le (pc := 91) C (tgt := 98) dL_hall_91 (by decide) (fun c91 => (by rw [nI_le0 (by omega)] at c91; exfalso; omega)) (fun c91 => ?_)
        rw [nI_le0 (by omega)] at c91
        refine jx_iconst (pc := 94) C dL_hall_94 nc_1 ?_
        refine jx_goto (pc := 95) C (tgt := 99) dL_hall_95 (by decide) ?_
        refine jx_iadd (pc := 99) C dL_hall_99 ?_
        refine jx_top C (y := .int (sloomsN f (w + 1))) (congrArg Value.int el) ?_
        refine jx_istore (pc := 100) C dL_hall_100 (jset_5 jc_i) (by decide) ?_
        refine jx_aload_n (pc := 102) C dL_hall_102 rfl ?_
        refine jx_iload (pc := 103) C dL_hall_103 rfl ?_
        refine jx_bipush (pc := 105) C dL_hall_105 nb_6 ?_
        refine aq_weaver (pc := 107) C hE.1 hst (by decide) S R hw (by decide) (Nat.le_of_ble_eq_true rfl) dL_hall_107 ⟨by show _ ≤ 800; omega, by show _ ≤ 4800; omega⟩ (fun I P R => ?_)
        refine jx_aload_n (pc := 110) C dL_hall_110 rfl ?_
        refine jx_iload (pc := 111) C dL_hall_111 rfl ?_
        refine jx_iconst (pc := 113) C dL_hall_113 nc_5 ?_
        refine aq_weaver (pc := 114) C hE.1 hst (by decide) S R hw (by decide) (Nat.le_of_ble_eq_true rfl) dL_hall_114 ⟨by show _ ≤ 800; omega, by show _ ≤ 4800; omega⟩ (fun I P R => ?_)
        refine jx_icmp_gt (pc := 117) C (tgt := 257) dL_hall_117 (by decide) (fun c117 => (by exfalso; exact absurd c117 (i32_nlt.mpr h65))) (fun c117 => ?_)
        refine jx_aload_n (pc := 120) C dL_hall_120 rfl ?_
        refine jx_iload (pc := 121) C dL_hall_121 rfl ?_
        refine jx_iconst (pc := 123) C dL_hall_123 nc_3 ?_
        refine aq_weaver (pc := 124) C hE.1 hst (by decide) S R hw (by decide) (Nat.le_of_ble_eq_true rfl) dL_hall_124 ⟨by show _ ≤ 800; omega, by show _ ≤ 4800; omega⟩ (fun I P R => ?_)
        refine jx_if_lt (pc := 127) C (tgt := 257) dL_hall_127 (by decide) (fun c127 => (by exfalso; exact absurd c127 (i32_nlt.mpr h3))) (fun c127 => ?_)
        refine jx_aload_n (pc := 130) C dL_hall_130 rfl ?_
        refine jx_iload (pc := 131) C dL_hall_131 rfl ?_
        refine jx_iconst (pc := 133) C dL_hall_133 nc_3 ?_
        refine aq_weaver (pc := 134) C hE.1 hst (by decide) S R hw (by decide) (Nat.le_of_ble_eq_true rfl) dL_hall_134 ⟨by show _ ≤ 800; omega, by show _ ≤ 4800; omega⟩ (fun I P R => ?_)
        refine jx_aload_n (pc := 137) C dL_hall_137 rfl ?_
        refine jx_iload (pc := 138) C dL_hall_138 rfl ?_
        refine jx_bipush (pc := 140) C dL_hall_140 nb_7 ?_
        refine aq_weaver (pc := 142) C hE.1 hst (by decide) S R hw (by decide) (Nat.le_of_ble_eq_true rfl) dL_hall_142 ⟨by show _ ≤ 800; omega, by show _ ≤ 4800; omega⟩ (fun I P R => ?_)
        refine jx_icmp_gt (pc := 145) C (tgt := 257) dL_hall_145 (by decide) (fun c145 => (by exfalso; exact absurd c145 (i32_nlt.mpr h37))) (fun c145 => ?_)
        refine jx_aload_n (pc := 148) C dL_hall_148 rfl ?_
        refine jx_iload (pc := 149) C dL_hall_149 rfl ?_
        refine jx_iconst (pc := 151) C dL_hall_151 nc_4 ?_
        refine aq_weaver (pc := 152) C hE.1 hst (by decide) S R hw (by decide) (Nat.le_of_ble_eq_true rfl) dL_hall_152 ⟨by show _ ≤ 800; omega, by show _ ≤ 4800; omega⟩ (fun I P R => ?_)
        refine jx_if_lt (pc := 155) C (tgt := 257) dL_hall_155 (by decide) (fun c155 => (by exfalso; exact absurd c155 (i32_nlt.mpr h4))) (fun c155 => ?_)
        refine jx_aload_n (pc := 158) C dL_hall_158 rfl ?_
        refine jx_iload (pc := 159) C dL_hall_159 rfl ?_
        refine jx_iconst (pc := 161) C dL_hall_161 nc_0 ?_
        refine aq_weaver (pc := 162) C hE.1 hst (by decide) S R hw (by decide) (Nat.le_of_ble_eq_true rfl) dL_hall_162 ⟨by show _ ≤ 800; omega, by show _ ≤ 4800; omega⟩ (fun I P R => ?_)
        refine jx_top C (y := .int (nI v)) (congrArg Value.int e0) ?_
        refine jx_if_ne (pc := 165) C (tgt := 172) dL_hall_165 (by decide) (fun c165 => ?_) (fun c165 => (by rw [nI_eq0 (by omega)] at c165; exfalso; omega))
        rw [nI_eq0 (by omega)] at c165
        refine jx_iconst (pc := 172) C dL_hall_172 nc_0 ?_
        refine jx_iload (pc := 173) C dL_hall_173 rfl ?_
        refine jx_iconst (pc := 175) C dL_hall_175 nc_1 ?_
        refine jx_icmp_ne (pc := 176) C (tgt := 183) dL_hall_176 (by decide) (fun c176 => ?_) (fun c176 => (by exfalso; revert c176; decide))
        refine jx_iconst (pc := 183) C dL_hall_183 nc_0 ?_
        refine jx_icmp_ne (pc := 184) C (tgt := 257) dL_hall_184 (by decide) (fun c184 => (by exfalso; revert c184; decide)) (fun c184 => ?_)
        refine jx_iload (pc := 187) C dL_hall_187 rfl ?_
        refine jx_iconst (pc := 189) C dL_hall_189 nc_1 ?_
        refine jx_icmp_eq (pc := 190) C (tgt := 199) dL_hall_190 (by decide) (fun c190 => (by exfalso; revert c190; decide)) (fun c190 => ?_)
        refine jx_iload (pc := 193) C dL_hall_193 rfl ?_
        refine jx_iconst (pc := 195) C dL_hall_195 nc_2 ?_
        refine jx_icmp_ne (pc := 196) C (tgt := 203) dL_hall_196 (by decide) (fun c196 => ?_) (fun c196 => (by exfalso; revert c196; decide))
        refine jx_iconst (pc := 203) C dL_hall_203 nc_0 ?_
        refine jx_aload_n (pc := 204) C dL_hall_204 rfl ?_
        refine jx_iload (pc := 205) C dL_hall_205 rfl ?_
        refine jx_iconst (pc := 207) C dL_hall_207 nc_0 ?_
        refine aq_next (pc := 208) C hE.1 hst (by decide) S R hw (by decide) (Nat.le_of_ble_eq_true rfl) dL_hall_208 ⟨by show _ ≤ 800; omega, by show _ ≤ 4800; omega⟩ (fun I P R => ?_)
        refine jx_top C (y := .int (nI nu)) (congrArg Value.int e2) ?_
        refine jx_iconst (pc := 211) C dL_hall_211 nc_m1 ?_
        refine jx_icmp_ne (pc := 212) C (tgt := 219) dL_hall_212 (by decide) (fun c212 => ?_) (fun c212 => (by exfalso; exact (nI_m1 hnu).mp c212))
        refine jx_iconst (pc := 219) C dL_hall_219 nc_0 ?_
        refine jx_icmp_ne (pc := 220) C (tgt := 257) dL_hall_220 (by decide) (fun c220 => (by exfalso; revert c220; decide)) (fun c220 => ?_)
        refine jx_aload_n (pc := 223) C dL_hall_223 rfl ?_
        refine jx_iload (pc := 224) C dL_hall_224 rfl ?_
        refine jx_iconst (pc := 226) C dL_hall_226 nc_0 ?_
        refine aq_weaver (pc := 227) C hE.1 hst (by decide) S R hw (by decide) (Nat.le_of_ble_eq_true rfl) dL_hall_227 ⟨by show _ ≤ 800; omega, by show _ ≤ 4800; omega⟩ (fun I P R => ?_)
        refine jx_top C (y := .int (nI v)) (congrArg Value.int e0) ?_
        refine jx_if_gt (pc := 230) C (tgt := 253) dL_hall_230 (by decide) (fun c230 => ?_) (fun c230 => (by rw [nI_gt0 (by omega)] at c230; exfalso; omega))
        rw [nI_gt0 (by omega)] at c230
        refine jx_iconst (pc := 253) C dL_hall_253 nc_1 ?_
        refine jx_goto (pc := 254) C (tgt := 258) dL_hall_254 (by decide) ?_
        refine jx_istore (pc := 258) C dL_hall_258 (jset_6 jc_i) (by decide) ?_
        refine jx_iload (pc := 260) C dL_hall_260 rfl ?_
        refine jx_if_eq (pc := 262) C (tgt := 307) dL_hall_262 (by decide) (fun c262 => (by exfalso; revert c262; decide)) (fun c262 => ?_)
        refine jx_iload (pc := 265) C dL_hall_265 rfl ?_
        refine jx_iconst (pc := 267) C dL_hall_267 nc_1 ?_
        refine jx_icmp_eq (pc := 268) C (tgt := 303) dL_hall_268 (by decide) (fun c268 => (by exfalso; revert c268; decide)) (fun c268 => ?_)
        refine jx_iload (pc := 271) C dL_hall_271 rfl ?_
        refine jx_iconst (pc := 273) C dL_hall_273 nc_2 ?_
        refine jx_icmp_eq (pc := 274) C (tgt := 303) dL_hall_274 (by decide) (fun c274 => (by exfalso; revert c274; decide)) (fun c274 => ?_)
        refine jx_aload_n (pc := 277) C dL_hall_277 rfl ?_
        refine jx_aload_n (pc := 278) C dL_hall_278 rfl ?_
        refine jx_aload_n (pc := 279) C dL_hall_279 rfl ?_
        refine jx_iload (pc := 280) C dL_hall_280 rfl ?_
        refine jx_iconst (pc := 282) C dL_hall_282 nc_0 ?_
        refine aq_next (pc := 283) C hE.1 hst (by decide) S R hw (by decide) (Nat.le_of_ble_eq_true rfl) dL_hall_283 ⟨by show _ ≤ 800; omega, by show _ ≤ 4800; omega⟩ (fun I P R => ?_)
        refine jx_top C (y := .int (f (90 + 12 * o + 0))) (congrArg Value.int (e2.trans e4.symm)) ?_
        refine jx_callG (pc := 286) C hE (go_L_48 C (Nat.le_of_ble_eq_true rfl) dL_hall_286) (t_L_placeOf hst S a hI ho R) (by decide) (by decide) ⟨by show _ ≤ 800; omega, by show _ ≤ 4800; omega⟩ (fun v9 I P L9 q9 => ?_)
        obtain ⟨rfl, R, rfl⟩ := q9
        refine jx_iconst (pc := 289) C dL_hall_289 nc_2 ?_
        refine aq_orderOf (pc := 290) C hE.1 hst (by decide) S R hI.1.1 hm ho (by decide) (Nat.le_of_ble_eq_true rfl) dL_hall_290 ⟨by show _ ≤ 800; omega, by show _ ≤ 4800; omega⟩ (fun I P R => ?_)
        refine jx_top C (y := .int (f (90 + 12 * o + 2))) (rfl) ?_
        refine jx_aload_n (pc := 293) C dL_hall_293 rfl ?_
        refine jx_iload (pc := 294) C dL_hall_294 rfl ?_
        refine jx_iconst (pc := 296) C dL_hall_296 nc_0 ?_
        refine aq_weaver (pc := 297) C hE.1 hst (by decide) S R hw (by decide) (Nat.le_of_ble_eq_true rfl) dL_hall_297 ⟨by show _ ≤ 800; omega, by show _ ≤ 4800; omega⟩ (fun I P R => ?_)
        refine jx_icmp_gt (pc := 300) C (tgt := 307) dL_hall_300 (by decide) (fun c300 => (by exfalso; exact absurd c300 (i32_nlt.mpr hfit))) (fun c300 => ?_)
        refine jx_iconst (pc := 303) C dL_hall_303 nc_1 ?_
        refine jx_goto (pc := 304) C (tgt := 308) dL_hall_304 (by decide) ?_
        refine jx_istore (pc := 308) C dL_hall_308 (jset_6 jc_i) (by decide) ?_
        refine jx_iincN (pc := 310) C dL_hall_310 rfl (jset_7 jc_i) (by decide) ?_
        refine jx_goto (pc := 313) C (tgt := 18) dL_hall_313 (by decide) ?_
        exact ih (w + 1) _ _ _ _ _ (by omega) R (by omega) (by omega)
set_option maxHeartbeats 4000000 in
theorem lp_hall3 {p : Program} {l : Launch} {e : Env} {s : State} {m : MethodId} {args : Array Value} {below : List Frame} {meth : Method} {c : Code} {D : va_G} {cA : Nat → ClassId} {N0 : Nat} {Sh : jS} {L : jL} {Qf : State → Prop} (C : jC p (jRm 9 800 4800) s m args meth c D cA N0 cL_hall 12 RL 9) {b Ls : Nat} {xs : Nat → Int32} (hE : jEn b Ls xs N0 s) (hst : l.stackTraces = false) {y : Nat} (S : cS Sh y) {f : sF} {q : Nat} {pst : Nat → sF} {t : Nat} {ch : Nat → Nat} {n0 : Nat} (a : aT n0 f) (h36 : n0 ≤ 36) (hI : sI f) {o : Nat} (ho : o < smany f) {a1 a2 a3 a4 a5 : Int32} {k0 n1 : Nat} (hk0 : k0 ≤ 760) (hn1 : n1 ≤ 4560) (hend : ∀ (I : jI) (P : jP) (k n : Nat), cR I P y f q pst t ch → k ≤ k0 + 30 → n ≤ n1 + 180 → jJ p l e (jRm 9 800 4800) s m args below meth c D cA N0 12 Qf (fun _ => True) Sh I P L k n 510 [some (.ref y), some (.int a1), some (.int a2), some (.int a3), some (.int a4), some (.int a5), some (.int (nI 1)), some (.int (nI o)), some (.int (ssum (fun w => f (90 + 12 * o + (6 + w))) 6)), some (.int (swideN f o 6)), some (.int (ssum (fun w => sdueN f o w) 6)), some (.int (nI 6))] []) : ∀ (d w : Nat) (I : jI) (P : jP) (k n : Nat), w + d = 6 → cR I P y f q pst t ch → k ≤ k0 + 5 * w → n ≤ n1 + 30 * w → jJ p l e (jRm 9 800 4800) s m args below meth c D cA N0 12 Qf (fun _ => True) Sh I P L k n 439 [some (.ref y), some (.int a1), some (.int a2), some (.int a3), some (.int a4), some (.int a5), some (.int (nI 1)), some (.int (nI o)), some (.int (ssum (fun w => f (90 + 12 * o + (6 + w))) w)), some (.int (swideN f o w)), some (.int (ssum (fun w => sdueN f o w) w)), some (.int (nI w))] [] := by
  have hm := hI.m
  intro d
  induction d with
  | zero =>
    intro w I P k n hid R hk hn
    obtain rfl : w = 6 := hid
    refine jx_iload (pc := 439) C dL_hall_439 rfl ?_
    refine jx_bipush (pc := 441) C dL_hall_441 nb_6 ?_
    refine jx_icmp_ge (pc := 443) C (tgt := 510) dL_hall_443 (by decide) (fun c443 => ?_) (fun c443 => (by rw [nI_leI (by omega) (by omega)] at c443; exfalso; omega))
    rw [nI_leI (by omega) (by omega)] at c443
    exact hend _ _ _ _ R (by omega) (by omega)
  | succ d ih =>
    intro w I P k n hid R hk hn
    have hw : w < 6 := by omega
    refine jx_iload (pc := 439) C dL_hall_439 rfl ?_
    refine jx_bipush (pc := 441) C dL_hall_441 nb_6 ?_
    refine jx_icmp_ge (pc := 443) C (tgt := 510) dL_hall_443 (by decide) (fun c443 => (by rw [nI_leI (by omega) (by omega)] at c443; exfalso; omega)) (fun c443 => ?_)
    rw [nI_leI (by omega) (by omega)] at c443
    refine jx_iload (pc := 446) C dL_hall_446 rfl ?_
    refine jx_aload_n (pc := 448) C dL_hall_448 rfl ?_
    refine jx_iload (pc := 449) C dL_hall_449 rfl ?_
    refine jx_iload (pc := 451) C dL_hall_451 rfl ?_
    refine aq_wovenBy (pc := 453) C hE.1 hst (by decide) S R hI.1.1 hm ho hw (Nat.le_of_ble_eq_true rfl) dL_hall_453 ⟨by show _ ≤ 800; omega, by show _ ≤ 4800; omega⟩ (fun I P R => ?_)
    refine jx_iadd (pc := 456) C dL_hall_456 ?_
    refine jx_istore (pc := 457) C dL_hall_457 (jset_8 jc_i) (by decide) ?_
    refine jx_iload (pc := 459) C dL_hall_459 rfl ?_
    refine jx_aload_n (pc := 461) C dL_hall_461 rfl ?_
    refine jx_iload (pc := 462) C dL_hall_462 rfl ?_
    refine jx_iconst (pc := 464) C dL_hall_464 nc_0 ?_
    refine aq_weaver (pc := 465) C hE.1 hst (by decide) S R hw (by decide) (Nat.le_of_ble_eq_true rfl) dL_hall_465 ⟨by show _ ≤ 800; omega, by show _ ≤ 4800; omega⟩ (fun I P R => ?_)
    refine jx_aload_n (pc := 468) C dL_hall_468 rfl ?_
    refine jx_iload (pc := 469) C dL_hall_469 rfl ?_
    refine jx_iconst (pc := 471) C dL_hall_471 nc_2 ?_
    refine aq_orderOf (pc := 472) C hE.1 hst (by decide) S R hI.1.1 hm ho (by decide) (Nat.le_of_ble_eq_true rfl) dL_hall_472 ⟨by show _ ≤ 800; omega, by show _ ≤ 4800; omega⟩ (fun I P R => ?_)
    refine jx_top C (y := .int (f (90 + 12 * o + 2))) (rfl) ?_
    refine jx_icmp_lt (pc := 475) C (tgt := 482) dL_hall_475 (by decide) (fun c475 => ?_) (fun c475 => ?_)
    · refine jx_iconst (pc := 482) C dL_hall_482 nc_0 ?_
      refine jx_top C (y := .int (if f (18 + 12 * w + 0) < f (90 + 12 * o + 2) then nI 0 else nI 1)) (congrArg Value.int (if_pos c475).symm) ?_
      refine jx_iadd (pc := 483) C dL_hall_483 ?_
      refine jx_istore (pc := 484) C dL_hall_484 (jset_9 jc_i) (by decide) ?_
      refine jx_iload (pc := 486) C dL_hall_486 rfl ?_
      refine jx_aload_n (pc := 488) C dL_hall_488 rfl ?_
      refine jx_aload_n (pc := 489) C dL_hall_489 rfl ?_
      refine jx_iload (pc := 490) C dL_hall_490 rfl ?_
      refine jx_iconst (pc := 492) C dL_hall_492 nc_0 ?_
      refine aq_orderOf (pc := 493) C hE.1 hst (by decide) S R hI.1.1 hm ho (by decide) (Nat.le_of_ble_eq_true rfl) dL_hall_493 ⟨by show _ ≤ 800; omega, by show _ ≤ 4800; omega⟩ (fun I P R => ?_)
      refine jx_top C (y := .int (f (90 + 12 * o + 0))) (rfl) ?_
      refine jx_iload (pc := 496) C dL_hall_496 rfl ?_
      refine aq_dueNow (pc := 498) C hE.1 hst (by decide) S R (fx_place a ho) hw (Nat.le_of_ble_eq_true rfl) dL_hall_498 ⟨by show _ ≤ 800; omega, by show _ ≤ 4800; omega⟩ (fun I P R => ?_)
      refine jx_iadd (pc := 501) C dL_hall_501 ?_
      refine jx_istore (pc := 502) C dL_hall_502 (jset_10 jc_i) (by decide) ?_
      refine jx_iincN (pc := 504) C dL_hall_504 rfl (jset_11 jc_i) (by decide) ?_
      refine jx_goto (pc := 507) C (tgt := 439) dL_hall_507 (by decide) ?_
      exact ih (w + 1) _ _ _ _ (by omega) R (by omega) (by omega)
    · refine jx_iconst (pc := 478) C dL_hall_478 nc_1 ?_
      refine jx_goto (pc := 479) C (tgt := 483) dL_hall_479 (by decide) ?_
      refine jx_top C (y := .int (if f (18 + 12 * w + 0) < f (90 + 12 * o + 2) then nI 0 else nI 1)) (congrArg Value.int (if_neg c475).symm) ?_
      refine jx_iadd (pc := 483) C dL_hall_483 ?_
      refine jx_istore (pc := 484) C dL_hall_484 (jset_9 jc_i) (by decide) ?_
      refine jx_iload (pc := 486) C dL_hall_486 rfl ?_
      refine jx_aload_n (pc := 488) C dL_hall_488 rfl ?_
      refine jx_aload_n (pc := 489) C dL_hall_489 rfl ?_
      refine jx_iload (pc := 490) C dL_hall_490 rfl ?_
      refine jx_iconst (pc := 492) C dL_hall_492 nc_0 ?_
      refine aq_orderOf (pc := 493) C hE.1 hst (by decide) S R hI.1.1 hm ho (by decide) (Nat.le_of_ble_eq_true rfl) dL_hall_493 ⟨by show _ ≤ 800; omega, by show _ ≤ 4800; omega⟩ (fun I P R => ?_)
      refine jx_top C (y := .int (f (90 + 12 * o + 0))) (rfl) ?_
      refine jx_iload (pc := 496) C dL_hall_496 rfl ?_
      refine aq_dueNow (pc := 498) C hE.1 hst (by decide) S R (fx_place a ho) hw (Nat.le_of_ble_eq_true rfl) dL_hall_498 ⟨by show _ ≤ 800; omega, by show _ ≤ 4800; omega⟩ (fun I P R => ?_)
      refine jx_iadd (pc := 501) C dL_hall_501 ?_
      refine jx_istore (pc := 502) C dL_hall_502 (jset_10 jc_i) (by decide) ?_
      refine jx_iincN (pc := 504) C dL_hall_504 rfl (jset_11 jc_i) (by decide) ?_
      refine jx_goto (pc := 507) C (tgt := 439) dL_hall_507 (by decide) ?_
      exact ih (w + 1) _ _ _ _ (by omega) R (by omega) (by omega)
set_option maxHeartbeats 8000000 in
theorem lp_hall2 {p : Program} {l : Launch} {e : Env} {s : State} {m : MethodId} {args : Array Value} {below : List Frame} {meth : Method} {c : Code} {D : va_G} {cA : Nat → ClassId} {N0 : Nat} {Sh : jS} {L : jL} (C : jC p (jRm 9 800 4800) s m args meth c D cA N0 cL_hall 12 RL 9) {b Ls : Nat} {xs : Nat → Int32} (hE : jEn b Ls xs N0 s) (hst : l.stackTraces = false) (hr : meth.sig.returnType = (some .boolean)) {y : Nat} (S : cS Sh y) {f : sF} {q : Nat} {pst : Nat → sF} {t : Nat} {ch : Nat → Nat} {n0 : Nat} (a : aT n0 f) (h36 : n0 ≤ 36) (hI : sI f) {a1 a2 a3 a4 a5 : Int32} : ∀ (d o : Nat) (l8 l9 l10 l11 : Option Value) (I : jI) (P : jP) (k n : Nat), o + d = smany f → cR I P y f q pst t ch → k ≤ 290 + 45 * o → n ≤ 1740 + 270 * o → jJ p l e (jRm 9 800 4800) s m args below meth c D cA N0 12 (MQ below (jQn D cA N0 Sh (fun v I' P' L' => v = some (.int (nI 1)) ∧ cR I' P' y f q pst t ch ∧ L' = L)) args s 800 4800 (fun q => N0 ≤ q)) (fun _ => True) Sh I P L k n 412 [some (.ref y), some (.int a1), some (.int a2), some (.int a3), some (.int a4), some (.int a5), some (.int (nI 1)), some (.int (nI o)), l8, l9, l10, l11] [] := by
  have hm := hI.m
  intro d
  induction d with
  | zero =>
    intro o l8 l9 l10 l11 I P k n hid R hk hn
    obtain rfl : o = smany f := hid
    refine jx_iload (pc := 412) C dL_hall_412 rfl ?_
    refine jx_aload_n (pc := 414) C dL_hall_414 rfl ?_
    refine jx_iconst (pc := 415) C dL_hall_415 nc_1 ?_
    refine aq_count (pc := 416) C hE.1 hst (by decide) S R (by decide) (Nat.le_of_ble_eq_true rfl) dL_hall_416 ⟨by show _ ≤ 800; omega, by show _ ≤ 4800; omega⟩ (fun I P R => ?_)
    refine jx_top C (y := .int (nI (smany f))) (congrArg Value.int hI.1.1) ?_
    refine jx_icmp_ge (pc := 419) C (tgt := 690) dL_hall_419 (by decide) (fun c419 => ?_) (fun c419 => (by rw [nI_leI (by omega) (by omega)] at c419; exfalso; omega))
    rw [nI_leI (by omega) (by omega)] at c419
    refine jx_iload (pc := 690) C dL_hall_690 rfl ?_
    refine jx_if_eq (pc := 692) C (tgt := 713) dL_hall_692 (by decide) (fun c692 => (by exfalso; revert c692; decide)) (fun c692 => ?_)
    refine jx_aload_n (pc := 695) C dL_hall_695 rfl ?_
    refine jx_aload_n (pc := 696) C dL_hall_696 rfl ?_
    refine jx_iconst (pc := 697) C dL_hall_697 nc_1 ?_
    refine aq_count (pc := 698) C hE.1 hst (by decide) S R (by decide) (Nat.le_of_ble_eq_true rfl) dL_hall_698 ⟨by show _ ≤ 800; omega, by show _ ≤ 4800; omega⟩ (fun I P R => ?_)
    refine jx_top C (y := .int (nI (smany f))) (congrArg Value.int hI.1.1) ?_
    refine jx_iconst (pc := 701) C dL_hall_701 nc_0 ?_
    refine aq_noOrder (pc := 702) C hE.1 hst (by decide) S R hI.1.1 hm (by decide) (Nat.le_of_ble_eq_true rfl) dL_hall_702 ⟨by show _ ≤ 800; omega, by show _ ≤ 4800; omega⟩ (fun I P R => ?_)
    refine jx_iconst (pc := 705) C dL_hall_705 nc_m1 ?_
    refine jx_icmp_ne (pc := 706) C (tgt := 713) dL_hall_706 (by decide) (fun c706 => (by exfalso; revert c706; decide)) (fun c706 => ?_)
    refine jx_iconst (pc := 709) C dL_hall_709 nc_1 ?_
    refine jx_goto (pc := 710) C (tgt := 714) dL_hall_710 (by decide) ?_
    exact jx_roomy (show _ ≤ 800 by omega) (show _ ≤ 4800 by omega) (jn_zret (pc := 714) C hr (rfl) (⟨rfl, R, rfl⟩) dL_hall_714)
  | succ d ih =>
    intro o l8 l9 l10 l11 I P k n hid R hk hn
    have ho : o < smany f := by omega
    have hd := fx_due a hI ho
    have hlt : ¬ f (90 + 12 * o + 3) ≤ sgood f o := by
      obtain ⟨g, len, pr, e1, e2, e3, h1, h2, h3⟩ := fx_good hI ho
      rw [e1, e2, nI_leI (by omega) (by omega)]
      omega
    refine jx_iload (pc := 412) C dL_hall_412 rfl ?_
    refine jx_aload_n (pc := 414) C dL_hall_414 rfl ?_
    refine jx_iconst (pc := 415) C dL_hall_415 nc_1 ?_
    refine aq_count (pc := 416) C hE.1 hst (by decide) S R (by decide) (Nat.le_of_ble_eq_true rfl) dL_hall_416 ⟨by show _ ≤ 800; omega, by show _ ≤ 4800; omega⟩ (fun I P R => ?_)
    refine jx_top C (y := .int (nI (smany f))) (congrArg Value.int hI.1.1) ?_
    refine jx_icmp_ge (pc := 419) C (tgt := 690) dL_hall_419 (by decide) (fun c419 => (by rw [nI_leI (by omega) (by omega)] at c419; exfalso; omega)) (fun c419 => ?_)
    rw [nI_leI (by omega) (by omega)] at c419
    refine jx_iload (pc := 422) C dL_hall_422 rfl ?_
    refine jx_if_eq (pc := 424) C (tgt := 690) dL_hall_424 (by decide) (fun c424 => (by exfalso; revert c424; decide)) (fun c424 => ?_)
    refine jx_iconst (pc := 427) C dL_hall_427 nc_0 ?_
    refine jx_istore (pc := 428) C dL_hall_428 (jset_8 jc_i) (by decide) ?_
    refine jx_iconst (pc := 430) C dL_hall_430 nc_0 ?_
    refine jx_istore (pc := 431) C dL_hall_431 (jset_9 jc_i) (by decide) ?_
    refine jx_iconst (pc := 433) C dL_hall_433 nc_0 ?_
    refine jx_istore (pc := 434) C dL_hall_434 (jset_10 jc_i) (by decide) ?_
    refine jx_iconst (pc := 436) C dL_hall_436 nc_0 ?_
    refine jx_istore (pc := 437) C dL_hall_437 (jset_11 jc_i) (by decide) ?_
    refine lp_hall3 C hE hst S a h36 hI ho (k0 := k + 1) (n1 := n + 6) (by omega) (by omega) (fun I P k n R hk hn => ?_) 6 0 _ _ _ _ (Nat.zero_add _) R (by omega) (by omega)
    refine jx_iload (pc := 510) C dL_hall_510 rfl ?_
    refine jx_aload_n (pc := 512) C dL_hall_512 rfl ?_
    refine jx_iload (pc := 513) C dL_hall_513 rfl ?_
    refine jx_bipush (pc := 515) C dL_hall_515 nb_6 ?_
    refine aq_orderOf (pc := 517) C hE.1 hst (by decide) S R hI.1.1 hm ho (by decide) (Nat.le_of_ble_eq_true rfl) dL_hall_517 ⟨by show _ ≤ 800; omega, by show _ ≤ 4800; omega⟩ (fun I P R => ?_)
    refine jx_top C (y := .int (sgood f o)) (rfl) ?_
    refine jx_icmp_ne (pc := 520) C (tgt := 607) dL_hall_520 (by decide) (fun c520 => (by exfalso; exact c520 rfl)) (fun c520 => ?_)
    refine jx_iload (pc := 523) C dL_hall_523 rfl ?_
    refine jx_aload_n (pc := 525) C dL_hall_525 rfl ?_
    refine jx_iload (pc := 526) C dL_hall_526 rfl ?_
    refine jx_iconst (pc := 528) C dL_hall_528 nc_3 ?_
    refine aq_orderOf (pc := 529) C hE.1 hst (by decide) S R hI.1.1 hm ho (by decide) (Nat.le_of_ble_eq_true rfl) dL_hall_529 ⟨by show _ ≤ 800; omega, by show _ ≤ 4800; omega⟩ (fun I P R => ?_)
    refine jx_top C (y := .int (f (90 + 12 * o + 3))) (rfl) ?_
    refine jx_icmp_ge (pc := 532) C (tgt := 607) dL_hall_532 (by decide) (fun c532 => (by exfalso; exact hlt c532)) (fun c532 => ?_)
    refine jx_aload_n (pc := 535) C dL_hall_535 rfl ?_
    refine jx_iload (pc := 536) C dL_hall_536 rfl ?_
    refine jx_bipush (pc := 538) C dL_hall_538 nb_7 ?_
    refine aq_orderOf (pc := 540) C hE.1 hst (by decide) S R hI.1.1 hm ho (by decide) (Nat.le_of_ble_eq_true rfl) dL_hall_540 ⟨by show _ ≤ 800; omega, by show _ ≤ 4800; omega⟩ (fun I P R => ?_)
    refine jx_top C (y := .int ((f (90 + 12 * o + 3) - sgood f o) * sgrams f o)) (rfl) ?_
    refine jx_aload_n (pc := 543) C dL_hall_543 rfl ?_
    refine jx_iload (pc := 544) C dL_hall_544 rfl ?_
    refine jx_iconst (pc := 546) C dL_hall_546 nc_3 ?_
    refine aq_orderOf (pc := 547) C hE.1 hst (by decide) S R hI.1.1 hm ho (by decide) (Nat.le_of_ble_eq_true rfl) dL_hall_547 ⟨by show _ ≤ 800; omega, by show _ ≤ 4800; omega⟩ (fun I P R => ?_)
    refine jx_top C (y := .int (f (90 + 12 * o + 3))) (rfl) ?_
    refine jx_iload (pc := 550) C dL_hall_550 rfl ?_
    refine jx_isub (pc := 552) C dL_hall_552 ?_
    refine jx_aload_n (pc := 553) C dL_hall_553 rfl ?_
    refine jx_iload (pc := 554) C dL_hall_554 rfl ?_
    refine jx_iconst (pc := 556) C dL_hall_556 nc_2 ?_
    refine aq_orderOf (pc := 557) C hE.1 hst (by decide) S R hI.1.1 hm ho (by decide) (Nat.le_of_ble_eq_true rfl) dL_hall_557 ⟨by show _ ≤ 800; omega, by show _ ≤ 4800; omega⟩ (fun I P R => ?_)
    refine jx_top C (y := .int (f (90 + 12 * o + 2))) (rfl) ?_
    refine jx_bipush (pc := 560) C dL_hall_560 nb_9 ?_
    refine jx_iadd (pc := 562) C dL_hall_562 ?_
    refine jx_bipush (pc := 563) C dL_hall_563 nb_10 ?_
    refine jx_idiv (pc := 565) C dL_hall_565 (nI_ne0 (by decide) (by decide)) ?_
    refine jx_imul (pc := 566) C dL_hall_566 ?_
    refine jx_icmp_ne (pc := 567) C (tgt := 607) dL_hall_567 (by decide) (fun c567 => (by exfalso; exact c567 rfl)) (fun c567 => ?_)
    refine jx_aload_n (pc := 570) C dL_hall_570 rfl ?_
    refine jx_iload (pc := 571) C dL_hall_571 rfl ?_
    refine jx_bipush (pc := 573) C dL_hall_573 nb_8 ?_
    refine aq_orderOf (pc := 575) C hE.1 hst (by decide) S R hI.1.1 hm ho (by decide) (Nat.le_of_ble_eq_true rfl) dL_hall_575 ⟨by show _ ≤ 800; omega, by show _ ≤ 4800; omega⟩ (fun I P R => ?_)
    refine jx_top C (y := .int (swideN f o 6)) (rfl) ?_
    refine jx_iload (pc := 578) C dL_hall_578 rfl ?_
    refine jx_icmp_ne (pc := 580) C (tgt := 607) dL_hall_580 (by decide) (fun c580 => (by exfalso; exact c580 rfl)) (fun c580 => ?_)
    refine jx_iload (pc := 583) C dL_hall_583 rfl ?_
    refine jx_if_lt (pc := 585) C (tgt := 607) dL_hall_585 (by decide) (fun c585 => (by exfalso; exact absurd c585 (i32_nlt.mpr hd.1))) (fun c585 => ?_)
    refine jx_iload (pc := 588) C dL_hall_588 rfl ?_
    refine jx_iload (pc := 590) C dL_hall_590 rfl ?_
    refine jx_aload_n (pc := 592) C dL_hall_592 rfl ?_
    refine jx_iload (pc := 593) C dL_hall_593 rfl ?_
    refine jx_iconst (pc := 595) C dL_hall_595 nc_4 ?_
    refine aq_orderOf (pc := 596) C hE.1 hst (by decide) S R hI.1.1 hm ho (by decide) (Nat.le_of_ble_eq_true rfl) dL_hall_596 ⟨by show _ ≤ 800; omega, by show _ ≤ 4800; omega⟩ (fun I P R => ?_)
    refine jx_top C (y := .int (f (90 + 12 * o + 4))) (rfl) ?_
    refine jx_imul (pc := 599) C dL_hall_599 ?_
    refine jx_icmp_gt (pc := 600) C (tgt := 607) dL_hall_600 (by decide) (fun c600 => (by exfalso; exact absurd c600 (i32_nlt.mpr hd.2))) (fun c600 => ?_)
    refine jx_iconst (pc := 603) C dL_hall_603 nc_1 ?_
    refine jx_goto (pc := 604) C (tgt := 608) dL_hall_604 (by decide) ?_
    refine jx_istore (pc := 608) C dL_hall_608 (jset_6 jc_i) (by decide) ?_
    refine jx_iload (pc := 610) C dL_hall_610 rfl ?_
    refine jx_if_eq (pc := 612) C (tgt := 681) dL_hall_612 (by decide) (fun c612 => (by exfalso; revert c612; decide)) (fun c612 => ?_)
    refine jx_iload (pc := 615) C dL_hall_615 rfl ?_
    refine jx_if_eq (pc := 617) C (tgt := 677) dL_hall_617 (by decide) (fun c617 => ?_) (fun c617 => ?_)
    · rw [nI_eq0 (by omega)] at c617
      refine jx_iconst (pc := 677) C dL_hall_677 nc_1 ?_
      refine jx_goto (pc := 678) C (tgt := 682) dL_hall_678 (by decide) ?_
      refine jx_istore (pc := 682) C dL_hall_682 (jset_6 jc_i) (by decide) ?_
      refine jx_iincN (pc := 684) C dL_hall_684 rfl (jset_7 jc_i) (by decide) ?_
      refine jx_goto (pc := 687) C (tgt := 412) dL_hall_687 (by decide) ?_
      exact ih (o + 1) _ _ _ _ _ _ _ _ (by omega) R (by omega) (by omega)
    · rw [nI_eq0 (by omega)] at c617
      refine jx_aload_n (pc := 620) C dL_hall_620 rfl ?_
      refine jx_iload (pc := 621) C dL_hall_621 rfl ?_
      refine jx_iconst (pc := 623) C dL_hall_623 nc_1 ?_
      refine jx_isubN (pc := 624) C (by omega) dL_hall_624 ?_
      refine jx_iconst (pc := 625) C dL_hall_625 nc_5 ?_
      refine aq_orderOf (pc := 626) C hE.1 hst (by decide) S R hI.1.1 hm (show o - 1 < smany f by omega) (by decide) (Nat.le_of_ble_eq_true rfl) dL_hall_626 ⟨by show _ ≤ 800; omega, by show _ ≤ 4800; omega⟩ (fun I P R => ?_)
      refine jx_top C (y := .int (f (90 + 12 * (o - 1) + 5))) (rfl) ?_
      refine jx_aload_n (pc := 629) C dL_hall_629 rfl ?_
      refine jx_iload (pc := 630) C dL_hall_630 rfl ?_
      refine jx_iconst (pc := 632) C dL_hall_632 nc_5 ?_
      refine aq_orderOf (pc := 633) C hE.1 hst (by decide) S R hI.1.1 hm ho (by decide) (Nat.le_of_ble_eq_true rfl) dL_hall_633 ⟨by show _ ≤ 800; omega, by show _ ≤ 4800; omega⟩ (fun I P R => ?_)
      refine jx_top C (y := .int (f (90 + 12 * o + 5))) (rfl) ?_
      refine jx_icmp_lt (pc := 636) C (tgt := 677) dL_hall_636 (by decide) (fun c636 => ?_) (fun c636 => ?_)
      · refine jx_iconst (pc := 677) C dL_hall_677 nc_1 ?_
        refine jx_goto (pc := 678) C (tgt := 682) dL_hall_678 (by decide) ?_
        refine jx_istore (pc := 682) C dL_hall_682 (jset_6 jc_i) (by decide) ?_
        refine jx_iincN (pc := 684) C dL_hall_684 rfl (jset_7 jc_i) (by decide) ?_
        refine jx_goto (pc := 687) C (tgt := 412) dL_hall_687 (by decide) ?_
        exact ih (o + 1) _ _ _ _ _ _ _ _ (by omega) R (by omega) (by omega)
      · have hs2 := (fx_sort a (show o - 1 < o by omega) ho).resolve_left c636
        refine jx_aload_n (pc := 639) C dL_hall_639 rfl ?_
        refine jx_iload (pc := 640) C dL_hall_640 rfl ?_
        refine jx_iconst (pc := 642) C dL_hall_642 nc_1 ?_
        refine jx_isubN (pc := 643) C (by omega) dL_hall_643 ?_
        refine jx_iconst (pc := 644) C dL_hall_644 nc_5 ?_
        refine aq_orderOf (pc := 645) C hE.1 hst (by decide) S R hI.1.1 hm (show o - 1 < smany f by omega) (by decide) (Nat.le_of_ble_eq_true rfl) dL_hall_645 ⟨by show _ ≤ 800; omega, by show _ ≤ 4800; omega⟩ (fun I P R => ?_)
        refine jx_top C (y := .int (f (90 + 12 * (o - 1) + 5))) (rfl) ?_
        refine jx_aload_n (pc := 648) C dL_hall_648 rfl ?_
        refine jx_iload (pc := 649) C dL_hall_649 rfl ?_
        refine jx_iconst (pc := 651) C dL_hall_651 nc_5 ?_
        refine aq_orderOf (pc := 652) C hE.1 hst (by decide) S R hI.1.1 hm ho (by decide) (Nat.le_of_ble_eq_true rfl) dL_hall_652 ⟨by show _ ≤ 800; omega, by show _ ≤ 4800; omega⟩ (fun I P R => ?_)
        refine jx_top C (y := .int (f (90 + 12 * o + 5))) (rfl) ?_
        refine jx_icmp_ne (pc := 655) C (tgt := 681) dL_hall_655 (by decide) (fun c655 => (by exfalso; exact c655 hs2.1)) (fun c655 => ?_)
        refine jx_aload_n (pc := 658) C dL_hall_658 rfl ?_
        refine jx_iload (pc := 659) C dL_hall_659 rfl ?_
        refine jx_iconst (pc := 661) C dL_hall_661 nc_1 ?_
        refine jx_isubN (pc := 662) C (by omega) dL_hall_662 ?_
        refine jx_iconst (pc := 663) C dL_hall_663 nc_0 ?_
        refine aq_orderOf (pc := 664) C hE.1 hst (by decide) S R hI.1.1 hm (show o - 1 < smany f by omega) (by decide) (Nat.le_of_ble_eq_true rfl) dL_hall_664 ⟨by show _ ≤ 800; omega, by show _ ≤ 4800; omega⟩ (fun I P R => ?_)
        refine jx_top C (y := .int (f (90 + 12 * (o - 1) + 0))) (rfl) ?_
        refine jx_aload_n (pc := 667) C dL_hall_667 rfl ?_
        refine jx_iload (pc := 668) C dL_hall_668 rfl ?_
        refine jx_iconst (pc := 670) C dL_hall_670 nc_0 ?_
        refine aq_orderOf (pc := 671) C hE.1 hst (by decide) S R hI.1.1 hm ho (by decide) (Nat.le_of_ble_eq_true rfl) dL_hall_671 ⟨by show _ ≤ 800; omega, by show _ ≤ 4800; omega⟩ (fun I P R => ?_)
        refine jx_top C (y := .int (f (90 + 12 * o + 0))) (rfl) ?_
        refine jx_icmp_ge (pc := 674) C (tgt := 681) dL_hall_674 (by decide) (fun c674 => (by exfalso; exact absurd hs2.2 (i32_nlt.mpr c674))) (fun c674 => ?_)
        refine jx_iconst (pc := 677) C dL_hall_677 nc_1 ?_
        refine jx_goto (pc := 678) C (tgt := 682) dL_hall_678 (by decide) ?_
        refine jx_istore (pc := 682) C dL_hall_682 (jset_6 jc_i) (by decide) ?_
        refine jx_iincN (pc := 684) C dL_hall_684 rfl (jset_7 jc_i) (by decide) ?_
        refine jx_goto (pc := 687) C (tgt := 412) dL_hall_687 (by decide) ?_
        exact ih (o + 1) _ _ _ _ _ _ _ _ (by omega) R (by omega) (by omega)
set_option maxHeartbeats 4000000 in
theorem b_L_hall {p : Program} {l : Launch} {e : Env} {s : State} {m : MethodId} {args : Array Value} {below : List Frame} {meth : Method} {c : Code} {D : va_G} {cA : Nat → ClassId} {N0 : Nat} {Sh : jS} {I : jI} {P : jP} {L : jL} (C : jC p (jRm 9 800 4800) s m args meth c D cA N0 cL_hall 12 RL 9) {b Ls : Nat} {xs : Nat → Int32} (hE : jEn b Ls xs N0 s) (hst : l.stackTraces = false) (hr : meth.sig.returnType = (some .boolean)) {y : Nat} (S : cS Sh y) {f : sF} {q : Nat} {pst : Nat → sF} {t : Nat} {ch : Nat → Nat} {n0 : Nat} (a : aT n0 f) (h36 : n0 ≤ 36) (hI : sI f) (R : cR I P y f q pst t ch) : jJ p l e (jRm 9 800 4800) s m args below meth c D cA N0 12 (MQ below (jQn D cA N0 Sh (fun v I' P' L' => v = some (.int (nI 1)) ∧ cR I' P' y f q pst t ch ∧ L' = L)) args s 800 4800 (fun q => N0 ≤ q)) (fun _ => True) Sh I P L 0 0 0 [some (.ref y), none, none, none, none, none, none, none, none, none, none, none] [] := by
  have hp := fx_paid a h36
  have h01 := seven_01 (fx_he a h36)
  refine jx_iconst (pc := 0) C dL_hall_0 nc_0 ?_
  refine jx_istore_n (pc := 1) C dL_hall_1 (jset_1 jc_r) (by decide) ?_
  refine jx_iconst (pc := 2) C dL_hall_2 nc_0 ?_
  refine jx_istore_n (pc := 3) C dL_hall_3 (jset_2 jc_i) (by decide) ?_
  refine jx_iconst (pc := 4) C dL_hall_4 nc_0 ?_
  refine jx_istore_n (pc := 5) C dL_hall_5 (jset_3 jc_i) (by decide) ?_
  refine jx_iconst (pc := 6) C dL_hall_6 nc_0 ?_
  refine jx_istore (pc := 7) C dL_hall_7 (jset_4 jc_i) (by decide) ?_
  refine jx_iconst (pc := 9) C dL_hall_9 nc_0 ?_
  refine jx_istore (pc := 10) C dL_hall_10 (jset_5 jc_i) (by decide) ?_
  refine jx_iconst (pc := 12) C dL_hall_12 nc_1 ?_
  refine jx_istore (pc := 13) C dL_hall_13 (jset_6 jc_i) (by decide) ?_
  refine jx_iconst (pc := 15) C dL_hall_15 nc_0 ?_
  refine jx_istore (pc := 16) C dL_hall_16 (jset_7 jc_i) (by decide) ?_
  refine lp_hall1 C hE hst S a h36 hI (fun l8 I P k n R hk hn => ?_) 6 0 _ _ _ _ _ (Nat.zero_add _) R (Nat.le_refl _) (Nat.le_refl _)
  refine jx_iload (pc := 316) C dL_hall_316 rfl ?_
  refine jx_if_eq (pc := 318) C (tgt := 406) dL_hall_318 (by decide) (fun c318 => (by exfalso; revert c318; decide)) (fun c318 => ?_)
  refine jx_iload_n (pc := 321) C dL_hall_321 rfl ?_
  refine jx_aload_n (pc := 322) C dL_hall_322 rfl ?_
  refine jx_iconst (pc := 323) C dL_hall_323 nc_5 ?_
  refine aq_count (pc := 324) C hE.1 hst (by decide) S R (by decide) (Nat.le_of_ble_eq_true rfl) dL_hall_324 ⟨by show _ ≤ 800; omega, by show _ ≤ 4800; omega⟩ (fun I P R => ?_)
  refine jx_top C (y := .int (ssum (fun w => f (18 + 12 * w + 5)) 6)) (congrArg Value.int hI.2.1.2.2.2.1) ?_
  refine jx_icmp_ne (pc := 327) C (tgt := 406) dL_hall_327 (by decide) (fun c327 => (by exfalso; exact c327 rfl)) (fun c327 => ?_)
  refine jx_iload_n (pc := 330) C dL_hall_330 rfl ?_
  refine jx_aload_n (pc := 331) C dL_hall_331 rfl ?_
  refine jx_bipush (pc := 332) C dL_hall_332 nb_6 ?_
  refine aq_count (pc := 334) C hE.1 hst (by decide) S R (by decide) (Nat.le_of_ble_eq_true rfl) dL_hall_334 ⟨by show _ ≤ 800; omega, by show _ ≤ 4800; omega⟩ (fun I P R => ?_)
  refine jx_top C (y := .int (ssum (fun w => f (18 + 12 * w + 6)) 6)) (congrArg Value.int hI.2.1.2.2.2.2) ?_
  refine jx_icmp_ne (pc := 337) C (tgt := 406) dL_hall_337 (by decide) (fun c337 => (by exfalso; exact c337 rfl)) (fun c337 => ?_)
  refine jx_iload_n (pc := 340) C dL_hall_340 rfl ?_
  refine jx_aload_n (pc := 341) C dL_hall_341 rfl ?_
  refine jx_bipush (pc := 342) C dL_hall_342 nb_8 ?_
  refine aq_count (pc := 344) C hE.1 hst (by decide) S R (by decide) (Nat.le_of_ble_eq_true rfl) dL_hall_344 ⟨by show _ ≤ 800; omega, by show _ ≤ 4800; omega⟩ (fun I P R => ?_)
  refine jx_top C (y := .int (ssum (fun w => f (18 + 12 * w + 3)) 6)) (rfl) ?_
  refine jx_icmp_ne (pc := 347) C (tgt := 406) dL_hall_347 (by decide) (fun c347 => (by exfalso; exact c347 rfl)) (fun c347 => ?_)
  refine jx_iload (pc := 350) C dL_hall_350 rfl ?_
  refine jx_aload_n (pc := 352) C dL_hall_352 rfl ?_
  refine jx_iconst (pc := 353) C dL_hall_353 nc_4 ?_
  refine aq_count (pc := 354) C hE.1 hst (by decide) S R (by decide) (Nat.le_of_ble_eq_true rfl) dL_hall_354 ⟨by show _ ≤ 800; omega, by show _ ≤ 4800; omega⟩ (fun I P R => ?_)
  refine jx_top C (y := .int (f 9)) (rfl) ?_
  refine jx_icmp_gt (pc := 357) C (tgt := 406) dL_hall_357 (by decide) (fun c357 => (by exfalso; exact absurd c357 (i32_nlt.mpr hp.1))) (fun c357 => ?_)
  refine jx_iload (pc := 360) C dL_hall_360 rfl ?_
  refine jx_aload_n (pc := 362) C dL_hall_362 rfl ?_
  refine jx_bipush (pc := 363) C dL_hall_363 nb_9 ?_
  refine aq_count (pc := 365) C hE.1 hst (by decide) S R (by decide) (Nat.le_of_ble_eq_true rfl) dL_hall_365 ⟨by show _ ≤ 800; omega, by show _ ≤ 4800; omega⟩ (fun I P R => ?_)
  refine jx_top C (y := .int (sloomsN f 6)) (rfl) ?_
  refine jx_icmp_ne (pc := 368) C (tgt := 406) dL_hall_368 (by decide) (fun c368 => (by exfalso; exact c368 rfl)) (fun c368 => ?_)
  refine jx_aload_n (pc := 371) C dL_hall_371 rfl ?_
  refine jx_iconst (pc := 372) C dL_hall_372 nc_3 ?_
  refine aq_count (pc := 373) C hE.1 hst (by decide) S R (by decide) (Nat.le_of_ble_eq_true rfl) dL_hall_373 ⟨by show _ ≤ 800; omega, by show _ ≤ 4800; omega⟩ (fun I P R => ?_)
  refine jx_top C (y := .int (f 8)) (rfl) ?_
  refine jx_aload_n (pc := 376) C dL_hall_376 rfl ?_
  refine jx_iconst (pc := 377) C dL_hall_377 nc_2 ?_
  refine aq_count (pc := 378) C hE.1 hst (by decide) S R (by decide) (Nat.le_of_ble_eq_true rfl) dL_hall_378 ⟨by show _ ≤ 800; omega, by show _ ≤ 4800; omega⟩ (fun I P R => ?_)
  refine jx_top C (y := .int (f 7)) (rfl) ?_
  refine jx_icmp_gt (pc := 381) C (tgt := 406) dL_hall_381 (by decide) (fun c381 => (by exfalso; exact absurd c381 (i32_nlt.mpr hp.2))) (fun c381 => ?_)
  refine jx_aload_n (pc := 384) C dL_hall_384 rfl ?_
  refine jx_callD (pc := 385) C (go_L_54 C S.obj (Nat.le_of_ble_eq_true rfl) dL_hall_385) (t_X5_evenness S R (fx_he a h36)) (by decide) (by decide) ⟨by show _ ≤ 800; omega, by show _ ≤ 4800; omega⟩ ?_
  refine jx_dconst0 (pc := 388) C dL_hall_388 ?_
  refine jx_dcmp (pc := 389) C dL_hall_389 ?_
  refine jx_if_lt (pc := 390) C (tgt := 406) dL_hall_390 (by decide) (fun c390 => (by exfalso; exact h01.1 c390)) (fun c390 => ?_)
  refine jx_aload_n (pc := 393) C dL_hall_393 rfl ?_
  refine jx_callD (pc := 394) C (go_L_54 C S.obj (Nat.le_of_ble_eq_true rfl) dL_hall_394) (t_X5_evenness S R (fx_he a h36)) (by decide) (by decide) ⟨by show _ ≤ 800; omega, by show _ ≤ 4800; omega⟩ ?_
  refine jx_dconst1 (pc := 397) C dL_hall_397 ?_
  refine jx_dcmp (pc := 398) C dL_hall_398 ?_
  refine jx_if_gt (pc := 399) C (tgt := 406) dL_hall_399 (by decide) (fun c399 => (by exfalso; exact h01.2 c399)) (fun c399 => ?_)
  refine jx_iconst (pc := 402) C dL_hall_402 nc_1 ?_
  refine jx_goto (pc := 403) C (tgt := 407) dL_hall_403 (by decide) ?_
  refine jx_istore (pc := 407) C dL_hall_407 (jset_6 jc_i) (by decide) ?_
  refine jx_iconst (pc := 409) C dL_hall_409 nc_0 ?_
  refine jx_istore (pc := 410) C dL_hall_410 (jset_7 jc_i) (by decide) ?_
  exact lp_hall2 C hE hst hr S a h36 hI (smany f) 0 _ _ _ _ _ _ _ _ (Nat.zero_add _) R (by omega) (by omega)
theorem t_L_hall {l : Launch} (hst : l.stackTraces = false) {D : va_G} {cA : Nat → ClassId} {N0 : Nat} {Sh : jS} {I : jI} {P : jP} {L : jL} {b Ls : Nat} {xs : Nat → Int32} {y : Nat} (S : cS Sh y) {f : sF} {q : Nat} {pst : Nat → sF} {t : Nat} {ch : Nat → Nat} {n0 : Nat} (a : aT n0 f) (h36 : n0 ≤ 36) (hI : sI f) (R : cR I P y f q pst t ch) : jGM l D cA N0 9 800 4800 yL_hall cL_hall 12 (some .boolean) [.ref y] b Ls xs Sh I P L (fun v I' P' L' => v = some (.int (nI 1)) ∧ cR I' P' y f q pst t ch ∧ L' = L) := jGM_of (by decide) (Nat.le_of_ble_eq_true rfl) (fun _ _ _ _ _ _ _ _ C hE hr => b_L_hall C hE hst hr S a h36 hI R)
