/-! THE LAW'S LOOP -/
set_option maxHeartbeats 4000000 in
theorem lp_law_c {p : Program} {l : Launch} {e : Env} {s : State} {m : MethodId} {args : Array Value} {below : List Frame} {meth : Method} {c : Code} {D : va_G} {cA : Nat → ClassId} {N0 : Nat} {Sh : jS} {L : jL} {I : jI} {P : jP} {Qf : State → Prop} (C : jC p room_1 s m args meth c D cA N0 cL_law 12 RL 10) {b Ls : Nat} {xs : Nat → Int32} (hE : jEn b Ls xs N0 s) (hst : l.stackTraces = false) {y : Nat} (S : cS Sh y) {f : sF} {q : Nat} {pst : Nat → sF} {t : Nat} {ch : Nat → Nat} {T r : Nat} (hr36 : r < 36) {l5 l6 l7 : Option Value} {yv dv told : Int32} {j : Nat} (hj : j < 18) (a : aT (r + 1) f) (hI : sI f) (g3 : j < 15 ∨ f 7 = dv + told) (hx : ∀ (I : jI) (P : jP) (k n : Nat), cR I P y f q pst t ch → k ≤ 366 + 900 * r + 900 → n ≤ 2237 + 5400 * r + 5400 → jJ p l e room_1 s m args below meth c D cA N0 12 Qf (fun _ => True) Sh I P L k n 32 [some (.ref b), some (.ref y), some (.int (nI 1)), some (.int (nI T)), some (.int (nI (r + 1))), l5, l6, l7, some (.int yv), some (.int dv), some (.int (nI j)), some (.int told)] []) (R : cR I P y f q pst t ch) {k n : Nat} (hk : k ≤ 366 + 900 * r + 80) (hn : n ≤ 2237 + 5400 * r + 480) : jJ p l e room_1 s m args below meth c D cA N0 12 Qf (fun _ => True) Sh I P L k n 182 [some (.ref b), some (.ref y), some (.int (nI 1)), some (.int (nI T)), some (.int (nI r)), l5, l6, l7, some (.int yv), some (.int dv), some (.int (nI j)), some (.int told)] [] := by
  have h36 : r + 1 ≤ 36 := hr36
  refine jx_iload (pc := 182) C dL_law_182 rfl ?_
  refine jx_bipush (pc := 184) C dL_law_184 nb_15 ?_
  refine jx_icmp_lt (pc := 186) C (tgt := 202) dL_law_186 (by decide) (fun c186 => ?_) (fun c186 => ?_)
  · rw [nI_ltI (by omega) (by omega)] at c186
    refine jx_aload_n (pc := 202) C dL_law_202 rfl ?_
    refine jx_callG (pc := 203) C hE (go_L_106 C (Nat.le_of_ble_eq_true rfl) dL_law_203) (t_L_hall hst S a h36 hI R) (by decide) (by decide) ⟨by show _ ≤ 683511; omega, by show _ ≤ 7051164; omega⟩ (fun v9 I P L9 q9 => ?_)
    obtain ⟨rfl, R, rfl⟩ := q9
    refine jx_if_eq (pc := 206) C (tgt := 213) dL_law_206 (by decide) (fun c206 => (by exfalso; revert c206; decide)) (fun c206 => ?_)
    refine jx_iconst (pc := 209) C dL_law_209 nc_1 ?_
    refine jx_goto (pc := 210) C (tgt := 214) dL_law_210 (by decide) ?_
    refine jx_istore_n (pc := 214) C dL_law_214 (jset_2 jc_r) (by decide) ?_
    refine jx_iincN (pc := 215) C dL_law_215 rfl (jset_4 jc_i) (by decide) ?_
    refine jx_goto (pc := 218) C (tgt := 32) dL_law_218 (by decide) ?_
    exact hx _ _ _ _ R (by omega) (by omega)
  · rw [nI_ltI (by omega) (by omega)] at c186
    refine jx_aload_n (pc := 189) C dL_law_189 rfl ?_
    refine jx_iconst (pc := 190) C dL_law_190 nc_2 ?_
    refine aq_count (pc := 191) C hE.1 hst (by decide) S R (by decide) (Nat.le_of_ble_eq_true rfl) dL_law_191 ⟨by show _ ≤ 683511; omega, by show _ ≤ 7051164; omega⟩ (fun I P R => ?_)
    refine jx_top C (y := .int (f 7)) (rfl) ?_
    refine jx_iload (pc := 194) C dL_law_194 rfl ?_
    refine jx_iload (pc := 196) C dL_law_196 rfl ?_
    refine jx_iadd (pc := 198) C dL_law_198 ?_
    refine jx_icmp_ne (pc := 199) C (tgt := 213) dL_law_199 (by decide) (fun c199 => (by exfalso; exact c199 (g3.resolve_left (by omega)))) (fun c199 => ?_)
    refine jx_aload_n (pc := 202) C dL_law_202 rfl ?_
    refine jx_callG (pc := 203) C hE (go_L_106 C (Nat.le_of_ble_eq_true rfl) dL_law_203) (t_L_hall hst S a h36 hI R) (by decide) (by decide) ⟨by show _ ≤ 683511; omega, by show _ ≤ 7051164; omega⟩ (fun v9 I P L9 q9 => ?_)
    obtain ⟨rfl, R, rfl⟩ := q9
    refine jx_if_eq (pc := 206) C (tgt := 213) dL_law_206 (by decide) (fun c206 => (by exfalso; revert c206; decide)) (fun c206 => ?_)
    refine jx_iconst (pc := 209) C dL_law_209 nc_1 ?_
    refine jx_goto (pc := 210) C (tgt := 214) dL_law_210 (by decide) ?_
    refine jx_istore_n (pc := 214) C dL_law_214 (jset_2 jc_r) (by decide) ?_
    refine jx_iincN (pc := 215) C dL_law_215 rfl (jset_4 jc_i) (by decide) ?_
    refine jx_goto (pc := 218) C (tgt := 32) dL_law_218 (by decide) ?_
    exact hx _ _ _ _ R (by omega) (by omega)
set_option maxHeartbeats 4000000 in
theorem lp_law_b {p : Program} {l : Launch} {e : Env} {s : State} {m : MethodId} {args : Array Value} {below : List Frame} {meth : Method} {c : Code} {D : va_G} {cA : Nat → ClassId} {N0 : Nat} {Sh : jS} {L : jL} {I : jI} {P : jP} {Qf : State → Prop} (C : jC p room_1 s m args meth c D cA N0 cL_law 12 RL 10) {b Ls : Nat} {xs : Nat → Int32} (hE : jEn b Ls xs N0 s) (hst : l.stackTraces = false) {y : Nat} (S : cS Sh y) {f : sF} {q : Nat} {pst : Nat → sF} {t : Nat} {ch : Nat → Nat} {T r : Nat} (hr36 : r < 36) {l5 l6 l7 : Option Value} {yv dv told : Int32} {j : Nat} (hj : j < 18) (a : aT (r + 1) f) (hI : sI f) (g2 : (5 < j ∧ j < 10) ∨ j = 14 ∨ yT f = yv) (g3 : j < 15 ∨ f 7 = dv + told) (hx : ∀ (I : jI) (P : jP) (k n : Nat), cR I P y f q pst t ch → k ≤ 366 + 900 * r + 900 → n ≤ 2237 + 5400 * r + 5400 → jJ p l e room_1 s m args below meth c D cA N0 12 Qf (fun _ => True) Sh I P L k n 32 [some (.ref b), some (.ref y), some (.int (nI 1)), some (.int (nI T)), some (.int (nI (r + 1))), l5, l6, l7, some (.int yv), some (.int dv), some (.int (nI j)), some (.int told)] []) (R : cR I P y f q pst t ch) {k n : Nat} (hk : k ≤ 366 + 900 * r + 50) (hn : n ≤ 2237 + 5400 * r + 300) : jJ p l e room_1 s m args below meth c D cA N0 12 Qf (fun _ => True) Sh I P L k n 146 [some (.ref b), some (.ref y), some (.int (nI 1)), some (.int (nI T)), some (.int (nI r)), l5, l6, l7, some (.int yv), some (.int dv), some (.int (nI j)), some (.int told)] [] := by
  refine jx_iload (pc := 146) C dL_law_146 rfl ?_
  refine jx_iconst (pc := 148) C dL_law_148 nc_5 ?_
  refine jx_icmp_le (pc := 149) C (tgt := 159) dL_law_149 (by decide) (fun c149 => ?_) (fun c149 => ?_)
  · rw [nI_leI (by omega) (by omega)] at c149
    refine jx_iload (pc := 159) C dL_law_159 rfl ?_
    refine jx_bipush (pc := 161) C dL_law_161 nb_14 ?_
    refine jx_icmp_eq (pc := 163) C (tgt := 182) dL_law_163 (by decide) (fun c163 => ?_) (fun c163 => ?_)
    · rw [nI_eq (by omega) (by omega)] at c163
      exact lp_law_c C hE hst S hr36 hj a hI g3 hx R (by omega) (by omega)
    · rw [nI_eq (by omega) (by omega)] at c163
      refine jx_aload_n (pc := 166) C dL_law_166 rfl ?_
      refine jx_callG (pc := 167) C hE (go_L_99 C (Nat.le_of_ble_eq_true rfl) dL_law_167) (t_L_yarns hst S R) (by decide) (by decide) ⟨by show _ ≤ 683511; omega, by show _ ≤ 7051164; omega⟩ (fun v9 I P L9 q9 => ?_)
      obtain ⟨rfl, R, rfl⟩ := q9
      refine jx_aload_n (pc := 170) C dL_law_170 rfl ?_
      refine jx_bipush (pc := 171) C dL_law_171 nb_7 ?_
      refine aq_count (pc := 173) C hE.1 hst (by decide) S R (by decide) (Nat.le_of_ble_eq_true rfl) dL_law_173 ⟨by show _ ≤ 683511; omega, by show _ ≤ 7051164; omega⟩ (fun I P R => ?_)
      refine jx_top C (y := .int (f 12)) (rfl) ?_
      refine jx_iadd (pc := 176) C dL_law_176 ?_
      refine jx_iload (pc := 177) C dL_law_177 rfl ?_
      refine jx_icmp_ne (pc := 179) C (tgt := 213) dL_law_179 (by decide) (fun c179 => (by exfalso; exact c179 ((g2.resolve_left (by omega)).resolve_left c163))) (fun c179 => ?_)
      exact lp_law_c C hE hst S hr36 hj a hI g3 hx R (by omega) (by omega)
  · rw [nI_leI (by omega) (by omega)] at c149
    refine jx_iload (pc := 152) C dL_law_152 rfl ?_
    refine jx_bipush (pc := 154) C dL_law_154 nb_10 ?_
    refine jx_icmp_lt (pc := 156) C (tgt := 182) dL_law_156 (by decide) (fun c156 => ?_) (fun c156 => ?_)
    · rw [nI_ltI (by omega) (by omega)] at c156
      exact lp_law_c C hE hst S hr36 hj a hI g3 hx R (by omega) (by omega)
    · rw [nI_ltI (by omega) (by omega)] at c156
      refine jx_iload (pc := 159) C dL_law_159 rfl ?_
      refine jx_bipush (pc := 161) C dL_law_161 nb_14 ?_
      refine jx_icmp_eq (pc := 163) C (tgt := 182) dL_law_163 (by decide) (fun c163 => ?_) (fun c163 => ?_)
      · rw [nI_eq (by omega) (by omega)] at c163
        exact lp_law_c C hE hst S hr36 hj a hI g3 hx R (by omega) (by omega)
      · rw [nI_eq (by omega) (by omega)] at c163
        refine jx_aload_n (pc := 166) C dL_law_166 rfl ?_
        refine jx_callG (pc := 167) C hE (go_L_99 C (Nat.le_of_ble_eq_true rfl) dL_law_167) (t_L_yarns hst S R) (by decide) (by decide) ⟨by show _ ≤ 683511; omega, by show _ ≤ 7051164; omega⟩ (fun v9 I P L9 q9 => ?_)
        obtain ⟨rfl, R, rfl⟩ := q9
        refine jx_aload_n (pc := 170) C dL_law_170 rfl ?_
        refine jx_bipush (pc := 171) C dL_law_171 nb_7 ?_
        refine aq_count (pc := 173) C hE.1 hst (by decide) S R (by decide) (Nat.le_of_ble_eq_true rfl) dL_law_173 ⟨by show _ ≤ 683511; omega, by show _ ≤ 7051164; omega⟩ (fun I P R => ?_)
        refine jx_top C (y := .int (f 12)) (rfl) ?_
        refine jx_iadd (pc := 176) C dL_law_176 ?_
        refine jx_iload (pc := 177) C dL_law_177 rfl ?_
        refine jx_icmp_ne (pc := 179) C (tgt := 213) dL_law_179 (by decide) (fun c179 => (by exfalso; exact c179 ((g2.resolve_left (by omega)).resolve_left c163))) (fun c179 => ?_)
        exact lp_law_c C hE hst S hr36 hj a hI g3 hx R (by omega) (by omega)
set_option maxHeartbeats 8000000 in
theorem lp_law {p : Program} {l : Launch} {e : Env} {s : State} {m : MethodId} {args : Array Value} {below : List Frame} {meth : Method} {c : Code} {D : va_G} {cA : Nat → ClassId} {N0 : Nat} {Sh : jS} {L : jL} {Qf : State → Prop} (C : jC p room_1 s m args meth c D cA N0 cL_law 12 RL 10) {b Ls : Nat} {xs : Nat → Int32} (hE : jEn b Ls xs N0 s) (hst : l.stackTraces = false) {y : Nat} (S : cS Sh y) {t : Nat} {ch : Nat → Nat} {T : Nat} (hT : T ≤ 36) (hTL : 4 * T ≤ Ls) (hL : Ls ≤ 260) (hend : ∀ (I : jI) (P : jP) (k n : Nat) (ls : List (Option Value)), k ≤ 683511 → n ≤ 7051164 → jJ p l e room_1 s m args below meth c D cA N0 12 Qf (fun _ => True) Sh I P L k n 222 ls [.int (nI 1)]) : ∀ (d r : Nat) (l5 l6 l7 l8 l9 l10 l11 : Option Value) (f : sF) (q : Nat) (pst : Nat → sF) (I : jI) (P : jP) (k n : Nat), r + d = T → cR I P y f q pst t ch → aT r f → (∀ i, i < q → aT r (pst i)) → k ≤ 366 + 900 * r → n ≤ 2237 + 5400 * r → jJ p l e room_1 s m args below meth c D cA N0 12 Qf (fun _ => True) Sh I P L k n 32 [some (.ref b), some (.ref y), some (.int (nI 1)), some (.int (nI T)), some (.int (nI r)), l5, l6, l7, l8, l9, l10, l11] [] := by
  intro d
  induction d with
  | zero =>
    intro r l5 l6 l7 l8 l9 l10 l11 f q pst I P k n hid R a hp hk hn
    have hr36 : r ≤ 36 := by omega
    refine jx_iload (pc := 32) C dL_law_32 rfl ?_
    refine jx_iload_n (pc := 34) C dL_law_34 rfl ?_
    refine jx_icmp_ge (pc := 35) C (tgt := 221) dL_law_35 (by decide) (fun c35 => ?_) (fun c35 => (by rw [nI_leI (by omega) (by omega)] at c35; exfalso; omega))
    rw [nI_leI (by omega) (by omega)] at c35
    refine jx_iload_n (pc := 221) C dL_law_221 rfl ?_
    exact hend _ _ _ _ _ (by omega) (by omega)
  | succ d ih =>
    intro r l5 l6 l7 l8 l9 l10 l11 f q pst I P k n hid R a hp hk hn
    have hr36 : r < 36 := by omega
    have hrL : 4 * r + 3 < Ls := by omega
    refine jx_iload (pc := 32) C dL_law_32 rfl ?_
    refine jx_iload_n (pc := 34) C dL_law_34 rfl ?_
    refine jx_icmp_ge (pc := 35) C (tgt := 221) dL_law_35 (by decide) (fun c35 => (by rw [nI_leI (by omega) (by omega)] at c35; exfalso; omega)) (fun c35 => ?_)
    rw [nI_leI (by omega) (by omega)] at c35
    refine jx_iload_n (pc := 38) C dL_law_38 rfl ?_
    refine jx_if_eq (pc := 39) C (tgt := 221) dL_law_39 (by decide) (fun c39 => (by exfalso; revert c39; decide)) (fun c39 => ?_)
    refine jx_aload_n (pc := 42) C dL_law_42 rfl ?_
    refine jx_bipush (pc := 43) C dL_law_43 nb_11 ?_
    refine aq_count (pc := 45) C hE.1 hst (by decide) S R (by decide) (Nat.le_of_ble_eq_true rfl) dL_law_45 ⟨by show _ ≤ 683511; omega, by show _ ≤ 7051164; omega⟩ (fun I P R => ?_)
    refine jx_top C (y := .int (nI q)) (rfl) ?_
    refine jx_istore (pc := 48) C dL_law_48 (jset_5 jc_i) (by decide) ?_
    refine jx_aload_n (pc := 50) C dL_law_50 rfl ?_
    refine jx_iconst (pc := 51) C dL_law_51 nc_1 ?_
    refine aq_count (pc := 52) C hE.1 hst (by decide) S R (by decide) (Nat.le_of_ble_eq_true rfl) dL_law_52 ⟨by show _ ≤ 683511; omega, by show _ ≤ 7051164; omega⟩ (fun I P R => ?_)
    refine jx_top C (y := .int (f 5)) (rfl) ?_
    refine jx_istore (pc := 55) C dL_law_55 (jset_6 jc_i) (by decide) ?_
    refine jx_aload_n (pc := 57) C dL_law_57 rfl ?_
    refine jx_iconst (pc := 58) C dL_law_58 nc_0 ?_
    refine aq_count (pc := 59) C hE.1 hst (by decide) S R (by decide) (Nat.le_of_ble_eq_true rfl) dL_law_59 ⟨by show _ ≤ 683511; omega, by show _ ≤ 7051164; omega⟩ (fun I P R => ?_)
    refine jx_top C (y := .int (f 4)) (rfl) ?_
    refine jx_istore (pc := 62) C dL_law_62 (jset_7 jc_i) (by decide) ?_
    refine jx_aload_n (pc := 64) C dL_law_64 rfl ?_
    refine jx_callG (pc := 65) C hE (go_L_99 C (Nat.le_of_ble_eq_true rfl) dL_law_65) (t_L_yarns hst S R) (by decide) (by decide) ⟨by show _ ≤ 683511; omega, by show _ ≤ 7051164; omega⟩ (fun v9 I P L9 q9 => ?_)
    obtain ⟨rfl, R, rfl⟩ := q9
    refine jx_aload_n (pc := 68) C dL_law_68 rfl ?_
    refine jx_bipush (pc := 69) C dL_law_69 nb_7 ?_
    refine aq_count (pc := 71) C hE.1 hst (by decide) S R (by decide) (Nat.le_of_ble_eq_true rfl) dL_law_71 ⟨by show _ ≤ 683511; omega, by show _ ≤ 7051164; omega⟩ (fun I P R => ?_)
    refine jx_top C (y := .int (f 12)) (rfl) ?_
    refine jx_iadd (pc := 74) C dL_law_74 ?_
    refine jx_istore (pc := 75) C dL_law_75 (jset_8 jc_i) (by decide) ?_
    refine jx_aload_n (pc := 77) C dL_law_77 rfl ?_
    refine jx_iconst (pc := 78) C dL_law_78 nc_2 ?_
    refine aq_count (pc := 79) C hE.1 hst (by decide) S R (by decide) (Nat.le_of_ble_eq_true rfl) dL_law_79 ⟨by show _ ≤ 683511; omega, by show _ ≤ 7051164; omega⟩ (fun I P R => ?_)
    refine jx_top C (y := .int (f 7)) (rfl) ?_
    refine jx_istore (pc := 82) C dL_law_82 (jset_9 jc_i) (by decide) ?_
    refine jx_aload_n (pc := 84) C dL_law_84 rfl ?_
    refine jx_iconst (pc := 85) C dL_law_85 nc_4 ?_
    refine jx_iload (pc := 86) C dL_law_86 rfl ?_
    refine jx_imulN (pc := 88) C dL_law_88 ?_
    refine jx_callG (pc := 89) C hE (go_L_64 C (Nat.le_of_ble_eq_true rfl) dL_law_89) (t_L_cell (by omega) (by omega)) (by decide) (by decide) ⟨by show _ ≤ 683511; omega, by show _ ≤ 7051164; omega⟩ (fun v9 I9 P9 L9 q9 => ?_)
    obtain ⟨rfl, rfl, rfl, rfl⟩ := q9
    refine jx_bipush (pc := 92) C dL_law_92 nb_18 ?_
    refine jx_callD (pc := 94) C (go_L_68 C (Nat.le_of_ble_eq_true rfl) dL_law_94) (t_L_low (nn := 18) (by decide) (by decide)) (by decide) (by decide) ⟨by show _ ≤ 683511; omega, by show _ ≤ 7051164; omega⟩ ?_
    refine jx_istore (pc := 97) C dL_law_97 (jset_10 jc_i) (by decide) ?_
    refine jx_aload_n (pc := 99) C dL_law_99 rfl ?_
    refine jx_aload_n (pc := 100) C dL_law_100 rfl ?_
    refine jx_iconst (pc := 101) C dL_law_101 nc_4 ?_
    refine jx_iload (pc := 102) C dL_law_102 rfl ?_
    refine jx_imulN (pc := 104) C dL_law_104 ?_
    refine jx_callG (pc := 105) C hE (go_L_102 C (Nat.le_of_ble_eq_true rfl) dL_law_105) (t_L_act hst S a hp hr36 R.V (i := 4 * r) (by omega) (by omega) R) (by decide) (by decide) ⟨by show _ ≤ 683511; omega, by show _ ≤ 7051164; omega⟩ (fun v9 I P L9 q9 => ?_)
    obtain ⟨rfl, told, f2, q2, pst2, rfl, R, a2, hp2, g1, g2, g3⟩ := q9
    refine jx_istore (pc := 108) C dL_law_108 (jset_11 jc_i) (by decide) ?_
    refine jx_iload (pc := 110) C dL_law_110 rfl ?_
    refine jx_if_ge (pc := 112) C (tgt := 146) dL_law_112 (by decide) (fun c112 => ?_) (fun c112 => ?_)
    · exact lp_law_b C hE hst S hr36 (lowN_lt (by decide)) a2 R.V g2 g3 (fun I P k n R hk hn => ih (r + 1) _ _ _ _ _ _ _ _ _ _ _ _ _ _ (by omega) R a2 hp2 (by rw [Nat.mul_succ, ← Nat.add_assoc]; exact hk) (by rw [Nat.mul_succ, ← Nat.add_assoc]; exact hn)) R (by omega) (by omega)
    · refine jx_aload_n (pc := 115) C dL_law_115 rfl ?_
      refine jx_bipush (pc := 116) C dL_law_116 nb_11 ?_
      refine aq_count (pc := 118) C hE.1 hst (by decide) S R (by decide) (Nat.le_of_ble_eq_true rfl) dL_law_118 ⟨by show _ ≤ 683511; omega, by show _ ≤ 7051164; omega⟩ (fun I P R => ?_)
      refine jx_top C (y := .int (nI q2)) (rfl) ?_
      refine jx_iload (pc := 121) C dL_law_121 rfl ?_
      refine jx_icmp_ne (pc := 123) C (tgt := 213) dL_law_123 (by decide) (fun c123 => (by exfalso; exact c123 (by rw [(g1 (i32_nle.mp c112)).1]))) (fun c123 => ?_)
      refine jx_aload_n (pc := 126) C dL_law_126 rfl ?_
      refine jx_iconst (pc := 127) C dL_law_127 nc_1 ?_
      refine aq_count (pc := 128) C hE.1 hst (by decide) S R (by decide) (Nat.le_of_ble_eq_true rfl) dL_law_128 ⟨by show _ ≤ 683511; omega, by show _ ≤ 7051164; omega⟩ (fun I P R => ?_)
      refine jx_top C (y := .int (f2 5)) (rfl) ?_
      refine jx_iload (pc := 131) C dL_law_131 rfl ?_
      refine jx_icmp_ne (pc := 133) C (tgt := 213) dL_law_133 (by decide) (fun c133 => (by exfalso; exact c133 (by rw [(g1 (i32_nle.mp c112)).2]))) (fun c133 => ?_)
      refine jx_aload_n (pc := 136) C dL_law_136 rfl ?_
      refine jx_iconst (pc := 137) C dL_law_137 nc_0 ?_
      refine aq_count (pc := 138) C hE.1 hst (by decide) S R (by decide) (Nat.le_of_ble_eq_true rfl) dL_law_138 ⟨by show _ ≤ 683511; omega, by show _ ≤ 7051164; omega⟩ (fun I P R => ?_)
      refine jx_top C (y := .int (f2 4)) (rfl) ?_
      refine jx_iload (pc := 141) C dL_law_141 rfl ?_
      refine jx_icmp_ne (pc := 143) C (tgt := 213) dL_law_143 (by decide) (fun c143 => (by exfalso; exact c143 (by rw [(g1 (i32_nle.mp c112)).2]))) (fun c143 => ?_)
      exact lp_law_b C hE hst S hr36 (lowN_lt (by decide)) a2 R.V g2 g3 (fun I P k n R hk hn => ih (r + 1) _ _ _ _ _ _ _ _ _ _ _ _ _ _ (by omega) R a2 hp2 (by rw [Nat.mul_succ, ← Nat.add_assoc]; exact hk) (by rw [Nat.mul_succ, ← Nat.add_assoc]; exact hn)) R (by omega) (by omega)
