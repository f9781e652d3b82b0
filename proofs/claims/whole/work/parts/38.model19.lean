set_option maxHeartbeats 4000000 in
theorem lp_dg8 {p : Program} {l : Launch} {e : Env} {s : State} {m : MethodId} {args : Array Value} {below : List Frame} {meth : Method} {c : Code} {D : va_G} {cA : Nat → ClassId} {N0 : Nat} {Sh : jS} {I : jI} {P : jP} {L : jL} {Qf : State → Prop} (C : jC p (jRm 8 0 0) s m args meth c D cA N0 cX6_digest 5 RX6 8) {x : Nat} (hS : mS Sh x) (hP : mP P x) (hok : sOK (I (x + 1))) {h : Int64} (hx : ∀ v', jJ p l e (jRm 8 0 0) s m args below meth c D cA N0 5 Qf (fun _ => True) Sh I P L 0 0 137 [some (.ref x), some (.long (sdwv (I (x + 1)) h (6))), none, some (.int (nI (6))), v'] []) : ∀ n i v', i + n = 6 → jJ p l e (jRm 8 0 0) s m args below meth c D cA N0 5 Qf (fun _ => True) Sh I P L 0 0 65 [some (.ref x), some (.long (sdwv (I (x + 1)) h (i))), none, some (.int (nI (i))), v'] [] := by
  intro n
  induction n with
  | zero =>
    intro i v' hi
    obtain rfl : i = 6 := by omega
    refine jx_iload_n (pc := 65) C dX6_digest_65 rfl ?_
    refine jx_bipush (pc := 66) C dX6_digest_66 nb_6 ?_
    refine jx_icmp_ge (pc := 68) C (tgt := 137) dX6_digest_68 (by decide) (fun c68 => ?_) (fun c68 => (by rw [nI_leI (by omega) (by omega)] at c68; exfalso; omega))
    rw [nI_leI (by omega) (by omega)] at c68
    exact hx _
  | succ n ih =>
    intro i v' hi
    have hlt : i < 6 := by omega
    refine jx_iload_n (pc := 65) C dX6_digest_65 rfl ?_
    refine jx_bipush (pc := 66) C dX6_digest_66 nb_6 ?_
    refine jx_icmp_ge (pc := 68) C (tgt := 137) dX6_digest_68 (by decide) (fun c68 => (by rw [nI_leI (by omega) (by omega)] at c68; exfalso; omega)) (fun c68 => ?_)
    rw [nI_leI (by omega) (by omega)] at c68
    refine jx_iconst (pc := 71) C dX6_digest_71 nc_0 ?_
    refine jx_istore (pc := 72) C dX6_digest_72 (jset_4 jc_i) (by decide) ?_
    refine lp_dg3 (h := sdwv (I (x + 1)) h i) C hS hP (o := i) (by omega) ?_ 12 0 (by omega)
    refine jx_ldc2 (pc := 105) C kk_X6_202 dX6_digest_105 ?_
    refine jx_ldc2 (pc := 108) C kk_X6_202 dX6_digest_108 ?_
    refine jx_lload_n (pc := 111) C dX6_digest_111 rfl ?_
    refine jx_lmul (pc := 112) C dX6_digest_112 ?_
    refine jx_aload_n (pc := 113) C dX6_digest_113 rfl ?_
    refine jx_iload_n (pc := 114) C dX6_digest_114 rfl ?_
    refine jx_iconst (pc := 115) C dX6_digest_115 nc_0 ?_
    refine jx_callD (pc := 116) C (go_X6_167 C hS.1 (Nat.le_of_ble_eq_true rfl) dX6_digest_116) (t_X6_ofNext hS hP hok (by omega) (by decide)) (by decide) (by decide) ⟨Nat.zero_le _, Nat.zero_le _⟩ ?_
    refine jx_i2l (pc := 119) C dX6_digest_119 ?_
    refine jx_ladd (pc := 120) C dX6_digest_120 ?_
    refine jx_lmul (pc := 121) C dX6_digest_121 ?_
    refine jx_aload_n (pc := 122) C dX6_digest_122 rfl ?_
    refine jx_iload_n (pc := 123) C dX6_digest_123 rfl ?_
    refine jx_iconst (pc := 124) C dX6_digest_124 nc_1 ?_
    refine jx_callD (pc := 125) C (go_X6_167 C hS.1 (Nat.le_of_ble_eq_true rfl) dX6_digest_125) (t_X6_ofNext hS hP hok (by omega) (by decide)) (by decide) (by decide) ⟨Nat.zero_le _, Nat.zero_le _⟩ ?_
    refine jx_i2l (pc := 128) C dX6_digest_128 ?_
    refine jx_ladd (pc := 129) C dX6_digest_129 ?_
    refine jx_lstore_n (pc := 130) C dX6_digest_130 (jsetw_1 jc_r) (by decide) ?_
    refine jx_iincN (pc := 131) C dX6_digest_131 rfl (jset_3 jc_n) (by decide) ?_
    refine jx_goto (pc := 134) C (tgt := 65) dX6_digest_134 (by decide) ?_
    exact ih (i + 1) _ (by omega)

set_option maxHeartbeats 4000000 in
theorem lp_dg9 {p : Program} {l : Launch} {e : Env} {s : State} {m : MethodId} {args : Array Value} {below : List Frame} {meth : Method} {c : Code} {D : va_G} {cA : Nat → ClassId} {N0 : Nat} {Sh : jS} {I : jI} {P : jP} {L : jL} {Qf : State → Prop} (C : jC p (jRm 8 0 0) s m args meth c D cA N0 cX6_digest 5 RX6 8) {x : Nat} (hS : mS Sh x) (hP : mP P x) {f : sF} (hok : sOK f) {h : Int64} (hx : ∀ I1 v', I1 (x + 1) = f → mTh I x I1 → jJ p l e (jRm 8 0 0) s m args below meth c D cA N0 5 Qf (fun _ => True) Sh I1 P L 0 0 286 [some (.ref x), some (.long (sdor f h (smany f))), none, some (.int (nI (smany f))), v'] []) : ∀ n i I1 v', I1 (x + 1) = f → mTh I x I1 → i + n = smany f → jJ p l e (jRm 8 0 0) s m args below meth c D cA N0 5 Qf (fun _ => True) Sh I1 P L 0 0 169 [some (.ref x), some (.long (sdor f h (i))), none, some (.int (nI (i))), v'] [] := by
  have hmm := hok.2.1
  intro n
  induction n with
  | zero =>
    intro i I1 v' e1 h1 hi
    obtain rfl : i = smany f := by omega
    refine jx_iload_n (pc := 169) C dX6_digest_169 rfl ?_
    refine jx_aload_n (pc := 170) C dX6_digest_170 rfl ?_
    refine jx_getP (pc := 171) C kf_X6_7 rfl hS.1 hP.1 dX6_digest_171 ?_
    refine jx_iconst (pc := 174) C dX6_digest_174 nc_5 ?_
    refine jx_ialdv (pc := 175) C hS.2.1 (by omega) (by decide) ((congrFun e1 5).trans hok.1) dX6_digest_175 ?_
    refine jx_icmp_ge (pc := 176) C (tgt := 286) dX6_digest_176 (by decide) (fun c176 => ?_) (fun c176 => (by rw [nI_leI (by omega) (by omega)] at c176; exfalso; omega))
    rw [nI_leI (by omega) (by omega)] at c176
    exact hx _ _ e1 h1
  | succ n ih =>
    intro i I1 v' e1 h1 hi
    have hlt : i < smany f := by omega
    refine jx_iload_n (pc := 169) C dX6_digest_169 rfl ?_
    refine jx_aload_n (pc := 170) C dX6_digest_170 rfl ?_
    refine jx_getP (pc := 171) C kf_X6_7 rfl hS.1 hP.1 dX6_digest_171 ?_
    refine jx_iconst (pc := 174) C dX6_digest_174 nc_5 ?_
    refine jx_ialdv (pc := 175) C hS.2.1 (by omega) (by decide) ((congrFun e1 5).trans hok.1) dX6_digest_175 ?_
    refine jx_icmp_ge (pc := 176) C (tgt := 286) dX6_digest_176 (by decide) (fun c176 => (by rw [nI_leI (by omega) (by omega)] at c176; exfalso; omega)) (fun c176 => ?_)
    rw [nI_leI (by omega) (by omega)] at c176
    refine jx_iconst (pc := 179) C dX6_digest_179 nc_0 ?_
    refine jx_istore (pc := 180) C dX6_digest_180 (jset_4 jc_i) (by decide) ?_
    refine lp_dg5 (I := I1) (h := sdor f h i) C hS hP (o := i) (by omega) ?_ 9 0 (by omega)
    rw [e1]
    refine jx_iconst (pc := 210) C dX6_digest_210 nc_0 ?_
    refine jx_istore (pc := 211) C dX6_digest_211 (jset_4 jc_i) (by decide) ?_
    refine lp_dg6 (I := I1) (h := smixN (sdor f h i) (fun k => sofOrder f i k) 9) C hS hP (o := i) (by omega) ?_ 6 0 (by omega)
    rw [e1]
    refine jx_ldc2 (pc := 247) C kk_X6_202 dX6_digest_247 ?_
    refine jx_ldc2 (pc := 250) C kk_X6_202 dX6_digest_250 ?_
    refine jx_lload_n (pc := 253) C dX6_digest_253 rfl ?_
    refine jx_lmul (pc := 254) C dX6_digest_254 ?_
    refine jx_aload_n (pc := 255) C dX6_digest_255 rfl ?_
    refine jx_aload_n (pc := 256) C dX6_digest_256 rfl ?_
    refine jx_getP (pc := 257) C kf_X6_7 rfl hS.1 hP.1 dX6_digest_257 ?_
    refine jx_iload_n (pc := 260) C dX6_digest_260 rfl ?_
    refine jx_iconst (pc := 261) C dX6_digest_261 nc_0 ?_
    refine jx_callD (pc := 262) C (go_X6_43 C  (Nat.le_of_ble_eq_true rfl) dX6_digest_262) (t_X6_by hS.2.1 (by omega)) (by decide) (by decide) ⟨Nat.zero_le _, Nat.zero_le _⟩ ?_
    refine jx_calli (pc := 265) C (go_X6_187 C hS.1 (Nat.le_of_ble_eq_true rfl) dX6_digest_265) (t_X6_behind hS hP (by rw [e1]; exact hok)) (by decide) (by decide) ⟨Nat.zero_le _, Nat.zero_le _⟩ (fun r265 I265 P265 L265 q265 => ?_)
    obtain ⟨hr265, hth265, rfl, rfl⟩ := q265
    rw [e1] at hr265
    rw [hr265]
    have e2 : I265 (x + 1) = f := (hth265 _ (by omega) (by omega)).trans e1
    refine jx_i2l (pc := 268) C dX6_digest_268 ?_
    refine jx_ladd (pc := 269) C dX6_digest_269 ?_
    refine jx_lmul (pc := 270) C dX6_digest_270 ?_
    refine jx_aload_n (pc := 271) C dX6_digest_271 rfl ?_
    refine jx_iload_n (pc := 272) C dX6_digest_272 rfl ?_
    refine jx_iconst (pc := 273) C dX6_digest_273 nc_0 ?_
    refine jx_calli (pc := 274) C (go_X6_193 C hS.1 (Nat.le_of_ble_eq_true rfl) dX6_digest_274) (t_X6_due hS hP (by rw [e2]; exact hok) (by omega) (by decide)) (by decide) (by decide) ⟨Nat.zero_le _, Nat.zero_le _⟩ (fun r274 I274 P274 L274 q274 => ?_)
    obtain ⟨hr274, hth274, rfl, rfl⟩ := q274
    rw [e2] at hr274
    subst hr274
    refine jx_i2l (pc := 277) C dX6_digest_277 ?_
    refine jx_ladd (pc := 278) C dX6_digest_278 ?_
    refine jx_lstore_n (pc := 279) C dX6_digest_279 (jsetw_1 jc_r) (by decide) ?_
    refine jx_iincN (pc := 280) C dX6_digest_280 rfl (jset_3 jc_n) (by decide) ?_
    refine jx_goto (pc := 283) C (tgt := 169) dX6_digest_283 (by decide) ?_
    have hs : sdor f h (i + 1) = (31 : Int64) * ((31 : Int64) * smixN (smixN (sdor f h i) (fun k => sofOrder f i k) 9) (fun k => f (90 + 12 * i + (6 + k))) 6 + (sbehind f (f (90 + 12 * i + 0))).toInt64) + (sdueN f i 0).toInt64 := smix_2
    have h6 := ih (i + 1) I274 (some (.int (nI 6))) ((hth274 _ (by omega) (by omega)).trans ((hth265 _ (by omega) (by omega)).trans e1)) ((h1.tr hth265).tr hth274) (by omega)
    rw [hs] at h6
    exact h6

set_option maxHeartbeats 4000000 in
theorem lp_dg10 {p : Program} {l : Launch} {e : Env} {s : State} {m : MethodId} {args : Array Value} {below : List Frame} {meth : Method} {c : Code} {D : va_G} {cA : Nat → ClassId} {N0 : Nat} {Sh : jS} {I : jI} {P : jP} {L : jL} {Qf : State → Prop} (C : jC p (jRm 8 0 0) s m args meth c D cA N0 cX6_digest 5 RX6 8) {x : Nat} (hS : mS Sh x) (hP : mP P x) {f : sF} (hok : sOK f) {h : Int64} {v' : Option Value} (hx : ∀ I1, I1 (x + 1) = f → mTh I x I1 → jJ p l e (jRm 8 0 0) s m args below meth c D cA N0 5 Qf (fun _ => True) Sh I1 P L 0 0 314 [some (.ref x), some (.long (smixN h (fun k => sbyH f 20 k) (5))), none, some (.int (nI (5))), v'] []) : ∀ n i I1, I1 (x + 1) = f → mTh I x I1 → i + n = 5 → jJ p l e (jRm 8 0 0) s m args below meth c D cA N0 5 Qf (fun _ => True) Sh I1 P L 0 0 288 [some (.ref x), some (.long (smixN h (fun k => sbyH f 20 k) (i))), none, some (.int (nI (i))), v'] [] := by
  intro n
  induction n with
  | zero =>
    intro i I1 e1 h1 hi
    obtain rfl : i = 5 := by omega
    refine jx_iload_n (pc := 288) C dX6_digest_288 rfl ?_
    refine jx_iconst (pc := 289) C dX6_digest_289 nc_5 ?_
    refine jx_icmp_ge (pc := 290) C (tgt := 314) dX6_digest_290 (by decide) (fun c290 => ?_) (fun c290 => (by rw [nI_leI (by omega) (by omega)] at c290; exfalso; omega))
    rw [nI_leI (by omega) (by omega)] at c290
    exact hx _ e1 h1
  | succ n ih =>
    intro i I1 e1 h1 hi
    have hlt : i < 5 := by omega
    refine jx_iload_n (pc := 288) C dX6_digest_288 rfl ?_
    refine jx_iconst (pc := 289) C dX6_digest_289 nc_5 ?_
    refine jx_icmp_ge (pc := 290) C (tgt := 314) dX6_digest_290 (by decide) (fun c290 => (by rw [nI_leI (by omega) (by omega)] at c290; exfalso; omega)) (fun c290 => ?_)
    rw [nI_leI (by omega) (by omega)] at c290
    refine jx_ldc2 (pc := 293) C kk_X6_202 dX6_digest_293 ?_
    refine jx_lload_n (pc := 296) C dX6_digest_296 rfl ?_
    refine jx_lmul (pc := 297) C dX6_digest_297 ?_
    refine jx_aload_n (pc := 298) C dX6_digest_298 rfl ?_
    refine jx_bipush (pc := 299) C dX6_digest_299 nb_20 ?_
    refine jx_iload_n (pc := 301) C dX6_digest_301 rfl ?_
    refine jx_calli (pc := 302) C (go_X6_184 C hS.1 (Nat.le_of_ble_eq_true rfl) dX6_digest_302) (t_X6_byHours hS hP (by rw [e1]; exact hok) (by decide) (by omega)) (by decide) (by decide) ⟨Nat.zero_le _, Nat.zero_le _⟩ (fun r302 I302 P302 L302 q302 => ?_)
    obtain ⟨hr302, hth302, rfl, rfl⟩ := q302
    rw [e1] at hr302
    subst hr302
    refine jx_i2l (pc := 305) C dX6_digest_305 ?_
    refine jx_ladd (pc := 306) C dX6_digest_306 ?_
    refine jx_lstore_n (pc := 307) C dX6_digest_307 (jsetw_1 jc_r) (by decide) ?_
    refine jx_iincN (pc := 308) C dX6_digest_308 rfl (jset_3 jc_n) (by decide) ?_
    refine jx_goto (pc := 311) C (tgt := 288) dX6_digest_311 (by decide) ?_
    exact ih (i + 1) I302 ((hth302 _ (by omega) (by omega)).trans e1) (h1.tr hth302) (by omega)

