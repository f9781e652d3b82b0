theorem seven_n {f : sF} : ¬ FP.Core.dIsNaN (seven f) = true := by
  unfold seven
  by_cases h : (sevN f 6).2 = 0
  · rw [if_pos h]; decide +kernel
  · rw [if_neg h]; exact fl_div h
def sdg6 (f : sF) (kept : Int32) : Int64 := smixN (sdor f (smixN (sdwv f (smixN (smixN 2861 (fun k => scounted f kept k) 12) (fun k => f k) 4) 6) (fun k => f (14 + k)) 4) (smany f)) (fun k => sbyH f 20 k) 5
def sdig (f : sF) (kept typed : Int32) (t : Nat) (tx : Nat → Int32) : Int64 := smixN ((31 : Int64) * ((31 : Int64) * ((31 : Int64) * sdg6 f kept + (sbest f 12).toInt64) + (seven f).toInt64) + typed.toInt64) tx t
set_option maxHeartbeats 4000000 in
theorem lp_digest {p : Program} {l : Launch} {e : Env} {s : State} {m : MethodId} {args : Array Value} {below : List Frame} {meth : Method} {c : Code} {D : va_G} {cA : Nat → ClassId} {N0 : Nat} {Sh : jS} {I : jI} {P : jP} {L : jL} (C : jC p (jRm 8 0 0) s m args meth c D cA N0 cX6_digest 5 RX6 8) (hr : meth.sig.returnType = some .long) {x : Nat} (hS : mS Sh x) (hP : mP P x) {f0 : sF} (hf0 : I (x + 1) = f0) (hok : sOK f0) {t : Nat} (h5 : I x 5 = nI t) (ht : t ≤ 60) : jJ p l e (jRm 8 0 0) s m args below meth c D cA N0 5 (MQ below (jQn D cA N0 Sh (jNl (fun v I' P' L' => v = sdig f0 (I x 3) (I x 5) t (I (x + 4)) ∧ mTh I x I' ∧ P' = P ∧ L' = L))) args s 0 0 (fun q => N0 ≤ q)) (fun _ => True) Sh I P L 0 0 5 [some (.ref x), none, none, none, none] [] := by
  refine jx_ldc2 (pc := 5) C kk_X6_200 dX6_digest_5 ?_
  refine jx_lstore_n (pc := 8) C dX6_digest_8 (jsetw_1 jc_r) (by decide) ?_
  refine jx_iconst (pc := 9) C dX6_digest_9 nc_0 ?_
  refine jx_istore_n (pc := 10) C dX6_digest_10 (jset_3 jc_n) (by decide) ?_
  refine lp_dg1 (h := 2861) C hS hP ?_ 12 0 (by omega)
  rw [hf0]
  generalize e1 : smixN 2861 (fun k => scounted f0 (I x 3) k) 12 = h1
  refine jx_iconst (pc := 36) C dX6_digest_36 nc_0 ?_
  refine jx_istore_n (pc := 37) C dX6_digest_37 (jset_3 jc_n) (by decide) ?_
  refine lp_dg2 (h := h1) C hS hP ?_ 4 0 (by omega)
  rw [hf0]
  generalize e2 : smixN h1 (fun k => f0 k) 4 = h2
  refine jx_iconst (pc := 63) C dX6_digest_63 nc_0 ?_
  refine jx_istore_n (pc := 64) C dX6_digest_64 (jset_3 jc_n) (by decide) ?_
  refine lp_dg8 (h := h2) C hS hP (by rw [hf0]; exact hok) (fun v' => ?_) 6 0 _ (by omega)
  rw [hf0]
  refine jx_iconst (pc := 137) C dX6_digest_137 nc_0 ?_
  refine jx_istore_n (pc := 138) C dX6_digest_138 (jset_3 jc_n) (by decide) ?_
  generalize e3 : sdwv f0 h2 6 = h3b
  refine lp_dg4 (h := h3b) C hS hP ?_ 4 0 (by omega)
  rw [hf0]
  generalize e4 : smixN h3b (fun k => f0 (14 + k)) 4 = h4
  refine jx_iconst (pc := 167) C dX6_digest_167 nc_0 ?_
  refine jx_istore_n (pc := 168) C dX6_digest_168 (jset_3 jc_n) (by decide) ?_
  refine lp_dg9 (I := I) (f := f0) (h := h4) C hS hP hok (fun I1 v' e1b h1b => ?_) (smany f0) 0 I _ hf0 (fun _ _ _ => rfl) (by omega)
  refine jx_iconst (pc := 286) C dX6_digest_286 nc_0 ?_
  refine jx_istore_n (pc := 287) C dX6_digest_287 (jset_3 jc_n) (by decide) ?_
  generalize e5 : sdor f0 h4 (smany f0) = h5b
  refine lp_dg10 (I := I) (f := f0) (h := h5b) C hS hP hok (fun I2 e2b h2b => ?_) 5 0 I1 e1b h1b (by omega)
  generalize e6 : smixN h5b (fun k => sbyH f0 20 k) 5 = h6
  refine jx_ldc2 (pc := 314) C kk_X6_202 dX6_digest_314 ?_
  refine jx_lload_n (pc := 317) C dX6_digest_317 rfl ?_
  refine jx_lmul (pc := 318) C dX6_digest_318 ?_
  refine jx_aload_n (pc := 319) C dX6_digest_319 rfl ?_
  refine jx_bipush (pc := 320) C dX6_digest_320 nb_12 ?_
  refine jx_calli (pc := 322) C (go_X6_190 C hS.1 (Nat.le_of_ble_eq_true rfl) dX6_digest_322) (t_X6_best hS hP (by rw [e2b]; exact hok) (by decide)) (by decide) (by decide) ⟨Nat.zero_le _, Nat.zero_le _⟩ (fun r322 I322 P322 L322 q322 => ?_)
  obtain ⟨hr322, hth322, rfl, rfl⟩ := q322
  rw [e2b] at hr322
  rw [hr322]
  have e3b : I322 (x + 1) = f0 := (hth322 _ (by omega) (by omega)).trans e2b
  have h3 : mTh I x I322 := h2b.tr hth322
  have h50 : I322 x 5 = I x 5 := congrFun (h3 x (by omega) (by omega)) 5
  have h5t : I322 x 5 = nI t := h50.trans h5
  have h4t : I322 (x + 4) = I (x + 4) := h3 _ (by omega) (by omega)
  refine jx_i2l (pc := 325) C dX6_digest_325 ?_
  refine jx_ladd (pc := 326) C dX6_digest_326 ?_
  refine jx_lstore_n (pc := 327) C dX6_digest_327 (jsetw_1 jc_r) (by decide) ?_
  refine jx_ldc2 (pc := 328) C kk_X6_202 dX6_digest_328 ?_
  refine jx_ldc2 (pc := 331) C kk_X6_202 dX6_digest_331 ?_
  refine jx_lload_n (pc := 334) C dX6_digest_334 rfl ?_
  refine jx_lmul (pc := 335) C dX6_digest_335 ?_
  refine jx_aload_n (pc := 336) C dX6_digest_336 rfl ?_
  refine jx_callD (pc := 337) C (go_X6_196 C hS.1 (Nat.le_of_ble_eq_true rfl) dX6_digest_337) (t_X6_even hS hP) (by decide) (by decide) ⟨Nat.zero_le _, Nat.zero_le _⟩ ?_
  refine jx_callD (pc := 340) C (go_X6_204 C  (Nat.le_of_ble_eq_true rfl) dX6_digest_340) (t_Jxe99ae_doubleToLongBits_ccdee seven_n) (by decide) (by decide) ⟨Nat.zero_le _, Nat.zero_le _⟩ ?_
  rw [e3b]
  refine jx_ladd (pc := 343) C dX6_digest_343 ?_
  refine jx_lmul (pc := 344) C dX6_digest_344 ?_
  refine jx_aload_n (pc := 345) C dX6_digest_345 rfl ?_
  refine jx_getIv (pc := 346) C kf_X6_124 rfl hS.1 h50 dX6_digest_346 ?_
  refine jx_i2l (pc := 349) C dX6_digest_349 ?_
  refine jx_ladd (pc := 350) C dX6_digest_350 ?_
  refine jx_lstore_n (pc := 351) C dX6_digest_351 (jsetw_1 jc_r) (by decide) ?_
  refine jx_iconst (pc := 352) C dX6_digest_352 nc_0 ?_
  refine jx_istore_n (pc := 353) C dX6_digest_353 (jset_3 jc_n) (by decide) ?_
  generalize e7 : (31 : Int64) * ((31 : Int64) * ((31 : Int64) * h6 + (sbest f0 12).toInt64) + (seven f0).toInt64) + (I x 5).toInt64 = h7
  refine lp_dg7 (I := I322) (h := h7) C hS hP h5t ht ?_ t 0 (by omega)
  rw [h4t]
  refine jx_lload_n (pc := 382) C dX6_digest_382 rfl ?_
  exact jn_lret (pc := 383) C hr (⟨_, rfl, by rw [← e7]; unfold sdig sdg6; rw [e1, e2, e3, e4, e5, e6], h3, rfl, rfl⟩) dX6_digest_383
set_option maxHeartbeats 4000000 in
theorem b_X6_digest {p : Program} {l : Launch} {e : Env} {s : State} {m : MethodId} {args : Array Value} {below : List Frame} {meth : Method} {c : Code} {D : va_G} {cA : Nat → ClassId} {N0 : Nat} {Sh : jS} {I : jI} {P : jP} {L : jL} (C : jC p (jRm 8 0 0) s m args meth c D cA N0 cX6_digest 5 RX6 8) (hr : meth.sig.returnType = (some .long)) {x : Nat} (hS : mS Sh x) (hP : mP P x) (hok : sOK (I (x + 1))) {t : Nat} (h5 : I x 5 = nI t) (ht : t ≤ 60) : jJ p l e (jRm 8 0 0) s m args below meth c D cA N0 5 (MQ below (jQn D cA N0 Sh (jNl (fun v I' P' L' => v = sdig (I (x + 1)) ((jst I x 6 (nI 0)) x 3) ((jst I x 6 (nI 0)) x 5) t ((jst I x 6 (nI 0)) (x + 4)) ∧ mTh (jst I x 6 (nI 0)) x I' ∧ P' = P ∧ L' = L))) args s 0 0 (fun q => N0 ≤ q)) (fun _ => True) Sh I P L 0 0 0 [some (.ref x), none, none, none, none] [] := by
  refine jx_aload_n (pc := 0) C dX6_digest_0 rfl ?_
  refine jx_iconst (pc := 1) C dX6_digest_1 nc_0 ?_
  refine jx_putI (pc := 2) C kf_X6_28 rfl rfl rfl rfl hS.1 dX6_digest_2 ?_
  exact lp_digest (I := (jst I x 6 (nI 0))) C hr hS hP (jst_ne (by omega)) hok ((congrFun jst_eq 5).trans ((upd_n (by decide)).trans h5)) ht
theorem t_X6_digest {l : Launch} {D : va_G} {cA : Nat → ClassId} {N0 : Nat} {Sh : jS} {I : jI} {P : jP} {L : jL} {x : Nat} (hS : mS Sh x) (hP : mP P x) (hok : sOK (I (x + 1))) {t : Nat} (h5 : I x 5 = nI t) (ht : t ≤ 60) : jN l D cA N0 8 yX6_digest cX6_digest 5 (some .long) [.ref x] Sh I P L (jNl (fun v I' P' L' => v = sdig (I (x + 1)) ((jst I x 6 (nI 0)) x 3) ((jst I x 6 (nI 0)) x 5) t ((jst I x 6 (nI 0)) (x + 4)) ∧ mTh (jst I x 6 (nI 0)) x I' ∧ P' = P ∧ L' = L)) := jN_of (by decide) (Nat.le_of_ble_eq_true rfl) (fun _ _ _ _ _ _ _ _ C hr => b_X6_digest C hr hS hP hok h5 ht)
