/-! THE LAW'S SMALL METHODS -/
theorem kk_L_7 : Cond.constant RL 7 (2147483647 : Int32) ∈ jWS := (jWS_in 321 (by decide +kernel) rfl)
theorem kk_L_8 : Cond.constant RL 8 (40503 : Int32) ∈ jWS := (jWS_in 325 (by decide +kernel) rfl)
/-- what a cell of the script says, below n -/
def lowN (v : Int32) (n : Nat) : Nat := sW (v &&& 2147483647) % n
theorem lowN_lt {v : Int32} {n : Nat} (h : 0 < n) : lowN v n < n := Nat.mod_lt _ h
theorem lowN_e {v : Int32} {n : Nat} (h0 : 0 < n) (h1 : n < 2 ^ 31) : (v &&& 2147483647) - (v &&& 2147483647) / nI n * nI n = nI (lowN v n) := by
  obtain ⟨j, hj, ej⟩ := pk_andE v (m := 2147483647) 31 (by decide)
  unfold lowN
  rw [ej, sW_N hj, pk_rem hj h0 h1]
set_option maxHeartbeats 4000000 in
theorem b_L_low {p : Program} {l : Launch} {e : Env} {s : State} {m : MethodId} {args : Array Value} {below : List Frame} {meth : Method} {c : Code} {D : va_G} {cA : Nat → ClassId} {N0 : Nat} {Sh : jS} {I : jI} {P : jP} {L : jL} (C : jC p (jRm 0 0 0) s m args meth c D cA N0 cL_low 2 RL 0) (hr : meth.sig.returnType = (some .int)) {v : Int32} {nn : Nat} (h0 : 0 < nn) (h1 : nn < 2 ^ 31) : jJ p l e (jRm 0 0 0) s m args below meth c D cA N0 2 (MQ below (jQn D cA N0 Sh (jD (some (.int (nI (lowN v nn)))) I P L)) args s 0 0 (fun q => N0 ≤ q)) (fun _ => True) Sh I P L 0 0 0 [some (.int v), some (.int (nI nn))] [] := by
  refine jx_iload_n (pc := 0) C dL_low_0 rfl ?_
  refine jx_ldc (pc := 1) C kk_L_7 dL_low_1 ?_
  refine jx_iand (pc := 3) C dL_low_3 ?_
  refine jx_iload_n (pc := 4) C dL_low_4 rfl ?_
  refine jx_irem (pc := 5) C dL_low_5 (nI_ne0 h0 h1) ?_
  exact jn_iret (pc := 6) C hr (jD_i (lowN_e h0 h1)) dL_low_6
theorem t_L_low {l : Launch} {D : va_G} {cA : Nat → ClassId} {N0 : Nat} {Sh : jS} {I : jI} {P : jP} {L : jL} {v : Int32} {nn : Nat} (h0 : 0 < nn) (h1 : nn < 2 ^ 31) : jN l D cA N0 0 yL_low cL_low 2 (some .int) [.int v, .int (nI nn)] Sh I P L (jD (some (.int (nI (lowN v nn)))) I P L) := jN_of (by decide) (Nat.le_of_ble_eq_true rfl) (fun _ _ _ _ _ _ _ _ C hr => b_L_low C hr h0 h1)
set_option maxHeartbeats 4000000 in
theorem b_L_cell {p : Program} {l : Launch} {e : Env} {s : State} {m : MethodId} {args : Array Value} {below : List Frame} {meth : Method} {c : Code} {D : va_G} {cA : Nat → ClassId} {N0 : Nat} {Sh : jS} {I : jI} {P : jP} {L : jL} (C : jC p (jRm 0 0 0) s m args meth c D cA N0 cL_cell 2 RL 0) {b Ls : Nat} {xs : Nat → Int32} (hE : jEn b Ls xs N0 s) (hr : meth.sig.returnType = (some .int)) {i : Nat} (hi : i < Ls) (hL : Ls < 2 ^ 31) : jJ p l e (jRm 0 0 0) s m args below meth c D cA N0 2 (MQ below (jQn D cA N0 Sh (jD (some (.int (xs i))) I P L)) args s 0 0 (fun q => N0 ≤ q)) (fun _ => True) Sh I P L 0 0 0 [some (.ref b), some (.int (nI i))] [] := by
  refine jx_iload_n (pc := 0) C dL_cell_0 rfl ?_
  refine jx_aload_n (pc := 1) C dL_cell_1 rfl ?_
  refine jx_slen (pc := 2) C hE.2.1 hE.2.2.1 hE.2.2.2 dL_cell_2 ?_
  refine jx_icmp_ge (pc := 3) C (tgt := 12) dL_cell_3 (by decide) (fun c3 => (by exfalso; rw [nI_leI (by omega) (by omega)] at c3; omega)) (fun c3 => ?_)
  refine jx_aload_n (pc := 6) C dL_cell_6 rfl ?_
  refine jx_iload_n (pc := 7) C dL_cell_7 rfl ?_
  refine jx_sld (pc := 8) C hE.2.1 hE.2.2.1 hE.2.2.2 hi hL dL_cell_8 ?_
  refine jx_goto (pc := 9) C (tgt := 20) dL_cell_9 (by decide) ?_
  exact jn_iret (pc := 20) C hr (jD_r) dL_cell_20
theorem t_L_cell {l : Launch} {D : va_G} {cA : Nat → ClassId} {N0 : Nat} {Sh : jS} {I : jI} {P : jP} {L : jL} {b Ls : Nat} {xs : Nat → Int32} {i : Nat} (hi : i < Ls) (hL : Ls < 2 ^ 31) : jGM l D cA N0 0 0 0 yL_cell cL_cell 2 (some .int) [.ref b, .int (nI i)] b Ls xs Sh I P L (jD (some (.int (xs i))) I P L) := jGM_of (by decide) (Nat.le_of_ble_eq_true rfl) (fun _ _ _ _ _ _ _ _ C hE hr => b_L_cell C hE hr hi hL)
set_option maxHeartbeats 4000000 in
theorem lp_L_placeOf {p : Program} {l : Launch} {e : Env} {s : State} {m : MethodId} {args : Array Value} {below : List Frame} {meth : Method} {c : Code} {D : va_G} {cA : Nat → ClassId} {N0 : Nat} {Sh : jS} {L : jL} (C : jC p (jRm 8 21 126) s m args meth c D cA N0 cL_placeOf 4 RL 8) {b Ls : Nat} {xs : Nat → Int32} (hE : jEn b Ls xs N0 s) (hst : l.stackTraces = false) (hr : meth.sig.returnType = (some .int)) {y : Nat} (S : cS Sh y) {f : sF} {q : Nat} {pst : Nat → sF} {t : Nat} {ch : Nat → Nat} {n0 : Nat} (a : aT n0 f) (hI : sI f) {o : Nat} (ho : o < smany f) : ∀ (d i : Nat) (pl : Int32) (I : jI) (P : jP) (k n : Nat), i + d = smany f → pl = (if o < i then nI o else -1) → cR I P y f q pst t ch → k ≤ 2 * i → n ≤ 12 * i → jJ p l e (jRm 8 21 126) s m args below meth c D cA N0 4 (MQ below (jQn D cA N0 Sh (fun v I' P' L' => v = some (.int (nI o)) ∧ cR I' P' y f q pst t ch ∧ L' = L)) args s 21 126 (fun q => N0 ≤ q)) (fun _ => True) Sh I P L k n 4 [some (.ref y), some (.int (f (90 + 12 * o + 0))), some (.int pl), some (.int (nI i))] [] := by
  have hm := hI.m
  intro d
  induction d with
  | zero =>
    intro i pl I P k n hid hpl R hk hn
    refine jx_iload_n (pc := 4) C dL_placeOf_4 rfl ?_
    refine jx_aload_n (pc := 5) C dL_placeOf_5 rfl ?_
    refine jx_iconst (pc := 6) C dL_placeOf_6 nc_1 ?_
    refine aq_count (pc := 7) C hE.1 hst (by decide) S R (by decide) (Nat.le_of_ble_eq_true rfl) dL_placeOf_7 ⟨by show _ ≤ 21; omega, by show _ ≤ 126; omega⟩ (fun I P R => ?_)
    refine jx_top C (y := .int (nI (smany f))) (congrArg Value.int hI.1.1) ?_
    refine jx_icmp_ge (pc := 10) C (tgt := 35) dL_placeOf_10 (by decide) (fun c10 => ?_) (fun c10 => (by rw [nI_leI (by omega) (by omega)] at c10; exfalso; omega))
    rw [nI_leI (by omega) (by omega)] at c10
    refine jx_iload_n (pc := 35) C dL_placeOf_35 rfl ?_
    exact jx_roomy (show _ ≤ 21 by omega) (show _ ≤ 126 by omega) (jn_iret (pc := 36) C hr (⟨by rw [hpl, if_pos (by omega)], R, rfl⟩) dL_placeOf_36)
  | succ d ih =>
    intro i pl I P k n hid hpl R hk hn
    have hi : i < smany f := by omega
    refine jx_iload_n (pc := 4) C dL_placeOf_4 rfl ?_
    refine jx_aload_n (pc := 5) C dL_placeOf_5 rfl ?_
    refine jx_iconst (pc := 6) C dL_placeOf_6 nc_1 ?_
    refine aq_count (pc := 7) C hE.1 hst (by decide) S R (by decide) (Nat.le_of_ble_eq_true rfl) dL_placeOf_7 ⟨by show _ ≤ 21; omega, by show _ ≤ 126; omega⟩ (fun I P R => ?_)
    refine jx_top C (y := .int (nI (smany f))) (congrArg Value.int hI.1.1) ?_
    refine jx_icmp_ge (pc := 10) C (tgt := 35) dL_placeOf_10 (by decide) (fun c10 => (by rw [nI_leI (by omega) (by omega)] at c10; exfalso; omega)) (fun c10 => ?_)
    rw [nI_leI (by omega) (by omega)] at c10
    refine jx_aload_n (pc := 13) C dL_placeOf_13 rfl ?_
    refine jx_iload_n (pc := 14) C dL_placeOf_14 rfl ?_
    refine jx_iconst (pc := 15) C dL_placeOf_15 nc_0 ?_
    refine aq_orderOf (pc := 16) C hE.1 hst (by decide) S R hI.1.1 hm hi (by decide) (Nat.le_of_ble_eq_true rfl) dL_placeOf_16 ⟨by show _ ≤ 21; omega, by show _ ≤ 126; omega⟩ (fun I P R => ?_)
    refine jx_iload_n (pc := 19) C dL_placeOf_19 rfl ?_
    refine jx_icmp_ne (pc := 20) C (tgt := 27) dL_placeOf_20 (by decide) (fun c20 => ?_) (fun c20 => ?_)
    · have e9 : i ≠ o := fun e8 => c20 (by subst e8; rfl)
      refine jx_iload_n (pc := 27) C dL_placeOf_27 rfl ?_
      refine jx_istore_n (pc := 28) C dL_placeOf_28 (jset_2 jc_i) (by decide) ?_
      refine jx_iincN (pc := 29) C dL_placeOf_29 rfl (jset_3 jc_i) (by decide) ?_
      refine jx_goto (pc := 32) C (tgt := 4) dL_placeOf_32 (by decide) ?_
      exact ih (i + 1) _ _ _ _ _ (by omega) (by rw [hpl]; by_cases e8 : o < i; (rw [if_pos e8, if_pos (by omega)]); (rw [if_neg e8, if_neg (by omega)])) R (by omega) (by omega)
    · have e9 : i = o := fx_num a hi ho c20
      refine jx_iload_n (pc := 23) C dL_placeOf_23 rfl ?_
      refine jx_goto (pc := 24) C (tgt := 28) dL_placeOf_24 (by decide) ?_
      refine jx_istore_n (pc := 28) C dL_placeOf_28 (jset_2 jc_i) (by decide) ?_
      refine jx_iincN (pc := 29) C dL_placeOf_29 rfl (jset_3 jc_i) (by decide) ?_
      refine jx_goto (pc := 32) C (tgt := 4) dL_placeOf_32 (by decide) ?_
      exact ih (i + 1) _ _ _ _ _ (by omega) (by rw [if_pos (by omega)]; exact congrArg nI e9) R (by omega) (by omega)
set_option maxHeartbeats 4000000 in
theorem b_L_placeOf {p : Program} {l : Launch} {e : Env} {s : State} {m : MethodId} {args : Array Value} {below : List Frame} {meth : Method} {c : Code} {D : va_G} {cA : Nat → ClassId} {N0 : Nat} {Sh : jS} {I : jI} {P : jP} {L : jL} (C : jC p (jRm 8 21 126) s m args meth c D cA N0 cL_placeOf 4 RL 8) {b Ls : Nat} {xs : Nat → Int32} (hE : jEn b Ls xs N0 s) (hst : l.stackTraces = false) (hr : meth.sig.returnType = (some .int)) {y : Nat} (S : cS Sh y) {f : sF} {q : Nat} {pst : Nat → sF} {t : Nat} {ch : Nat → Nat} {n0 : Nat} (a : aT n0 f) (hI : sI f) {o : Nat} (ho : o < smany f) (R : cR I P y f q pst t ch) : jJ p l e (jRm 8 21 126) s m args below meth c D cA N0 4 (MQ below (jQn D cA N0 Sh (fun v I' P' L' => v = some (.int (nI o)) ∧ cR I' P' y f q pst t ch ∧ L' = L)) args s 21 126 (fun q => N0 ≤ q)) (fun _ => True) Sh I P L 0 0 0 [some (.ref y), some (.int (f (90 + 12 * o + 0))), none, none] [] := by
  refine jx_iconst (pc := 0) C dL_placeOf_0 nc_m1 ?_
  refine jx_istore_n (pc := 1) C dL_placeOf_1 (jset_2 jc_i) (by decide) ?_
  refine jx_iconst (pc := 2) C dL_placeOf_2 nc_0 ?_
  refine jx_istore_n (pc := 3) C dL_placeOf_3 (jset_3 jc_i) (by decide) ?_
  exact lp_L_placeOf C hE hst hr S a hI ho (smany f) 0 _ _ _ _ _ (Nat.zero_add _) (by rw [if_neg (Nat.not_lt_zero o)]) R (Nat.le_refl _) (Nat.le_refl _)
theorem t_L_placeOf {l : Launch} (hst : l.stackTraces = false) {D : va_G} {cA : Nat → ClassId} {N0 : Nat} {Sh : jS} {I : jI} {P : jP} {L : jL} {b Ls : Nat} {xs : Nat → Int32} {y : Nat} (S : cS Sh y) {f : sF} {q : Nat} {pst : Nat → sF} {t : Nat} {ch : Nat → Nat} {n0 : Nat} (a : aT n0 f) (hI : sI f) {o : Nat} (ho : o < smany f) (R : cR I P y f q pst t ch) : jGM l D cA N0 8 21 126 yL_placeOf cL_placeOf 4 (some .int) [.ref y, .int (f (90 + 12 * o + 0))] b Ls xs Sh I P L (fun v I' P' L' => v = some (.int (nI o)) ∧ cR I' P' y f q pst t ch ∧ L' = L) := jGM_of (by decide) (Nat.le_of_ble_eq_true rfl) (fun _ _ _ _ _ _ _ _ C hE hr => b_L_placeOf C hE hst hr S a hI ho R)
/-- a weaver's number, -1 the store -/
def wI : Nat → Int32 | 0 => -1 | i + 1 => nI i
theorem wI_s (i : Nat) : wI i + Int32.ofInt 1 = wI (i + 1) := by
  cases i with
  | zero => decide
  | succ i => show nI i + nI 1 = nI (i + 1); exact nI_add i 1
theorem wI_lt {i : Nat} (h : i < 7) : ¬ nI 6 ≤ wI i := by
  rw [i32_le]
  cases i with
  | zero => decide
  | succ i =>
    show ¬ (nI 6).toInt ≤ (nI i).toInt
    rw [nI_toInt (by decide), nI_toInt (by omega)]
    omega
theorem yS_s {f : sF} {j k : Nat} (h : yP j = k) : yS f j + f k = yS f (j + 1) := by subst h; rfl
set_option maxHeartbeats 4000000 in
theorem lp_L_yarns1 {p : Program} {l : Launch} {e : Env} {s : State} {m : MethodId} {args : Array Value} {below : List Frame} {meth : Method} {c : Code} {D : va_G} {cA : Nat → ClassId} {N0 : Nat} {Sh : jS} {L : jL} {Qf : State → Prop} (C : jC p (jRm 8 28 168) s m args meth c D cA N0 cL_yarns 4 RL 8) {b Ls : Nat} {xs : Nat → Int32} (hE : jEn b Ls xs N0 s) (hst : l.stackTraces = false) {y : Nat} (S : cS Sh y) {f : sF} {q : Nat} {pst : Nat → sF} {t : Nat} {ch : Nat → Nat} {j : Nat} (hj : j < 4) (hend : ∀ (I : jI) (P : jP) (k n : Nat), cR I P y f q pst t ch → k ≤ 7 * (j + 1) → n ≤ 42 * (j + 1) → jJ p l e (jRm 8 28 168) s m args below meth c D cA N0 4 Qf (fun _ => True) Sh I P L k n 32 [some (.ref y), some (.int (yS f (7 * j + 7))), some (.int (nI j)), some (.int (wI 7))] []) : ∀ (d i : Nat) (I : jI) (P : jP) (k n : Nat), i + d = 7 → cR I P y f q pst t ch → k ≤ 7 * j + i → n ≤ 42 * j + 6 * i → jJ p l e (jRm 8 28 168) s m args below meth c D cA N0 4 Qf (fun _ => True) Sh I P L k n 11 [some (.ref y), some (.int (yS f (7 * j + i))), some (.int (nI j)), some (.int (wI i))] [] := by
  intro d
  induction d with
  | zero =>
    intro i I P k n hid R hk hn
    obtain rfl : i = 7 := hid
    refine jx_iload_n (pc := 11) C dL_yarns_11 rfl ?_
    refine jx_bipush (pc := 12) C dL_yarns_12 nb_6 ?_
    refine jx_icmp_ge (pc := 14) C (tgt := 32) dL_yarns_14 (by decide) (fun c14 => ?_) (fun c14 => (by exfalso; exact c14 (by decide)))
    exact hend _ _ _ _ R (by omega) (by omega)
  | succ d ih =>
    intro i I P k n hid R hk hn
    cases i with
    | zero =>
      refine jx_iload_n (pc := 11) C dL_yarns_11 rfl ?_
      refine jx_bipush (pc := 12) C dL_yarns_12 nb_6 ?_
      refine jx_icmp_ge (pc := 14) C (tgt := 32) dL_yarns_14 (by decide) (fun c14 => (by exfalso; exact wI_lt (by omega) c14)) (fun c14 => ?_)
      refine jx_iload_n (pc := 17) C dL_yarns_17 rfl ?_
      refine jx_aload_n (pc := 18) C dL_yarns_18 rfl ?_
      refine jx_iload_n (pc := 19) C dL_yarns_19 rfl ?_
      refine jx_iload_n (pc := 20) C dL_yarns_20 rfl ?_
      refine aq_stock (pc := 21) C hE.1 hst (by decide) S R hj (Nat.le_of_ble_eq_true rfl) dL_yarns_21 ⟨by show _ ≤ 28; omega, by show _ ≤ 168; omega⟩ (fun I P R => ?_)
      refine jx_iadd (pc := 24) C dL_yarns_24 ?_
      refine jx_top C (y := .int (yS f (7 * j + (0 + 1)))) (congrArg Value.int (yS_s (yP_store hj))) ?_
      refine jx_istore_n (pc := 25) C dL_yarns_25 (jset_1 jc_r) (by decide) ?_
      refine jx_iinc (pc := 26) (v := wI (0 + 1)) C dL_yarns_26 rfl (wI_s 0) (jset_3 jc_i) (by decide) ?_
      refine jx_goto (pc := 29) C (tgt := 11) dL_yarns_29 (by decide) ?_
      exact ih (0 + 1) _ _ _ _ (by omega) R (by omega) (by omega)
    | succ i =>
      refine jx_iload_n (pc := 11) C dL_yarns_11 rfl ?_
      refine jx_bipush (pc := 12) C dL_yarns_12 nb_6 ?_
      refine jx_icmp_ge (pc := 14) C (tgt := 32) dL_yarns_14 (by decide) (fun c14 => (by exfalso; exact wI_lt (by omega) c14)) (fun c14 => ?_)
      refine jx_iload_n (pc := 17) C dL_yarns_17 rfl ?_
      refine jx_aload_n (pc := 18) C dL_yarns_18 rfl ?_
      refine jx_iload_n (pc := 19) C dL_yarns_19 rfl ?_
      refine jx_iload_n (pc := 20) C dL_yarns_20 rfl ?_
      refine aq_share (pc := 21) C hE.1 hst (by decide) S R (by omega) hj (Nat.le_of_ble_eq_true rfl) dL_yarns_21 ⟨by show _ ≤ 28; omega, by show _ ≤ 168; omega⟩ (fun I P R => ?_)
      refine jx_iadd (pc := 24) C dL_yarns_24 ?_
      refine jx_top C (y := .int (yS f (7 * j + (i + 1 + 1)))) (congrArg Value.int (yS_s (yP_share (by omega) hj))) ?_
      refine jx_istore_n (pc := 25) C dL_yarns_25 (jset_1 jc_r) (by decide) ?_
      refine jx_iinc (pc := 26) (v := wI (i + 1 + 1)) C dL_yarns_26 rfl (wI_s (i + 1)) (jset_3 jc_i) (by decide) ?_
      refine jx_goto (pc := 29) C (tgt := 11) dL_yarns_29 (by decide) ?_
      exact ih (i + 1 + 1) _ _ _ _ (by omega) R (by omega) (by omega)
set_option maxHeartbeats 4000000 in
theorem lp_L_yarns {p : Program} {l : Launch} {e : Env} {s : State} {m : MethodId} {args : Array Value} {below : List Frame} {meth : Method} {c : Code} {D : va_G} {cA : Nat → ClassId} {N0 : Nat} {Sh : jS} {L : jL} (C : jC p (jRm 8 28 168) s m args meth c D cA N0 cL_yarns 4 RL 8) {b Ls : Nat} {xs : Nat → Int32} (hE : jEn b Ls xs N0 s) (hst : l.stackTraces = false) (hr : meth.sig.returnType = (some .int)) {y : Nat} (S : cS Sh y) {f : sF} {q : Nat} {pst : Nat → sF} {t : Nat} {ch : Nat → Nat} : ∀ (d j : Nat) (l3 : Option Value) (I : jI) (P : jP) (k n : Nat), j + d = 4 → cR I P y f q pst t ch → k ≤ 7 * j → n ≤ 42 * j → jJ p l e (jRm 8 28 168) s m args below meth c D cA N0 4 (MQ below (jQn D cA N0 Sh (fun v I' P' L' => v = some (.int (yS f 28)) ∧ cR I' P' y f q pst t ch ∧ L' = L)) args s 28 168 (fun q => N0 ≤ q)) (fun _ => True) Sh I P L k n 4 [some (.ref y), some (.int (yS f (7 * j))), some (.int (nI j)), l3] [] := by
  intro d
  induction d with
  | zero =>
    intro j l3 I P k n hid R hk hn
    obtain rfl : j = 4 := hid
    refine jx_iload_n (pc := 4) C dL_yarns_4 rfl ?_
    refine jx_iconst (pc := 5) C dL_yarns_5 nc_4 ?_
    refine jx_icmp_ge (pc := 6) C (tgt := 38) dL_yarns_6 (by decide) (fun c6 => ?_) (fun c6 => (by rw [nI_leI (by omega) (by omega)] at c6; exfalso; omega))
    rw [nI_leI (by omega) (by omega)] at c6
    refine jx_iload_n (pc := 38) C dL_yarns_38 rfl ?_
    exact jx_roomy (show _ ≤ 28 by omega) (show _ ≤ 168 by omega) (jn_iret (pc := 39) C hr (⟨rfl, R, rfl⟩) dL_yarns_39)
  | succ d ih =>
    intro j l3 I P k n hid R hk hn
    refine jx_iload_n (pc := 4) C dL_yarns_4 rfl ?_
    refine jx_iconst (pc := 5) C dL_yarns_5 nc_4 ?_
    refine jx_icmp_ge (pc := 6) C (tgt := 38) dL_yarns_6 (by decide) (fun c6 => (by rw [nI_leI (by omega) (by omega)] at c6; exfalso; omega)) (fun c6 => ?_)
    rw [nI_leI (by omega) (by omega)] at c6
    refine jx_iconst (pc := 9) C dL_yarns_9 nc_m1 ?_
    refine jx_istore_n (pc := 10) C dL_yarns_10 (jset_3 jc_i) (by decide) ?_
    refine lp_L_yarns1 C hE hst S (show j < 4 by omega) (fun I P k n R hk hn => ?_) 7 0 _ _ _ _ (Nat.zero_add _) R (by omega) (by omega)
    refine jx_iincN (pc := 32) C dL_yarns_32 rfl (jset_2 jc_i) (by decide) ?_
    refine jx_goto (pc := 35) C (tgt := 4) dL_yarns_35 (by decide) ?_
    exact ih (j + 1) _ _ _ _ _ (by omega) R (by omega) (by omega)
set_option maxHeartbeats 4000000 in
theorem b_L_yarns {p : Program} {l : Launch} {e : Env} {s : State} {m : MethodId} {args : Array Value} {below : List Frame} {meth : Method} {c : Code} {D : va_G} {cA : Nat → ClassId} {N0 : Nat} {Sh : jS} {I : jI} {P : jP} {L : jL} (C : jC p (jRm 8 28 168) s m args meth c D cA N0 cL_yarns 4 RL 8) {b Ls : Nat} {xs : Nat → Int32} (hE : jEn b Ls xs N0 s) (hst : l.stackTraces = false) (hr : meth.sig.returnType = (some .int)) {y : Nat} (S : cS Sh y) {f : sF} {q : Nat} {pst : Nat → sF} {t : Nat} {ch : Nat → Nat} (R : cR I P y f q pst t ch) : jJ p l e (jRm 8 28 168) s m args below meth c D cA N0 4 (MQ below (jQn D cA N0 Sh (fun v I' P' L' => v = some (.int (yS f 28)) ∧ cR I' P' y f q pst t ch ∧ L' = L)) args s 28 168 (fun q => N0 ≤ q)) (fun _ => True) Sh I P L 0 0 0 [some (.ref y), none, none, none] [] := by
  refine jx_iconst (pc := 0) C dL_yarns_0 nc_0 ?_
  refine jx_istore_n (pc := 1) C dL_yarns_1 (jset_1 jc_r) (by decide) ?_
  refine jx_iconst (pc := 2) C dL_yarns_2 nc_0 ?_
  refine jx_istore_n (pc := 3) C dL_yarns_3 (jset_2 jc_i) (by decide) ?_
  exact lp_L_yarns C hE hst hr S 4 0 _ _ _ _ _ (Nat.zero_add _) R (Nat.le_refl _) (Nat.le_refl _)
theorem t_L_yarns {l : Launch} (hst : l.stackTraces = false) {D : va_G} {cA : Nat → ClassId} {N0 : Nat} {Sh : jS} {I : jI} {P : jP} {L : jL} {b Ls : Nat} {xs : Nat → Int32} {y : Nat} (S : cS Sh y) {f : sF} {q : Nat} {pst : Nat → sF} {t : Nat} {ch : Nat → Nat} (R : cR I P y f q pst t ch) : jGM l D cA N0 8 28 168 yL_yarns cL_yarns 4 (some .int) [.ref y] b Ls xs Sh I P L (fun v I' P' L' => v = some (.int (yS f 28)) ∧ cR I' P' y f q pst t ch ∧ L' = L) := jGM_of (by decide) (Nat.le_of_ble_eq_true rfl) (fun _ _ _ _ _ _ _ _ C hE hr => b_L_yarns C hE hst hr S R)
