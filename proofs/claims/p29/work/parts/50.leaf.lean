def cpn (d s : Nat → Int32) (n : Nat) : Nat → Int32 := fun k => if k < n then s k else d k
theorem cpn_0 {d s : Nat → Int32} : cpn d s 0 = d := by funext k; exact if_neg (Nat.not_lt_zero k)
theorem cpn_s {d s : Nat → Int32} {n : Nat} : upd (cpn d s n) n (s n) = cpn d s (n + 1) := by
  funext k
  simp only [upd, cpn]
  by_cases h1 : k = n
  · subst h1; simp
  · by_cases h2 : k < n
    · simp [h1, h2, show k < n + 1 by omega]
    · simp [h1, h2, show ¬ k < n + 1 by omega]
theorem cpn_w {d s : Nat → Int32} {n k : Nat} (h : k < n) : cpn d s n k = s k := if_pos h
def smin (a b : Int32) : Int32 := if b < a then b else a
def smaxi (a b : Int32) : Int32 := if a < b then b else a
def spf (full late cost : Int32) : Int32 := if full.toInt64 * late.toInt64 * cost.toInt64 / 100 < full.toInt64 then full - (full.toInt64 * late.toInt64 * cost.toInt64 / 100).toInt32 else nI 0
theorem jx_mmin {p : Program} {l : Launch} {e : Env} {R : Room} {s : State} {m : MethodId} {args : Array Value} {below : List Frame} {meth : Method} {c : Code} {D : va_G} {cA : Nat → ClassId} {N0 : Nat} {cc : ByteArray} {nL lv : Nat} {own : String} {Sh : jS} {I : jI} {P : jP} {L : jL} {Qf : State → Prop} {Z : Nat → Prop} {k n pc idx : Nat} {ls : List (Option Value)} {st : List Value} (C : jC p R s m args meth c D cA N0 cc nL own lv) {x y : Int32} (w1 : Cond.methodLink own idx yJ9_min_7cf53 ∈ jWS) (hlv : 1 ≤ lv) (hkn : k ≤ R.cells ∧ n ≤ R.slots) (hcat : (st.map fun v => v.category).sum ≤ 8) (d : decode cc pc = .ok (.invokestatic idx, 3)) (kk : jJ p l e R s m args below meth c D cA N0 nL Qf Z Sh I P L k n (pc + 3) ls (.int (smin x y) :: st)) : jJ p l e R s m args below meth c D cA N0 nL Qf Z Sh I P L k n pc ls (.int y :: .int x :: st) :=
  fun H locs arr hW hZ hS hl => va_mmin C.1 C.2.1 (C.2.2.1.trans hl.1.symm) C.2.2.2.1 (C.2.2.2.2.1 _ w1) (C.2.2.2.2.1 _ ks_J9_min_7cf53) (C.2.2.2.2.1 _ ki_J9_min_7cf53) (C.2.2.2.2.1 _ kc_J9_min_7cf53) (Nat.le_trans hlv C.2.2.2.2.2.2.2.1) (by have h1 := C.2.2.2.2.2.2.2.2.1; omega) hkn.1 hkn.2 d (kk H locs arr hW hZ hS hl)
theorem jx_mmax {p : Program} {l : Launch} {e : Env} {R : Room} {s : State} {m : MethodId} {args : Array Value} {below : List Frame} {meth : Method} {c : Code} {D : va_G} {cA : Nat → ClassId} {N0 : Nat} {cc : ByteArray} {nL lv : Nat} {own : String} {Sh : jS} {I : jI} {P : jP} {L : jL} {Qf : State → Prop} {Z : Nat → Prop} {k n pc idx : Nat} {ls : List (Option Value)} {st : List Value} (C : jC p R s m args meth c D cA N0 cc nL own lv) {x y : Int32} (w1 : Cond.methodLink own idx yJ9_max_7cf53 ∈ jWS) (hlv : 1 ≤ lv) (hkn : k ≤ R.cells ∧ n ≤ R.slots) (hcat : (st.map fun v => v.category).sum ≤ 8) (d : decode cc pc = .ok (.invokestatic idx, 3)) (kk : jJ p l e R s m args below meth c D cA N0 nL Qf Z Sh I P L k n (pc + 3) ls (.int (smaxi x y) :: st)) : jJ p l e R s m args below meth c D cA N0 nL Qf Z Sh I P L k n pc ls (.int y :: .int x :: st) :=
  fun H locs arr hW hZ hS hl => va_mmax C.1 C.2.1 (C.2.2.1.trans hl.1.symm) C.2.2.2.1 (C.2.2.2.2.1 _ w1) (C.2.2.2.2.1 _ ks_J9_max_7cf53) (C.2.2.2.2.1 _ ki_J9_max_7cf53) (C.2.2.2.2.1 _ kc_J9_max_7cf53) (Nat.le_trans hlv C.2.2.2.2.2.2.2.1) (by have h1 := C.2.2.2.2.2.2.2.2.1; omega) hkn.1 hkn.2 d (kk H locs arr hW hZ hS hl)
set_option maxHeartbeats 4000000 in
theorem b_X4_of {p : Program} {l : Launch} {e : Env} {s : State} {m : MethodId} {args : Array Value} {below : List Frame} {meth : Method} {c : Code} {D : va_G} {cA : Nat → ClassId} {N0 : Nat} {Sh : jS} {I : jI} {P : jP} {L : jL} (C : jC p (jRm 0 0 0) s m args meth c D cA N0 cX4_of 2 RX4 0) (hr : meth.sig.returnType = (some .int)) {y g : Nat} (h1 : Sh y = some (4, 0)) (h2 : Sh g = some (10, 4)) (h3 : P y 0 = some g) {c0 : Nat} (hc : c0 < 4) : jJ p l e (jRm 0 0 0) s m args below meth c D cA N0 2 (MQ below (jQn D cA N0 Sh (jD (some (.int (I g c0))) I P L)) args s 0 0 (fun q => N0 ≤ q)) (fun _ => True) Sh I P L 0 0 0 [some (.ref y), some (.int (nI c0))] [] := by
  refine jx_iload_n (pc := 0) C dX4_of_0 rfl ?_
  refine jx_if_lt (pc := 1) C (tgt := 22) dX4_of_1 (by decide) (fun c1 => (by rw [nI_lt0 (by omega)] at c1; exfalso; omega)) (fun c1 => ?_)
  rw [nI_lt0 (by omega)] at c1
  refine jx_iload_n (pc := 4) C dX4_of_4 rfl ?_
  refine jx_aload_n (pc := 5) C dX4_of_5 rfl ?_
  refine jx_getP (pc := 6) C kf_X4_9 rfl h1 h3 dX4_of_6 ?_
  refine jx_alen10 (pc := 9) C h2 dX4_of_9 ?_
  refine jx_icmp_ge (pc := 10) C (tgt := 22) dX4_of_10 (by decide) (fun c10 => (by rw [nI_leI (by omega) (by omega)] at c10; exfalso; omega)) (fun c10 => ?_)
  rw [nI_leI (by omega) (by omega)] at c10
  refine jx_aload_n (pc := 13) C dX4_of_13 rfl ?_
  refine jx_getP (pc := 14) C kf_X4_9 rfl h1 h3 dX4_of_14 ?_
  refine jx_iload_n (pc := 17) C dX4_of_17 rfl ?_
  refine jx_iald (pc := 18) C h2 (by omega) (by decide) dX4_of_18 ?_
  refine jx_goto (pc := 19) C (tgt := 23) dX4_of_19 (by decide) ?_
  exact jn_iret (pc := 23) C hr (jD_r) dX4_of_23
theorem t_X4_of {l : Launch} {D : va_G} {cA : Nat → ClassId} {N0 : Nat} {Sh : jS} {I : jI} {P : jP} {L : jL} {y g : Nat} (h1 : Sh y = some (4, 0)) (h2 : Sh g = some (10, 4)) (h3 : P y 0 = some g) {c0 : Nat} (hc : c0 < 4) : jN l D cA N0 0 yX4_of cX4_of 2 (some .int) [.ref y, .int (nI c0)] Sh I P L (jD (some (.int (I g c0))) I P L) := jN_of (by decide) (Nat.le_of_ble_eq_true rfl) (fun _ _ _ _ _ _ _ _ C hr => b_X4_of C hr h1 h2 h3 hc)
set_option maxHeartbeats 4000000 in
theorem b_X4_add {p : Program} {l : Launch} {e : Env} {s : State} {m : MethodId} {args : Array Value} {below : List Frame} {meth : Method} {c : Code} {D : va_G} {cA : Nat → ClassId} {N0 : Nat} {Sh : jS} {I : jI} {P : jP} {L : jL} (C : jC p (jRm 0 0 0) s m args meth c D cA N0 cX4_add 3 RX4 0) (hr : meth.sig.returnType = (some .int)) {y g : Nat} (h1 : Sh y = some (4, 0)) (h2 : Sh g = some (10, 4)) (h3 : P y 0 = some g) {c0 : Nat} (hc : c0 < 4) {v : Int32} : jJ p l e (jRm 0 0 0) s m args below meth c D cA N0 3 (MQ below (jQn D cA N0 Sh (jD (some (.int (I g c0 + v))) (jst I g c0 (I g c0 + v)) P L)) args s 0 0 (fun q => N0 ≤ q)) (fun _ => True) Sh I P L 0 0 0 [some (.ref y), some (.int (nI c0)), some (.int v)] [] := by
  refine jx_iload_n (pc := 0) C dX4_add_0 rfl ?_
  refine jx_if_lt (pc := 1) C (tgt := 13) dX4_add_1 (by decide) (fun c1 => (by rw [nI_lt0 (by omega)] at c1; exfalso; omega)) (fun c1 => ?_)
  rw [nI_lt0 (by omega)] at c1
  refine jx_iload_n (pc := 4) C dX4_add_4 rfl ?_
  refine jx_aload_n (pc := 5) C dX4_add_5 rfl ?_
  refine jx_getP (pc := 6) C kf_X4_9 rfl h1 h3 dX4_add_6 ?_
  refine jx_alen10 (pc := 9) C h2 dX4_add_9 ?_
  refine jx_icmp_lt (pc := 10) C (tgt := 15) dX4_add_10 (by decide) (fun c10 => ?_) (fun c10 => (by rw [nI_ltI (by omega) (by omega)] at c10; exfalso; omega))
  rw [nI_ltI (by omega) (by omega)] at c10
  refine jx_aload_n (pc := 15) C dX4_add_15 rfl ?_
  refine jx_getP (pc := 16) C kf_X4_9 rfl h1 h3 dX4_add_16 ?_
  refine jx_iload_n (pc := 19) C dX4_add_19 rfl ?_
  refine jx_dup2_11 (pc := 20) C dX4_add_20 rfl rfl ?_
  refine jx_iald (pc := 21) C h2 (by omega) (by decide) dX4_add_21 ?_
  refine jx_iload_n (pc := 22) C dX4_add_22 rfl ?_
  refine jx_iadd (pc := 23) C dX4_add_23 ?_
  refine jx_iast (pc := 24) C h2 (by omega) (by decide) dX4_add_24 ?_
  refine jx_aload_n (pc := 25) C dX4_add_25 rfl ?_
  refine jx_getP (pc := 26) C kf_X4_9 rfl h1 h3 dX4_add_26 ?_
  refine jx_iload_n (pc := 29) C dX4_add_29 rfl ?_
  refine jx_ialdv (pc := 30) C h2 (by omega) (by decide) ((congrFun jst_eq c0).trans upd_s) dX4_add_30 ?_
  exact jn_iret (pc := 31) C hr (jD_r) dX4_add_31
theorem t_X4_add {l : Launch} {D : va_G} {cA : Nat → ClassId} {N0 : Nat} {Sh : jS} {I : jI} {P : jP} {L : jL} {y g : Nat} (h1 : Sh y = some (4, 0)) (h2 : Sh g = some (10, 4)) (h3 : P y 0 = some g) {c0 : Nat} (hc : c0 < 4) {v : Int32} : jN l D cA N0 0 yX4_add cX4_add 3 (some .int) [.ref y, .int (nI c0), .int v] Sh I P L (jD (some (.int (I g c0 + v))) (jst I g c0 (I g c0 + v)) P L) := jN_of (by decide) (Nat.le_of_ble_eq_true rfl) (fun _ _ _ _ _ _ _ _ C hr => b_X4_add C hr h1 h2 h3 hc)
set_option maxHeartbeats 4000000 in
theorem lp_X4_copyFrom {p : Program} {l : Launch} {e : Env} {s : State} {m : MethodId} {args : Array Value} {below : List Frame} {meth : Method} {c : Code} {D : va_G} {cA : Nat → ClassId} {N0 : Nat} {Sh : jS} {I : jI} {P : jP} {L : jL} {Qf : State → Prop} (C : jC p (jRm 0 0 0) s m args meth c D cA N0 cX4_copyFrom 3 RX4 0) {y g : Nat} (h1 : Sh y = some (4, 0)) (h2 : Sh g = some (10, 4)) (h3 : P y 0 = some g) {y2 g2 : Nat} (k1 : Sh y2 = some (4, 0)) (k2 : Sh g2 = some (10, 4)) (k3 : P y2 0 = some g2) (hne : g2 ≠ g) (hx : jJ p l e (jRm 0 0 0) s m args below meth c D cA N0 3 Qf (fun _ => True) Sh (va_up I g (cpn (I g) (I g2) 4)) P L 0 0 38 [some (.ref y), some (.ref y2), some (.int (nI 4))] []) : ∀ d i, i + d = 4 → jJ p l e (jRm 0 0 0) s m args below meth c D cA N0 3 Qf (fun _ => True) Sh (va_up I g (cpn (I g) (I g2) i)) P L 0 0 2 [some (.ref y), some (.ref y2), some (.int (nI i))] [] := by
  intro d
  induction d with
  | zero =>
    intro i hi
    obtain rfl : i = 4 := by omega
    refine jx_iload_n (pc := 2) C dX4_copyFrom_2 rfl ?_
    refine jx_aload_n (pc := 3) C dX4_copyFrom_3 rfl ?_
    refine jx_getP (pc := 4) C kf_X4_9 rfl h1 h3 dX4_copyFrom_4 ?_
    refine jx_alen10 (pc := 7) C h2 dX4_copyFrom_7 ?_
    refine jx_icmp_ge (pc := 8) C (tgt := 38) dX4_copyFrom_8 (by decide) (fun c8 => ?_) (fun c8 => (by rw [nI_leI (by omega) (by omega)] at c8; exfalso; omega))
    rw [nI_leI (by omega) (by omega)] at c8
    exact hx
  | succ d ih =>
    intro i hi
    refine jx_iload_n (pc := 2) C dX4_copyFrom_2 rfl ?_
    refine jx_aload_n (pc := 3) C dX4_copyFrom_3 rfl ?_
    refine jx_getP (pc := 4) C kf_X4_9 rfl h1 h3 dX4_copyFrom_4 ?_
    refine jx_alen10 (pc := 7) C h2 dX4_copyFrom_7 ?_
    refine jx_icmp_ge (pc := 8) C (tgt := 38) dX4_copyFrom_8 (by decide) (fun c8 => (by rw [nI_leI (by omega) (by omega)] at c8; exfalso; omega)) (fun c8 => ?_)
    rw [nI_leI (by omega) (by omega)] at c8
    refine jx_iload_n (pc := 11) C dX4_copyFrom_11 rfl ?_
    refine jx_aload_n (pc := 12) C dX4_copyFrom_12 rfl ?_
    refine jx_getP (pc := 13) C kf_X4_9 rfl k1 k3 dX4_copyFrom_13 ?_
    refine jx_alen10 (pc := 16) C k2 dX4_copyFrom_16 ?_
    refine jx_icmp_ge (pc := 17) C (tgt := 38) dX4_copyFrom_17 (by decide) (fun c17 => (by rw [nI_leI (by omega) (by omega)] at c17; exfalso; omega)) (fun c17 => ?_)
    rw [nI_leI (by omega) (by omega)] at c17
    refine jx_aload_n (pc := 20) C dX4_copyFrom_20 rfl ?_
    refine jx_getP (pc := 21) C kf_X4_9 rfl h1 h3 dX4_copyFrom_21 ?_
    refine jx_iload_n (pc := 24) C dX4_copyFrom_24 rfl ?_
    refine jx_aload_n (pc := 25) C dX4_copyFrom_25 rfl ?_
    refine jx_getP (pc := 26) C kf_X4_9 rfl k1 k3 dX4_copyFrom_26 ?_
    refine jx_iload_n (pc := 29) C dX4_copyFrom_29 rfl ?_
    refine jx_ialdv (pc := 30) C k2 (by omega) (by decide) (congrFun (va_up_n hne) _) dX4_copyFrom_30 ?_
    refine jx_iast (pc := 31) C h2 (by omega) (by decide) dX4_copyFrom_31 ?_
    rw [jst_up, cpn_s]
    refine jx_iincN (pc := 32) C dX4_copyFrom_32 rfl (jset_2 jc_r) (by decide) ?_
    refine jx_goto (pc := 35) C (tgt := 2) dX4_copyFrom_35 (by decide) ?_
    exact ih (i + 1) (by omega)
set_option maxHeartbeats 4000000 in
theorem b_X4_copyFrom {p : Program} {l : Launch} {e : Env} {s : State} {m : MethodId} {args : Array Value} {below : List Frame} {meth : Method} {c : Code} {D : va_G} {cA : Nat → ClassId} {N0 : Nat} {Sh : jS} {I : jI} {P : jP} {L : jL} (C : jC p (jRm 0 0 0) s m args meth c D cA N0 cX4_copyFrom 3 RX4 0) (hr : meth.sig.returnType = none) {y g : Nat} (h1 : Sh y = some (4, 0)) (h2 : Sh g = some (10, 4)) (h3 : P y 0 = some g) {y2 g2 : Nat} (k1 : Sh y2 = some (4, 0)) (k2 : Sh g2 = some (10, 4)) (k3 : P y2 0 = some g2) (hne : g2 ≠ g) : jJ p l e (jRm 0 0 0) s m args below meth c D cA N0 3 (MQ below (jQn D cA N0 Sh (jD none (va_up I g (cpn (I g) (I g2) 4)) P L)) args s 0 0 (fun q => N0 ≤ q)) (fun _ => True) Sh I P L 0 0 0 [some (.ref y), some (.ref y2), none] [] := by
  refine jx_iconst (pc := 0) C dX4_copyFrom_0 nc_0 ?_
  refine jx_istore_n (pc := 1) C dX4_copyFrom_1 (jset_2 jc_r) (by decide) ?_
  refine jx_mem (I' := (va_up I g (cpn (I g) (I g2) 0))) (P' := P) (by rw [cpn_0]; exact va_up_id.symm) rfl ?_
  refine lp_X4_copyFrom C h1 h2 h3 k1 k2 k3 hne ?_ 4 0 rfl
  exact jn_vret (pc := 38) C hr (jD_r) dX4_copyFrom_38
theorem t_X4_copyFrom {l : Launch} {D : va_G} {cA : Nat → ClassId} {N0 : Nat} {Sh : jS} {I : jI} {P : jP} {L : jL} {y g : Nat} (h1 : Sh y = some (4, 0)) (h2 : Sh g = some (10, 4)) (h3 : P y 0 = some g) {y2 g2 : Nat} (k1 : Sh y2 = some (4, 0)) (k2 : Sh g2 = some (10, 4)) (k3 : P y2 0 = some g2) (hne : g2 ≠ g) : jN l D cA N0 0 yX4_copyFrom cX4_copyFrom 3 none [.ref y, .ref y2] Sh I P L (jD none (va_up I g (cpn (I g) (I g2) 4)) P L) := jN_of (by decide) (Nat.le_of_ble_eq_true rfl) (fun _ _ _ _ _ _ _ _ C hr => b_X4_copyFrom C hr h1 h2 h3 k1 k2 k3 hne)
set_option maxHeartbeats 4000000 in
theorem b_X3_hasLoom {p : Program} {l : Launch} {e : Env} {s : State} {m : MethodId} {args : Array Value} {below : List Frame} {meth : Method} {c : Code} {D : va_G} {cA : Nat → ClassId} {N0 : Nat} {Sh : jS} {I : jI} {P : jP} {L : jL} (C : jC p (jRm 0 0 0) s m args meth c D cA N0 cX3_hasLoom 1 RX3 0) (hr : meth.sig.returnType = (some .boolean)) {w : Nat} (h1 : Sh w = some (3, 0)) : jJ p l e (jRm 0 0 0) s m args below meth c D cA N0 1 (MQ below (jQn D cA N0 Sh (jD (some (.int (bI (decide (0 < I w 1))))) I P L)) args s 0 0 (fun q => N0 ≤ q)) (fun _ => True) Sh I P L 0 0 0 [some (.ref w)] [] := by
  refine jx_aload_n (pc := 0) C dX3_hasLoom_0 rfl ?_
  refine jx_getI (pc := 1) C kf_X3_18 rfl h1 dX3_hasLoom_1 ?_
  refine jx_if_le (pc := 4) C (tgt := 11) dX3_hasLoom_4 (by decide) (fun c4 => ?_) (fun c4 => ?_)
  · refine jx_iconst (pc := 11) C dX3_hasLoom_11 nc_0 ?_
    exact jn_zret (pc := 12) C hr (rfl) (jD_i (by first | exact bI_dec (by assumption) | exact bI_decn (by assumption) | exact bI_dec (i32_nle.mp (by assumption)) | exact bI_decn (i32_nlt.mpr (by assumption)))) dX3_hasLoom_12
  · refine jx_iconst (pc := 7) C dX3_hasLoom_7 nc_1 ?_
    refine jx_goto (pc := 8) C (tgt := 12) dX3_hasLoom_8 (by decide) ?_
    exact jn_zret (pc := 12) C hr (rfl) (jD_i (by first | exact bI_dec (by assumption) | exact bI_decn (by assumption) | exact bI_dec (i32_nle.mp (by assumption)) | exact bI_decn (i32_nlt.mpr (by assumption)))) dX3_hasLoom_12
theorem t_X3_hasLoom {l : Launch} {D : va_G} {cA : Nat → ClassId} {N0 : Nat} {Sh : jS} {I : jI} {P : jP} {L : jL} {w : Nat} (h1 : Sh w = some (3, 0)) : jN l D cA N0 0 yX3_hasLoom cX3_hasLoom 1 (some .boolean) [.ref w] Sh I P L (jD (some (.int (bI (decide (0 < I w 1))))) I P L) := jN_of (by decide) (Nat.le_of_ble_eq_true rfl) (fun _ _ _ _ _ _ _ _ C hr => b_X3_hasLoom C hr h1)
set_option maxHeartbeats 4000000 in
theorem b_X3_borrow {p : Program} {l : Launch} {e : Env} {s : State} {m : MethodId} {args : Array Value} {below : List Frame} {meth : Method} {c : Code} {D : va_G} {cA : Nat → ClassId} {N0 : Nat} {Sh : jS} {I : jI} {P : jP} {L : jL} (C : jC p (jRm 0 0 0) s m args meth c D cA N0 cX3_borrow 2 RX3 0) (hr : meth.sig.returnType = none) {w : Nat} (h1 : Sh w = some (3, 0)) {v : Int32} : jJ p l e (jRm 0 0 0) s m args below meth c D cA N0 2 (MQ below (jQn D cA N0 Sh (jD none (jst (jst I w 4 (I w 4 + v)) w 8 (I w 8 + v)) P L)) args s 0 0 (fun q => N0 ≤ q)) (fun _ => True) Sh I P L 0 0 0 [some (.ref w), some (.int v)] [] := by
  refine jx_aload_n (pc := 0) C dX3_borrow_0 rfl ?_
  refine jx_dup (pc := 1) C dX3_borrow_1 rfl ?_
  refine jx_getI (pc := 2) C kf_X3_22 rfl h1 dX3_borrow_2 ?_
  refine jx_iload_n (pc := 5) C dX3_borrow_5 rfl ?_
  refine jx_iadd (pc := 6) C dX3_borrow_6 ?_
  refine jx_putI (pc := 7) C kf_X3_22 rfl rfl rfl rfl h1 dX3_borrow_7 ?_
  refine jx_aload_n (pc := 10) C dX3_borrow_10 rfl ?_
  refine jx_dup (pc := 11) C dX3_borrow_11 rfl ?_
  refine jx_getIv (pc := 12) C kf_X3_25 rfl h1 ((congrFun jst_eq 8).trans (upd_n (by decide))) dX3_borrow_12 ?_
  refine jx_iload_n (pc := 15) C dX3_borrow_15 rfl ?_
  refine jx_iadd (pc := 16) C dX3_borrow_16 ?_
  refine jx_putI (pc := 17) C kf_X3_25 rfl rfl rfl rfl h1 dX3_borrow_17 ?_
  exact jn_vret (pc := 20) C hr (jD_r) dX3_borrow_20
theorem t_X3_borrow {l : Launch} {D : va_G} {cA : Nat → ClassId} {N0 : Nat} {Sh : jS} {I : jI} {P : jP} {L : jL} {w : Nat} (h1 : Sh w = some (3, 0)) {v : Int32} : jN l D cA N0 0 yX3_borrow cX3_borrow 2 none [.ref w, .int v] Sh I P L (jD none (jst (jst I w 4 (I w 4 + v)) w 8 (I w 8 + v)) P L) := jN_of (by decide) (Nat.le_of_ble_eq_true rfl) (fun _ _ _ _ _ _ _ _ C hr => b_X3_borrow C hr h1)
set_option maxHeartbeats 4000000 in
theorem b_X3_weavesGood {p : Program} {l : Launch} {e : Env} {s : State} {m : MethodId} {args : Array Value} {below : List Frame} {meth : Method} {c : Code} {D : va_G} {cA : Nat → ClassId} {N0 : Nat} {Sh : jS} {I : jI} {P : jP} {L : jL} (C : jC p (jRm 0 0 0) s m args meth c D cA N0 cX3_weavesGood 1 RX3 0) (hr : meth.sig.returnType = (some .boolean)) {w : Nat} (h1 : Sh w = some (3, 0)) : jJ p l e (jRm 0 0 0) s m args below meth c D cA N0 1 (MQ below (jQn D cA N0 Sh (jD (some (.int (bI (decide ¬ (0 < I w 3 ∧ (I w 6 + nI 1) - (I w 6 + nI 1) / I w 3 * I w 3 = 0))))) (if (0 < I w 3 ∧ (I w 6 + nI 1) - (I w 6 + nI 1) / I w 3 * I w 3 = 0) then jst (jst I w 6 (I w 6 + nI 1)) w 7 (I w 7 + nI 1) else jst I w 6 (I w 6 + nI 1)) P L)) args s 0 0 (fun q => N0 ≤ q)) (fun _ => True) Sh I P L 0 0 0 [some (.ref w)] [] := by
  refine jx_aload_n (pc := 0) C dX3_weavesGood_0 rfl ?_
  refine jx_dup (pc := 1) C dX3_weavesGood_1 rfl ?_
  refine jx_getI (pc := 2) C kf_X3_28 rfl h1 dX3_weavesGood_2 ?_
  refine jx_iconst (pc := 5) C dX3_weavesGood_5 nc_1 ?_
  refine jx_iadd (pc := 6) C dX3_weavesGood_6 ?_
  refine jx_putI (pc := 7) C kf_X3_28 rfl rfl rfl rfl h1 dX3_weavesGood_7 ?_
  refine jx_aload_n (pc := 10) C dX3_weavesGood_10 rfl ?_
  refine jx_getIv (pc := 11) C kf_X3_31 rfl h1 ((congrFun jst_eq 3).trans (upd_n (by decide))) dX3_weavesGood_11 ?_
  refine jx_if_le (pc := 14) C (tgt := 41) dX3_weavesGood_14 (by decide) (fun c14 => ?_) (fun c14 => ?_)
  · refine jx_iconst (pc := 41) C dX3_weavesGood_41 nc_1 ?_
    exact jn_zret (pc := 42) C hr (rfl) (by first | (rw [if_neg (fun z => i32_nle.mpr z.1 c14)]; exact jD_i (bI_dec (fun z => i32_nle.mpr z.1 c14))) | (rw [if_neg (fun z => c26 z.2)]; exact jD_i (bI_dec (fun z => c26 z.2)))) dX3_weavesGood_42
  · refine jx_aload_n (pc := 17) C dX3_weavesGood_17 rfl ?_
    refine jx_getIv (pc := 18) C kf_X3_28 rfl h1 ((congrFun jst_eq 6).trans upd_s) dX3_weavesGood_18 ?_
    refine jx_aload_n (pc := 21) C dX3_weavesGood_21 rfl ?_
    refine jx_getIv (pc := 22) C kf_X3_31 rfl h1 ((congrFun jst_eq 3).trans (upd_n (by decide))) dX3_weavesGood_22 ?_
    refine jx_irem (pc := 25) C dX3_weavesGood_25 (fun z => c14 (by rw [z]; decide)) ?_
    refine jx_if_ne (pc := 26) C (tgt := 41) dX3_weavesGood_26 (by decide) (fun c26 => ?_) (fun c26 => ?_)
    · refine jx_iconst (pc := 41) C dX3_weavesGood_41 nc_1 ?_
      exact jn_zret (pc := 42) C hr (rfl) (by first | (rw [if_neg (fun z => i32_nle.mpr z.1 c14)]; exact jD_i (bI_dec (fun z => i32_nle.mpr z.1 c14))) | (rw [if_neg (fun z => c26 z.2)]; exact jD_i (bI_dec (fun z => c26 z.2)))) dX3_weavesGood_42
    · refine jx_aload_n (pc := 29) C dX3_weavesGood_29 rfl ?_
      refine jx_dup (pc := 30) C dX3_weavesGood_30 rfl ?_
      refine jx_getIv (pc := 31) C kf_X3_34 rfl h1 ((congrFun jst_eq 7).trans (upd_n (by decide))) dX3_weavesGood_31 ?_
      refine jx_iconst (pc := 34) C dX3_weavesGood_34 nc_1 ?_
      refine jx_iadd (pc := 35) C dX3_weavesGood_35 ?_
      refine jx_putI (pc := 36) C kf_X3_34 rfl rfl rfl rfl h1 dX3_weavesGood_36 ?_
      refine jx_iconst (pc := 39) C dX3_weavesGood_39 nc_0 ?_
      exact jn_zret (pc := 40) C hr (rfl) (by rw [if_pos ⟨i32_nle.mp c14, c26⟩]; exact jD_i (bI_decn (fun z => z ⟨i32_nle.mp c14, c26⟩))) dX3_weavesGood_40
theorem t_X3_weavesGood {l : Launch} {D : va_G} {cA : Nat → ClassId} {N0 : Nat} {Sh : jS} {I : jI} {P : jP} {L : jL} {w : Nat} (h1 : Sh w = some (3, 0)) : jN l D cA N0 0 yX3_weavesGood cX3_weavesGood 1 (some .boolean) [.ref w] Sh I P L (jD (some (.int (bI (decide ¬ (0 < I w 3 ∧ (I w 6 + nI 1) - (I w 6 + nI 1) / I w 3 * I w 3 = 0))))) (if (0 < I w 3 ∧ (I w 6 + nI 1) - (I w 6 + nI 1) / I w 3 * I w 3 = 0) then jst (jst I w 6 (I w 6 + nI 1)) w 7 (I w 7 + nI 1) else jst I w 6 (I w 6 + nI 1)) P L) := jN_of (by decide) (Nat.le_of_ble_eq_true rfl) (fun _ _ _ _ _ _ _ _ C hr => b_X3_weavesGood C hr h1)
set_option maxHeartbeats 4000000 in
theorem b_X3_receive {p : Program} {l : Launch} {e : Env} {s : State} {m : MethodId} {args : Array Value} {below : List Frame} {meth : Method} {c : Code} {D : va_G} {cA : Nat → ClassId} {N0 : Nat} {Sh : jS} {I : jI} {P : jP} {L : jL} (C : jC p (jRm 1 0 0) s m args meth c D cA N0 cX3_receive 4 RX3 1) (hr : meth.sig.returnType = none) {w : Nat} (h1 : Sh w = some (3, 0)) {du gc : Int32} : jJ p l e (jRm 1 0 0) s m args below meth c D cA N0 4 (MQ below (jQn D cA N0 Sh (jD none (jst (jst I w 4 (I w 4 - (if 0 < gc then smin (I w 4) (du / gc) else I w 4))) w 5 (I w 5 + (du - (if 0 < gc then smin (I w 4) (du / gc) else I w 4) * gc))) P L)) args s 0 0 (fun q => N0 ≤ q)) (fun _ => True) Sh I P L 0 0 0 [some (.ref w), some (.int du), some (.int gc), none] [] := by
  refine jx_iload_n (pc := 0) C dX3_receive_0 rfl ?_
  refine jx_if_le (pc := 1) C (tgt := 17) dX3_receive_1 (by decide) (fun c1 => ?_) (fun c1 => ?_)
  · refine jx_aload_n (pc := 17) C dX3_receive_17 rfl ?_
    refine jx_getI (pc := 18) C kf_X3_22 rfl h1 dX3_receive_18 ?_
    refine jx_istore_n (pc := 21) C dX3_receive_21 (jset_3 jc_i) (by decide) ?_
    refine jx_aload_n (pc := 22) C dX3_receive_22 rfl ?_
    refine jx_dup (pc := 23) C dX3_receive_23 rfl ?_
    refine jx_getI (pc := 24) C kf_X3_22 rfl h1 dX3_receive_24 ?_
    refine jx_iload_n (pc := 27) C dX3_receive_27 rfl ?_
    refine jx_isub (pc := 28) C dX3_receive_28 ?_
    refine jx_putI (pc := 29) C kf_X3_22 rfl rfl rfl rfl h1 dX3_receive_29 ?_
    refine jx_aload_n (pc := 32) C dX3_receive_32 rfl ?_
    refine jx_dup (pc := 33) C dX3_receive_33 rfl ?_
    refine jx_getIv (pc := 34) C kf_X3_43 rfl h1 ((congrFun jst_eq 5).trans (upd_n (by decide))) dX3_receive_34 ?_
    refine jx_iload_n (pc := 37) C dX3_receive_37 rfl ?_
    refine jx_iload_n (pc := 38) C dX3_receive_38 rfl ?_
    refine jx_iload_n (pc := 39) C dX3_receive_39 rfl ?_
    refine jx_imul (pc := 40) C dX3_receive_40 ?_
    refine jx_isub (pc := 41) C dX3_receive_41 ?_
    refine jx_iadd (pc := 42) C dX3_receive_42 ?_
    refine jx_putI (pc := 43) C kf_X3_43 rfl rfl rfl rfl h1 dX3_receive_43 ?_
    exact jn_vret (pc := 46) C hr (by first | (rw [if_pos (i32_nle.mp c1)]; exact jD_r) | (rw [if_neg (i32_nlt.mpr c1)]; exact jD_r)) dX3_receive_46
  · refine jx_aload_n (pc := 4) C dX3_receive_4 rfl ?_
    refine jx_getI (pc := 5) C kf_X3_22 rfl h1 dX3_receive_5 ?_
    refine jx_iload_n (pc := 8) C dX3_receive_8 rfl ?_
    refine jx_iload_n (pc := 9) C dX3_receive_9 rfl ?_
    refine jx_idiv (pc := 10) C dX3_receive_10 (fun z => c1 (by rw [z]; decide)) ?_
    refine jx_mmin (pc := 11) C (jWS_in 629 (by decide +kernel) rfl) (by decide) ⟨Nat.zero_le _, Nat.zero_le _⟩ (by decide) dX3_receive_11 ?_
    refine jx_goto (pc := 14) C (tgt := 21) dX3_receive_14 (by decide) ?_
    refine jx_istore_n (pc := 21) C dX3_receive_21 (jset_3 jc_i) (by decide) ?_
    refine jx_aload_n (pc := 22) C dX3_receive_22 rfl ?_
    refine jx_dup (pc := 23) C dX3_receive_23 rfl ?_
    refine jx_getI (pc := 24) C kf_X3_22 rfl h1 dX3_receive_24 ?_
    refine jx_iload_n (pc := 27) C dX3_receive_27 rfl ?_
    refine jx_isub (pc := 28) C dX3_receive_28 ?_
    refine jx_putI (pc := 29) C kf_X3_22 rfl rfl rfl rfl h1 dX3_receive_29 ?_
    refine jx_aload_n (pc := 32) C dX3_receive_32 rfl ?_
    refine jx_dup (pc := 33) C dX3_receive_33 rfl ?_
    refine jx_getIv (pc := 34) C kf_X3_43 rfl h1 ((congrFun jst_eq 5).trans (upd_n (by decide))) dX3_receive_34 ?_
    refine jx_iload_n (pc := 37) C dX3_receive_37 rfl ?_
    refine jx_iload_n (pc := 38) C dX3_receive_38 rfl ?_
    refine jx_iload_n (pc := 39) C dX3_receive_39 rfl ?_
    refine jx_imul (pc := 40) C dX3_receive_40 ?_
    refine jx_isub (pc := 41) C dX3_receive_41 ?_
    refine jx_iadd (pc := 42) C dX3_receive_42 ?_
    refine jx_putI (pc := 43) C kf_X3_43 rfl rfl rfl rfl h1 dX3_receive_43 ?_
    exact jn_vret (pc := 46) C hr (by first | (rw [if_pos (i32_nle.mp c1)]; exact jD_r) | (rw [if_neg (i32_nlt.mpr c1)]; exact jD_r)) dX3_receive_46
theorem t_X3_receive {l : Launch} {D : va_G} {cA : Nat → ClassId} {N0 : Nat} {Sh : jS} {I : jI} {P : jP} {L : jL} {w : Nat} (h1 : Sh w = some (3, 0)) {du gc : Int32} : jN l D cA N0 1 yX3_receive cX3_receive 4 none [.ref w, .int du, .int gc] Sh I P L (jD none (jst (jst I w 4 (I w 4 - (if 0 < gc then smin (I w 4) (du / gc) else I w 4))) w 5 (I w 5 + (du - (if 0 < gc then smin (I w 4) (du / gc) else I w 4) * gc))) P L) := jN_of (by decide) (Nat.le_of_ble_eq_true rfl) (fun _ _ _ _ _ _ _ _ C hr => b_X3_receive C hr h1)
set_option maxHeartbeats 4000000 in
theorem b_X3_property {p : Program} {l : Launch} {e : Env} {s : State} {m : MethodId} {args : Array Value} {below : List Frame} {meth : Method} {c : Code} {D : va_G} {cA : Nat → ClassId} {N0 : Nat} {Sh : jS} {I : jI} {P : jP} {L : jL} (C : jC p (jRm 0 0 0) s m args meth c D cA N0 cX3_property 2 RX3 0) (hr : meth.sig.returnType = (some .int)) {w : Nat} (h1 : Sh w = some (3, 0)) {k : Nat} (hk : k < 8) : jJ p l e (jRm 0 0 0) s m args below meth c D cA N0 2 (MQ below (jQn D cA N0 Sh (jD (some (.int (I w (k + 1)))) I P L)) args s 0 0 (fun q => N0 ≤ q)) (fun _ => True) Sh I P L 0 0 0 [some (.ref w), some (.int (nI k))] [] := by
  match k, hk with
  | 0, _ =>
    refine jx_iload_n (pc := 0) C dX3_property_0 rfl ?_
    refine jx_tableIn (pc := 1) C (off := 43) (tgt := 44) dX3_property_1 (by decide) (by decide) rfl (by decide) ?_
    refine jx_aload_n (pc := 44) C dX3_property_44 rfl ?_
    refine jx_getI (pc := 45) C kf_X3_18 rfl h1 dX3_property_45 ?_
    exact jn_iret (pc := 48) C hr (jD_r) dX3_property_48
  | 1, _ =>
    refine jx_iload_n (pc := 0) C dX3_property_0 rfl ?_
    refine jx_tableIn (pc := 1) C (off := 48) (tgt := 49) dX3_property_1 (by decide) (by decide) rfl (by decide) ?_
    refine jx_aload_n (pc := 49) C dX3_property_49 rfl ?_
    refine jx_getI (pc := 50) C kf_X3_46 rfl h1 dX3_property_50 ?_
    exact jn_iret (pc := 53) C hr (jD_r) dX3_property_53
  | 2, _ =>
    refine jx_iload_n (pc := 0) C dX3_property_0 rfl ?_
    refine jx_tableIn (pc := 1) C (off := 53) (tgt := 54) dX3_property_1 (by decide) (by decide) rfl (by decide) ?_
    refine jx_aload_n (pc := 54) C dX3_property_54 rfl ?_
    refine jx_getI (pc := 55) C kf_X3_31 rfl h1 dX3_property_55 ?_
    exact jn_iret (pc := 58) C hr (jD_r) dX3_property_58
  | 3, _ =>
    refine jx_iload_n (pc := 0) C dX3_property_0 rfl ?_
    refine jx_tableIn (pc := 1) C (off := 58) (tgt := 59) dX3_property_1 (by decide) (by decide) rfl (by decide) ?_
    refine jx_aload_n (pc := 59) C dX3_property_59 rfl ?_
    refine jx_getI (pc := 60) C kf_X3_22 rfl h1 dX3_property_60 ?_
    exact jn_iret (pc := 63) C hr (jD_r) dX3_property_63
  | 4, _ =>
    refine jx_iload_n (pc := 0) C dX3_property_0 rfl ?_
    refine jx_tableIn (pc := 1) C (off := 63) (tgt := 64) dX3_property_1 (by decide) (by decide) rfl (by decide) ?_
    refine jx_aload_n (pc := 64) C dX3_property_64 rfl ?_
    refine jx_getI (pc := 65) C kf_X3_43 rfl h1 dX3_property_65 ?_
    exact jn_iret (pc := 68) C hr (jD_r) dX3_property_68
  | 5, _ =>
    refine jx_iload_n (pc := 0) C dX3_property_0 rfl ?_
    refine jx_tableIn (pc := 1) C (off := 68) (tgt := 69) dX3_property_1 (by decide) (by decide) rfl (by decide) ?_
    refine jx_aload_n (pc := 69) C dX3_property_69 rfl ?_
    refine jx_getI (pc := 70) C kf_X3_28 rfl h1 dX3_property_70 ?_
    exact jn_iret (pc := 73) C hr (jD_r) dX3_property_73
  | 6, _ =>
    refine jx_iload_n (pc := 0) C dX3_property_0 rfl ?_
    refine jx_tableIn (pc := 1) C (off := 73) (tgt := 74) dX3_property_1 (by decide) (by decide) rfl (by decide) ?_
    refine jx_aload_n (pc := 74) C dX3_property_74 rfl ?_
    refine jx_getI (pc := 75) C kf_X3_34 rfl h1 dX3_property_75 ?_
    exact jn_iret (pc := 78) C hr (jD_r) dX3_property_78
  | 7, _ =>
    refine jx_iload_n (pc := 0) C dX3_property_0 rfl ?_
    refine jx_tableOut (pc := 1) C (tgt := 79) dX3_property_1 (by decide) (by decide) ?_
    refine jx_aload_n (pc := 79) C dX3_property_79 rfl ?_
    refine jx_getI (pc := 80) C kf_X3_25 rfl h1 dX3_property_80 ?_
    exact jn_iret (pc := 83) C hr (jD_r) dX3_property_83
theorem t_X3_property {l : Launch} {D : va_G} {cA : Nat → ClassId} {N0 : Nat} {Sh : jS} {I : jI} {P : jP} {L : jL} {w : Nat} (h1 : Sh w = some (3, 0)) {k : Nat} (hk : k < 8) : jN l D cA N0 0 yX3_property cX3_property 2 (some .int) [.ref w, .int (nI k)] Sh I P L (jD (some (.int (I w (k + 1)))) I P L) := jN_of (by decide) (Nat.le_of_ble_eq_true rfl) (fun _ _ _ _ _ _ _ _ C hr => b_X3_property C hr h1 hk)
set_option maxHeartbeats 4000000 in
theorem b_X3_copyFrom {p : Program} {l : Launch} {e : Env} {s : State} {m : MethodId} {args : Array Value} {below : List Frame} {meth : Method} {c : Code} {D : va_G} {cA : Nat → ClassId} {N0 : Nat} {Sh : jS} {I : jI} {P : jP} {L : jL} (C : jC p (jRm 1 0 0) s m args meth c D cA N0 cX3_copyFrom 2 RX3 1) (hr : meth.sig.returnType = none) {w : Nat} (h1 : Sh w = some (3, 0)) {y g : Nat} (h2 : Sh y = some (4, 0)) (h3 : Sh g = some (10, 4)) (h4 : P w 0 = some y) (h5 : P y 0 = some g) {w2 y2 g2 : Nat} (k1 : Sh w2 = some (3, 0)) (k2 : Sh y2 = some (4, 0)) (k3 : Sh g2 = some (10, 4)) (k4 : P w2 0 = some y2) (k5 : P y2 0 = some g2) (n1 : w2 ≠ w) (n2 : g2 ≠ g) (n3 : w2 ≠ g) (n4 : w ≠ g) : jJ p l e (jRm 1 0 0) s m args below meth c D cA N0 2 (MQ below (jQn D cA N0 Sh (jNv (fun I' P' L' => (∀ k, k < 8 → I' w (k + 1) = I w2 (k + 1)) ∧ (∀ c0, c0 < 4 → I' g c0 = I g2 c0) ∧ (∀ b, b ≠ w → b ≠ g → I' b = I b) ∧ P' = P ∧ L' = L))) args s 0 0 (fun q => N0 ≤ q)) (fun _ => True) Sh I P L 0 0 0 [some (.ref w), some (.ref w2)] [] := by
  refine jx_aload_n (pc := 0) C dX3_copyFrom_0 rfl ?_
  refine jx_getP (pc := 1) C kf_X3_12 rfl h1 h4 dX3_copyFrom_1 ?_
  refine jx_aload_n (pc := 4) C dX3_copyFrom_4 rfl ?_
  refine jx_getP (pc := 5) C kf_X3_12 rfl k1 k4 dX3_copyFrom_5 ?_
  refine jx_callDv (pc := 8) C (go_X3_49 C h2 (Nat.le_of_ble_eq_true rfl) dX3_copyFrom_8) (t_X4_copyFrom h2 h3 h5 k2 k3 k5 n2) (by decide) (by decide) ⟨Nat.zero_le _, Nat.zero_le _⟩ ?_
  refine jx_aload_n (pc := 11) C dX3_copyFrom_11 rfl ?_
  refine jx_aload_n (pc := 12) C dX3_copyFrom_12 rfl ?_
  refine jx_getI (pc := 13) C kf_X3_18 rfl k1 dX3_copyFrom_13 ?_
  refine jx_putI (pc := 16) C kf_X3_18 rfl rfl rfl rfl h1 dX3_copyFrom_16 ?_
  refine jx_aload_n (pc := 19) C dX3_copyFrom_19 rfl ?_
  refine jx_aload_n (pc := 20) C dX3_copyFrom_20 rfl ?_
  refine jx_getI (pc := 21) C kf_X3_46 rfl k1 dX3_copyFrom_21 ?_
  refine jx_putI (pc := 24) C kf_X3_46 rfl rfl rfl rfl h1 dX3_copyFrom_24 ?_
  refine jx_aload_n (pc := 27) C dX3_copyFrom_27 rfl ?_
  refine jx_aload_n (pc := 28) C dX3_copyFrom_28 rfl ?_
  refine jx_getI (pc := 29) C kf_X3_31 rfl k1 dX3_copyFrom_29 ?_
  refine jx_putI (pc := 32) C kf_X3_31 rfl rfl rfl rfl h1 dX3_copyFrom_32 ?_
  refine jx_aload_n (pc := 35) C dX3_copyFrom_35 rfl ?_
  refine jx_aload_n (pc := 36) C dX3_copyFrom_36 rfl ?_
  refine jx_getI (pc := 37) C kf_X3_22 rfl k1 dX3_copyFrom_37 ?_
  refine jx_putI (pc := 40) C kf_X3_22 rfl rfl rfl rfl h1 dX3_copyFrom_40 ?_
  refine jx_aload_n (pc := 43) C dX3_copyFrom_43 rfl ?_
  refine jx_aload_n (pc := 44) C dX3_copyFrom_44 rfl ?_
  refine jx_getI (pc := 45) C kf_X3_43 rfl k1 dX3_copyFrom_45 ?_
  refine jx_putI (pc := 48) C kf_X3_43 rfl rfl rfl rfl h1 dX3_copyFrom_48 ?_
  refine jx_aload_n (pc := 51) C dX3_copyFrom_51 rfl ?_
  refine jx_aload_n (pc := 52) C dX3_copyFrom_52 rfl ?_
  refine jx_getI (pc := 53) C kf_X3_28 rfl k1 dX3_copyFrom_53 ?_
  refine jx_putI (pc := 56) C kf_X3_28 rfl rfl rfl rfl h1 dX3_copyFrom_56 ?_
  refine jx_aload_n (pc := 59) C dX3_copyFrom_59 rfl ?_
  refine jx_aload_n (pc := 60) C dX3_copyFrom_60 rfl ?_
  refine jx_getI (pc := 61) C kf_X3_34 rfl k1 dX3_copyFrom_61 ?_
  refine jx_putI (pc := 64) C kf_X3_34 rfl rfl rfl rfl h1 dX3_copyFrom_64 ?_
  refine jx_aload_n (pc := 67) C dX3_copyFrom_67 rfl ?_
  refine jx_aload_n (pc := 68) C dX3_copyFrom_68 rfl ?_
  refine jx_getI (pc := 69) C kf_X3_25 rfl k1 dX3_copyFrom_69 ?_
  refine jx_putI (pc := 72) C kf_X3_25 rfl rfl rfl rfl h1 dX3_copyFrom_72 ?_
  exact jn_vret (pc := 75) C hr (by
    refine ⟨rfl, fun k hk => ?_, fun c0 hc => ?_, fun b hb1 hb2 => ?_, rfl, rfl⟩
    · match k, hk with
      | 0, _ => simp [jst, va_up, upd, n1, n3, n4]
      | 1, _ => simp [jst, va_up, upd, n1, n3, n4]
      | 2, _ => simp [jst, va_up, upd, n1, n3, n4]
      | 3, _ => simp [jst, va_up, upd, n1, n3, n4]
      | 4, _ => simp [jst, va_up, upd, n1, n3, n4]
      | 5, _ => simp [jst, va_up, upd, n1, n3, n4]
      | 6, _ => simp [jst, va_up, upd, n1, n3, n4]
      | 7, _ => simp [jst, va_up, upd, n1, n3, n4]
    · simp [jst, va_up, upd, Ne.symm n4, cpn, hc]
    · simp [jst, va_up, upd, hb1, hb2]) dX3_copyFrom_75
theorem t_X3_copyFrom {l : Launch} {D : va_G} {cA : Nat → ClassId} {N0 : Nat} {Sh : jS} {I : jI} {P : jP} {L : jL} {w : Nat} (h1 : Sh w = some (3, 0)) {y g : Nat} (h2 : Sh y = some (4, 0)) (h3 : Sh g = some (10, 4)) (h4 : P w 0 = some y) (h5 : P y 0 = some g) {w2 y2 g2 : Nat} (k1 : Sh w2 = some (3, 0)) (k2 : Sh y2 = some (4, 0)) (k3 : Sh g2 = some (10, 4)) (k4 : P w2 0 = some y2) (k5 : P y2 0 = some g2) (n1 : w2 ≠ w) (n2 : g2 ≠ g) (n3 : w2 ≠ g) (n4 : w ≠ g) : jN l D cA N0 1 yX3_copyFrom cX3_copyFrom 2 none [.ref w, .ref w2] Sh I P L (jNv (fun I' P' L' => (∀ k, k < 8 → I' w (k + 1) = I w2 (k + 1)) ∧ (∀ c0, c0 < 4 → I' g c0 = I g2 c0) ∧ (∀ b, b ≠ w → b ≠ g → I' b = I b) ∧ P' = P ∧ L' = L)) := jN_of (by decide) (Nat.le_of_ble_eq_true rfl) (fun _ _ _ _ _ _ _ _ C hr => b_X3_copyFrom C hr h1 h2 h3 h4 h5 k1 k2 k3 k4 k5 n1 n2 n3 n4)
set_option maxHeartbeats 4000000 in
theorem b_X1_gramsEach {p : Program} {l : Launch} {e : Env} {s : State} {m : MethodId} {args : Array Value} {below : List Frame} {meth : Method} {c : Code} {D : va_G} {cA : Nat → ClassId} {N0 : Nat} {Sh : jS} {I : jI} {P : jP} {L : jL} (C : jC p (jRm 0 0 0) s m args meth c D cA N0 cX1_gramsEach 1 RX1 0) (hr : meth.sig.returnType = (some .int)) {q : Nat} (h1 : Sh q = some (1, 0)) : jJ p l e (jRm 0 0 0) s m args below meth c D cA N0 1 (MQ below (jQn D cA N0 Sh (jD (some (.int ((I q 3 + nI 9) / nI 10))) I P L)) args s 0 0 (fun q => N0 ≤ q)) (fun _ => True) Sh I P L 0 0 0 [some (.ref q)] [] := by
  refine jx_aload_n (pc := 0) C dX1_gramsEach_0 rfl ?_
  refine jx_getI (pc := 1) C kf_X1_22 rfl h1 dX1_gramsEach_1 ?_
  refine jx_bipush (pc := 4) C dX1_gramsEach_4 nb_9 ?_
  refine jx_iadd (pc := 6) C dX1_gramsEach_6 ?_
  refine jx_bipush (pc := 7) C dX1_gramsEach_7 nb_10 ?_
  refine jx_idiv (pc := 9) C dX1_gramsEach_9 (by decide +kernel) ?_
  exact jn_iret (pc := 10) C hr (jD_r) dX1_gramsEach_10
theorem t_X1_gramsEach {l : Launch} {D : va_G} {cA : Nat → ClassId} {N0 : Nat} {Sh : jS} {I : jI} {P : jP} {L : jL} {q : Nat} (h1 : Sh q = some (1, 0)) : jN l D cA N0 0 yX1_gramsEach cX1_gramsEach 1 (some .int) [.ref q] Sh I P L (jD (some (.int ((I q 3 + nI 9) / nI 10))) I P L) := jN_of (by decide) (Nat.le_of_ble_eq_true rfl) (fun _ _ _ _ _ _ _ _ C hr => b_X1_gramsEach C hr h1)
set_option maxHeartbeats 4000000 in
theorem b_X1_isDone {p : Program} {l : Launch} {e : Env} {s : State} {m : MethodId} {args : Array Value} {below : List Frame} {meth : Method} {c : Code} {D : va_G} {cA : Nat → ClassId} {N0 : Nat} {Sh : jS} {I : jI} {P : jP} {L : jL} (C : jC p (jRm 0 0 0) s m args meth c D cA N0 cX1_isDone 1 RX1 0) (hr : meth.sig.returnType = (some .boolean)) {q : Nat} (h1 : Sh q = some (1, 0)) : jJ p l e (jRm 0 0 0) s m args below meth c D cA N0 1 (MQ below (jQn D cA N0 Sh (jD (some (.int (bI (decide (I q 4 ≤ I q 7))))) I P L)) args s 0 0 (fun q => N0 ≤ q)) (fun _ => True) Sh I P L 0 0 0 [some (.ref q)] [] := by
  refine jx_aload_n (pc := 0) C dX1_isDone_0 rfl ?_
  refine jx_getI (pc := 1) C kf_X1_34 rfl h1 dX1_isDone_1 ?_
  refine jx_aload_n (pc := 4) C dX1_isDone_4 rfl ?_
  refine jx_getI (pc := 5) C kf_X1_25 rfl h1 dX1_isDone_5 ?_
  refine jx_icmp_lt (pc := 8) C (tgt := 15) dX1_isDone_8 (by decide) (fun c8 => ?_) (fun c8 => ?_)
  · refine jx_iconst (pc := 15) C dX1_isDone_15 nc_0 ?_
    exact jn_zret (pc := 16) C hr (rfl) (jD_i (by first | exact bI_dec (i32_nlt.mp (by assumption)) | exact bI_decn (i32_nle.mpr (by assumption)))) dX1_isDone_16
  · refine jx_iconst (pc := 11) C dX1_isDone_11 nc_1 ?_
    refine jx_goto (pc := 12) C (tgt := 16) dX1_isDone_12 (by decide) ?_
    exact jn_zret (pc := 16) C hr (rfl) (jD_i (by first | exact bI_dec (i32_nlt.mp (by assumption)) | exact bI_decn (i32_nle.mpr (by assumption)))) dX1_isDone_16
theorem t_X1_isDone {l : Launch} {D : va_G} {cA : Nat → ClassId} {N0 : Nat} {Sh : jS} {I : jI} {P : jP} {L : jL} {q : Nat} (h1 : Sh q = some (1, 0)) : jN l D cA N0 0 yX1_isDone cX1_isDone 1 (some .boolean) [.ref q] Sh I P L (jD (some (.int (bI (decide (I q 4 ≤ I q 7))))) I P L) := jN_of (by decide) (Nat.le_of_ble_eq_true rfl) (fun _ _ _ _ _ _ _ _ C hr => b_X1_isDone C hr h1)
set_option maxHeartbeats 4000000 in
theorem b_X1_addGood {p : Program} {l : Launch} {e : Env} {s : State} {m : MethodId} {args : Array Value} {below : List Frame} {meth : Method} {c : Code} {D : va_G} {cA : Nat → ClassId} {N0 : Nat} {Sh : jS} {I : jI} {P : jP} {L : jL} (C : jC p (jRm 0 0 0) s m args meth c D cA N0 cX1_addGood 2 RX1 0) (hr : meth.sig.returnType = none) {q b : Nat} (h1 : Sh q = some (1, 0)) (h2 : Sh b = some (10, 6)) (h3 : P q 0 = some b) (hqb : q ≠ b) {w : Nat} (hw : w < 6) : jJ p l e (jRm 0 0 0) s m args below meth c D cA N0 2 (MQ below (jQn D cA N0 Sh (jD none (jst (jst I b w (I b w + nI 1)) q 7 (I q 7 + nI 1)) P L)) args s 0 0 (fun q => N0 ≤ q)) (fun _ => True) Sh I P L 0 0 0 [some (.ref q), some (.int (nI w))] [] := by
  refine jx_iload_n (pc := 0) C dX1_addGood_0 rfl ?_
  refine jx_if_lt (pc := 1) C (tgt := 33) dX1_addGood_1 (by decide) (fun c1 => (by rw [nI_lt0 (by omega)] at c1; exfalso; omega)) (fun c1 => ?_)
  rw [nI_lt0 (by omega)] at c1
  refine jx_iload_n (pc := 4) C dX1_addGood_4 rfl ?_
  refine jx_aload_n (pc := 5) C dX1_addGood_5 rfl ?_
  refine jx_getP (pc := 6) C kf_X1_9 rfl h1 h3 dX1_addGood_6 ?_
  refine jx_alen10 (pc := 9) C h2 dX1_addGood_9 ?_
  refine jx_icmp_ge (pc := 10) C (tgt := 33) dX1_addGood_10 (by decide) (fun c10 => (by rw [nI_leI (by omega) (by omega)] at c10; exfalso; omega)) (fun c10 => ?_)
  rw [nI_leI (by omega) (by omega)] at c10
  refine jx_aload_n (pc := 13) C dX1_addGood_13 rfl ?_
  refine jx_getP (pc := 14) C kf_X1_9 rfl h1 h3 dX1_addGood_14 ?_
  refine jx_iload_n (pc := 17) C dX1_addGood_17 rfl ?_
  refine jx_dup2_11 (pc := 18) C dX1_addGood_18 rfl rfl ?_
  refine jx_iald (pc := 19) C h2 (by omega) (by decide) dX1_addGood_19 ?_
  refine jx_iconst (pc := 20) C dX1_addGood_20 nc_1 ?_
  refine jx_iadd (pc := 21) C dX1_addGood_21 ?_
  refine jx_iast (pc := 22) C h2 (by omega) (by decide) dX1_addGood_22 ?_
  refine jx_aload_n (pc := 23) C dX1_addGood_23 rfl ?_
  refine jx_dup (pc := 24) C dX1_addGood_24 rfl ?_
  refine jx_getIv (pc := 25) C kf_X1_34 rfl h1 (congrFun (jst_ne hqb) _) dX1_addGood_25 ?_
  refine jx_iconst (pc := 28) C dX1_addGood_28 nc_1 ?_
  refine jx_iadd (pc := 29) C dX1_addGood_29 ?_
  refine jx_putI (pc := 30) C kf_X1_34 rfl rfl rfl rfl h1 dX1_addGood_30 ?_
  exact jn_vret (pc := 33) C hr (jD_r) dX1_addGood_33
theorem t_X1_addGood {l : Launch} {D : va_G} {cA : Nat → ClassId} {N0 : Nat} {Sh : jS} {I : jI} {P : jP} {L : jL} {q b : Nat} (h1 : Sh q = some (1, 0)) (h2 : Sh b = some (10, 6)) (h3 : P q 0 = some b) (hqb : q ≠ b) {w : Nat} (hw : w < 6) : jN l D cA N0 0 yX1_addGood cX1_addGood 2 none [.ref q, .int (nI w)] Sh I P L (jD none (jst (jst I b w (I b w + nI 1)) q 7 (I q 7 + nI 1)) P L) := jN_of (by decide) (Nat.le_of_ble_eq_true rfl) (fun _ _ _ _ _ _ _ _ C hr => b_X1_addGood C hr h1 h2 h3 hqb hw)
set_option maxHeartbeats 4000000 in
theorem b_X1_lateHours {p : Program} {l : Launch} {e : Env} {s : State} {m : MethodId} {args : Array Value} {below : List Frame} {meth : Method} {c : Code} {D : va_G} {cA : Nat → ClassId} {N0 : Nat} {Sh : jS} {I : jI} {P : jP} {L : jL} (C : jC p (jRm 0 0 0) s m args meth c D cA N0 cX1_lateHours 2 RX1 0) (hr : meth.sig.returnType = (some .int)) {q : Nat} (h1 : Sh q = some (1, 0)) {v : Int32} : jJ p l e (jRm 0 0 0) s m args below meth c D cA N0 2 (MQ below (jQn D cA N0 Sh (jD (some (.int (if v ≤ I q 6 then nI 0 else v - I q 6))) I P L)) args s 0 0 (fun q => N0 ≤ q)) (fun _ => True) Sh I P L 0 0 0 [some (.ref q), some (.int v)] [] := by
  refine jx_iload_n (pc := 0) C dX1_lateHours_0 rfl ?_
  refine jx_aload_n (pc := 1) C dX1_lateHours_1 rfl ?_
  refine jx_getI (pc := 2) C kf_X1_31 rfl h1 dX1_lateHours_2 ?_
  refine jx_icmp_le (pc := 5) C (tgt := 17) dX1_lateHours_5 (by decide) (fun c5 => ?_) (fun c5 => ?_)
  · refine jx_iconst (pc := 17) C dX1_lateHours_17 nc_0 ?_
    exact jn_iret (pc := 18) C hr (jD_i (by first | exact (if_pos c5).symm | exact (if_neg c5).symm)) dX1_lateHours_18
  · refine jx_iload_n (pc := 8) C dX1_lateHours_8 rfl ?_
    refine jx_aload_n (pc := 9) C dX1_lateHours_9 rfl ?_
    refine jx_getI (pc := 10) C kf_X1_31 rfl h1 dX1_lateHours_10 ?_
    refine jx_isub (pc := 13) C dX1_lateHours_13 ?_
    refine jx_goto (pc := 14) C (tgt := 18) dX1_lateHours_14 (by decide) ?_
    exact jn_iret (pc := 18) C hr (jD_i (by first | exact (if_pos c5).symm | exact (if_neg c5).symm)) dX1_lateHours_18
theorem t_X1_lateHours {l : Launch} {D : va_G} {cA : Nat → ClassId} {N0 : Nat} {Sh : jS} {I : jI} {P : jP} {L : jL} {q : Nat} (h1 : Sh q = some (1, 0)) {v : Int32} : jN l D cA N0 0 yX1_lateHours cX1_lateHours 2 (some .int) [.ref q, .int v] Sh I P L (jD (some (.int (if v ≤ I q 6 then nI 0 else v - I q 6))) I P L) := jN_of (by decide) (Nat.le_of_ble_eq_true rfl) (fun _ _ _ _ _ _ _ _ C hr => b_X1_lateHours C hr h1)
set_option maxHeartbeats 4000000 in
theorem b_X1_payFor {p : Program} {l : Launch} {e : Env} {s : State} {m : MethodId} {args : Array Value} {below : List Frame} {meth : Method} {c : Code} {D : va_G} {cA : Nat → ClassId} {N0 : Nat} {Sh : jS} {I : jI} {P : jP} {L : jL} (C : jC p (jRm 0 0 0) s m args meth c D cA N0 cX1_payFor 6 RX1 0) (hr : meth.sig.returnType = (some .int)) {q : Nat} (h1 : Sh q = some (1, 0)) {lh lc : Int32} : jJ p l e (jRm 0 0 0) s m args below meth c D cA N0 6 (MQ below (jQn D cA N0 Sh (jD (some (.int (spf (I q 5 * I q 7) lh lc))) I P L)) args s 0 0 (fun q => N0 ≤ q)) (fun _ => True) Sh I P L 0 0 0 [some (.ref q), some (.int lh), some (.int lc), none, none, none] [] := by
  refine jx_aload_n (pc := 0) C dX1_payFor_0 rfl ?_
  refine jx_getI (pc := 1) C kf_X1_28 rfl h1 dX1_payFor_1 ?_
  refine jx_aload_n (pc := 4) C dX1_payFor_4 rfl ?_
  refine jx_getI (pc := 5) C kf_X1_34 rfl h1 dX1_payFor_5 ?_
  refine jx_imul (pc := 8) C dX1_payFor_8 ?_
  refine jx_istore_n (pc := 9) C dX1_payFor_9 (jset_3 jc_i) (by decide) ?_
  refine jx_iload_n (pc := 10) C dX1_payFor_10 rfl ?_
  refine jx_i2l (pc := 11) C dX1_payFor_11 ?_
  refine jx_iload_n (pc := 12) C dX1_payFor_12 rfl ?_
  refine jx_i2l (pc := 13) C dX1_payFor_13 ?_
  refine jx_lmul (pc := 14) C dX1_payFor_14 ?_
  refine jx_iload_n (pc := 15) C dX1_payFor_15 rfl ?_
  refine jx_i2l (pc := 16) C dX1_payFor_16 ?_
  refine jx_lmul (pc := 17) C dX1_payFor_17 ?_
  refine jx_ldc2 (pc := 18) C kk_X1_37 dX1_payFor_18 ?_
  refine jx_ldiv (pc := 21) C dX1_payFor_21 (by decide) ?_
  refine jx_lstore (pc := 22) C dX1_payFor_22 (jsetw_4 jc_i) (by decide) ?_
  refine jx_lload (pc := 24) C dX1_payFor_24 rfl ?_
  refine jx_iload_n (pc := 26) C dX1_payFor_26 rfl ?_
  refine jx_i2l (pc := 27) C dX1_payFor_27 ?_
  refine jx_lcmp (pc := 28) C dX1_payFor_28 ?_
  refine jx_if_ge (pc := 29) C (tgt := 40) dX1_payFor_29 (by decide) (fun c29 => ?_) (fun c29 => ?_)
  · refine jx_iconst (pc := 40) C dX1_payFor_40 nc_0 ?_
    exact jn_iret (pc := 41) C hr (jD_i (by rw [lg_cmp_ge] at c29; unfold spf; first | exact (if_pos (Int64.not_le.mp c29)).symm | exact (if_neg (fun z => Int64.not_le.mpr z c29)).symm)) dX1_payFor_41
  · refine jx_iload_n (pc := 32) C dX1_payFor_32 rfl ?_
    refine jx_lload (pc := 33) C dX1_payFor_33 rfl ?_
    refine jx_l2i (pc := 35) C dX1_payFor_35 ?_
    refine jx_isub (pc := 36) C dX1_payFor_36 ?_
    refine jx_goto (pc := 37) C (tgt := 41) dX1_payFor_37 (by decide) ?_
    exact jn_iret (pc := 41) C hr (jD_i (by rw [lg_cmp_ge] at c29; unfold spf; first | exact (if_pos (Int64.not_le.mp c29)).symm | exact (if_neg (fun z => Int64.not_le.mpr z c29)).symm)) dX1_payFor_41
theorem t_X1_payFor {l : Launch} {D : va_G} {cA : Nat → ClassId} {N0 : Nat} {Sh : jS} {I : jI} {P : jP} {L : jL} {q : Nat} (h1 : Sh q = some (1, 0)) {lh lc : Int32} : jN l D cA N0 0 yX1_payFor cX1_payFor 6 (some .int) [.ref q, .int lh, .int lc] Sh I P L (jD (some (.int (spf (I q 5 * I q 7) lh lc))) I P L) := jN_of (by decide) (Nat.le_of_ble_eq_true rfl) (fun _ _ _ _ _ _ _ _ C hr => b_X1_payFor C hr h1)
set_option maxHeartbeats 4000000 in
theorem lp_X1_divide {p : Program} {l : Launch} {e : Env} {s : State} {m : MethodId} {args : Array Value} {below : List Frame} {meth : Method} {c : Code} {D : va_G} {cA : Nat → ClassId} {N0 : Nat} {Sh : jS} {I : jI} {P : jP} {L : jL} {Qf : State → Prop} (C : jC p (jRm 0 0 0) s m args meth c D cA N0 cX1_divide 6 RX1 0) {q b : Nat} (h1 : Sh q = some (1, 0)) (h2 : Sh b = some (10, 6)) (h3 : P q 0 = some b) (hqb : q ≠ b) {d : Nat} (h4 : Sh d = some (10, 6)) (hqd : q ≠ d) (hbd : b ≠ d) {f : sF} {o : Nat} {pay len : Int32} (hb : ∀ w, w < 6 → I b w = f (90 + 12 * o + (6 + w))) (hl : I q 7 = len) (hlen : 0 ≤ len) (h0 : len = 0 → pay = nI 0) (hx : jJ p l e (jRm 0 0 0) s m args below meth c D cA N0 6 Qf (fun _ => True) Sh (va_up I d (sdues f o pay len 6 (I d))) P L 0 0 88 [some (.ref q), some (.int pay), some (.ref d), some (.int (sleft f o pay len 6)), some (.int (nI (smost f o 6))), some (.int (nI 6))] []) : ∀ n w, w + n = 6 → jJ p l e (jRm 0 0 0) s m args below meth c D cA N0 6 Qf (fun _ => True) Sh (va_up I d (sdues f o pay len w (I d))) P L 0 0 8 [some (.ref q), some (.int pay), some (.ref d), some (.int (sleft f o pay len w)), some (.int (nI (smost f o w))), some (.int (nI w))] [] := by
  intro n
  induction n with
  | zero =>
    intro w hw
    obtain rfl : w = 6 := by omega
    refine jx_iload (pc := 8) C dX1_divide_8 rfl ?_
    refine jx_aload_n (pc := 10) C dX1_divide_10 rfl ?_
    refine jx_getP (pc := 11) C kf_X1_9 rfl h1 h3 dX1_divide_11 ?_
    refine jx_alen10 (pc := 14) C h2 dX1_divide_14 ?_
    refine jx_icmp_ge (pc := 15) C (tgt := 88) dX1_divide_15 (by decide) (fun c15 => ?_) (fun c15 => (by rw [nI_leI (by omega) (by omega)] at c15; exfalso; omega))
    rw [nI_leI (by omega) (by omega)] at c15
    exact hx
  | succ n ih =>
    intro w hw
    have hml := smost_le f o w
    have hbw : ∀ u k, k < 6 → (va_up I d (sdues f o pay len u (I d))) b k = f (90 + 12 * o + (6 + k)) := fun u k hk => by rw [va_up_n hbd]; exact hb k hk
    have hlw : ∀ u, (va_up I d (sdues f o pay len u (I d))) q 7 = len := fun u => by rw [va_up_n hqd]; exact hl
    have hd1 : (va_up I d (sdues f o pay len (w + 1) (I d))) d w = sdue f o pay len w := by rw [va_up_s, sdues_w (Nat.lt_succ_self w)]
    have key : ∀ v, v = sdue f o pay len w → jJ p l e (jRm 0 0 0) s m args below meth c D cA N0 6 Qf (fun _ => True) Sh (va_up I d (sdues f o pay len w (I d))) P L 0 0 53 [some (.ref q), some (.int pay), some (.ref d), some (.int (sleft f o pay len w)), some (.int (nI (smost f o w))), some (.int (nI w))] [.int v, .int (nI w), .ref d] := by
      intro v hv
      subst hv
      refine jx_iast (pc := 53) C h4 (by omega) (by decide) dX1_divide_53 ?_
      rw [jst_up, sdues_s]
      refine jx_iload_n (pc := 54) C dX1_divide_54 rfl ?_
      refine jx_aload_n (pc := 55) C dX1_divide_55 rfl ?_
      refine jx_iload (pc := 56) C dX1_divide_56 rfl ?_
      refine jx_ialdv (pc := 58) C h4 (by omega) (by decide) hd1 dX1_divide_58 ?_
      refine jx_isub (pc := 59) C dX1_divide_59 ?_
      refine jx_istore_n (pc := 60) C dX1_divide_60 (jset_3 jc_r) (by decide) ?_
      refine jx_aload_n (pc := 61) C dX1_divide_61 rfl ?_
      refine jx_getP (pc := 62) C kf_X1_9 rfl h1 h3 dX1_divide_62 ?_
      refine jx_iload (pc := 65) C dX1_divide_65 rfl ?_
      refine jx_ialdv (pc := 67) C h2 (by omega) (by decide) (hbw _ _ (by omega)) dX1_divide_67 ?_
      refine jx_aload_n (pc := 68) C dX1_divide_68 rfl ?_
      refine jx_getP (pc := 69) C kf_X1_9 rfl h1 h3 dX1_divide_69 ?_
      refine jx_iload (pc := 72) C dX1_divide_72 rfl ?_
      refine jx_ialdv (pc := 74) C h2 (by omega) (by decide) (hbw _ _ (by omega)) dX1_divide_74 ?_
      refine jx_icmp_le (pc := 75) C (tgt := 82) dX1_divide_75 (by decide) (fun c75 => ?_) (fun c75 => ?_)
      · refine jx_iincN (pc := 82) C dX1_divide_82 rfl (jset_5 jc_i) (by decide) ?_
        refine jx_goto (pc := 85) C (tgt := 8) dX1_divide_85 (by decide) ?_
        have h6 := ih (w + 1) (by omega)
        first | rw [smost_t c75] at h6 | rw [smost_e c75] at h6
        exact h6
      · refine jx_iload (pc := 78) C dX1_divide_78 rfl ?_
        refine jx_istore (pc := 80) C dX1_divide_80 (jset_4 jc_i) (by decide) ?_
        refine jx_iincN (pc := 82) C dX1_divide_82 rfl (jset_5 jc_i) (by decide) ?_
        refine jx_goto (pc := 85) C (tgt := 8) dX1_divide_85 (by decide) ?_
        have h6 := ih (w + 1) (by omega)
        first | rw [smost_t c75] at h6 | rw [smost_e c75] at h6
        exact h6
    refine jx_iload (pc := 8) C dX1_divide_8 rfl ?_
    refine jx_aload_n (pc := 10) C dX1_divide_10 rfl ?_
    refine jx_getP (pc := 11) C kf_X1_9 rfl h1 h3 dX1_divide_11 ?_
    refine jx_alen10 (pc := 14) C h2 dX1_divide_14 ?_
    refine jx_icmp_ge (pc := 15) C (tgt := 88) dX1_divide_15 (by decide) (fun c15 => (by rw [nI_leI (by omega) (by omega)] at c15; exfalso; omega)) (fun c15 => ?_)
    rw [nI_leI (by omega) (by omega)] at c15
    refine jx_iload (pc := 18) C dX1_divide_18 rfl ?_
    refine jx_aload_n (pc := 20) C dX1_divide_20 rfl ?_
    refine jx_alen10 (pc := 21) C h4 dX1_divide_21 ?_
    refine jx_icmp_ge (pc := 22) C (tgt := 88) dX1_divide_22 (by decide) (fun c22 => (by rw [nI_leI (by omega) (by omega)] at c22; exfalso; omega)) (fun c22 => ?_)
    rw [nI_leI (by omega) (by omega)] at c22
    refine jx_aload_n (pc := 25) C dX1_divide_25 rfl ?_
    refine jx_iload (pc := 26) C dX1_divide_26 rfl ?_
    refine jx_aload_n (pc := 28) C dX1_divide_28 rfl ?_
    refine jx_getIv (pc := 29) C kf_X1_34 rfl h1 (hlw _) dX1_divide_29 ?_
    refine jx_if_le (pc := 32) C (tgt := 52) dX1_divide_32 (by decide) (fun c32 => ?_) (fun c32 => ?_)
    · refine jx_iconst (pc := 52) C dX1_divide_52 nc_0 ?_
      first | exact key _ (if_neg (fun z => c32 (by rw [z]; decide))).symm | exact key _ (if_pos (by rw [i32_le] at c32 hlen; exact Int32.toInt_inj.mp (Int.le_antisymm c32 hlen))).symm
    · refine jx_iload_n (pc := 35) C dX1_divide_35 rfl ?_
      refine jx_aload_n (pc := 36) C dX1_divide_36 rfl ?_
      refine jx_getP (pc := 37) C kf_X1_9 rfl h1 h3 dX1_divide_37 ?_
      refine jx_iload (pc := 40) C dX1_divide_40 rfl ?_
      refine jx_ialdv (pc := 42) C h2 (by omega) (by decide) (hbw _ _ (by omega)) dX1_divide_42 ?_
      refine jx_imul (pc := 43) C dX1_divide_43 ?_
      refine jx_aload_n (pc := 44) C dX1_divide_44 rfl ?_
      refine jx_getIv (pc := 45) C kf_X1_34 rfl h1 (hlw _) dX1_divide_45 ?_
      refine jx_idiv (pc := 48) C dX1_divide_48 (fun z => c32 (by rw [z]; decide)) ?_
      refine jx_goto (pc := 49) C (tgt := 53) dX1_divide_49 (by decide) ?_
      first | exact key _ (if_neg (fun z => c32 (by rw [z]; decide))).symm | exact key _ (if_pos (by rw [i32_le] at c32 hlen; exact Int32.toInt_inj.mp (Int.le_antisymm c32 hlen))).symm
theorem sleft_0 {f : sF} {o : Nat} {pay len : Int32} (h : len = 0) (hp : pay = nI 0) : ∀ w, sleft f o pay len w = nI 0 := by
  intro w
  induction w with
  | zero => exact hp
  | succ w ih =>
    show sleft f o pay len w - sdue f o pay len w = nI 0
    rw [ih]
    unfold sdue
    rw [if_pos h]
    rfl
set_option maxHeartbeats 4000000 in
theorem b_X1_divide {p : Program} {l : Launch} {e : Env} {s : State} {m : MethodId} {args : Array Value} {below : List Frame} {meth : Method} {c : Code} {D : va_G} {cA : Nat → ClassId} {N0 : Nat} {Sh : jS} {I : jI} {P : jP} {L : jL} (C : jC p (jRm 0 0 0) s m args meth c D cA N0 cX1_divide 6 RX1 0) (hr : meth.sig.returnType = none) {q b : Nat} (h1 : Sh q = some (1, 0)) (h2 : Sh b = some (10, 6)) (h3 : P q 0 = some b) (hqb : q ≠ b) {d : Nat} (h4 : Sh d = some (10, 6)) (hqd : q ≠ d) (hbd : b ≠ d) {f : sF} {o : Nat} {pay len : Int32} (hb : ∀ w, w < 6 → I b w = f (90 + 12 * o + (6 + w))) (hl : I q 7 = len) (hlen : 0 ≤ len) (h0 : len = 0 → pay = nI 0) : jJ p l e (jRm 0 0 0) s m args below meth c D cA N0 6 (MQ below (jQn D cA N0 Sh (jD none (va_up I d (sshares f o pay len (I d))) P L)) args s 0 0 (fun q => N0 ≤ q)) (fun _ => True) Sh I P L 0 0 0 [some (.ref q), some (.int pay), some (.ref d), none, none, none] [] := by
  refine jx_iload_n (pc := 0) C dX1_divide_0 rfl ?_
  refine jx_istore_n (pc := 1) C dX1_divide_1 (jset_3 jc_r) (by decide) ?_
  refine jx_iconst (pc := 2) C dX1_divide_2 nc_0 ?_
  refine jx_istore (pc := 3) C dX1_divide_3 (jset_4 jc_i) (by decide) ?_
  refine jx_iconst (pc := 5) C dX1_divide_5 nc_0 ?_
  refine jx_istore (pc := 6) C dX1_divide_6 (jset_5 jc_i) (by decide) ?_
  have hml := smost_le f o 6
  refine jx_mem (I' := (va_up I d (sdues f o pay len 0 (I d)))) (P' := P) (by rw [show sdues f o pay len 0 (I d) = I d by funext j; exact if_neg (Nat.not_lt_zero j)]; exact va_up_id.symm) rfl ?_
  refine lp_X1_divide C h1 h2 h3 hqb h4 hqd hbd hb hl hlen h0 ?_ 6 0 rfl
  refine jx_iload (pc := 88) C dX1_divide_88 rfl ?_
  refine jx_aload_n (pc := 90) C dX1_divide_90 rfl ?_
  refine jx_alen10 (pc := 91) C h4 dX1_divide_91 ?_
  refine jx_icmp_ge (pc := 92) C (tgt := 103) dX1_divide_92 (by decide) (fun c92 => (by rw [nI_leI (by omega) (by omega)] at c92; exfalso; omega)) (fun c92 => ?_)
  rw [nI_leI (by omega) (by omega)] at c92
  refine jx_aload_n (pc := 95) C dX1_divide_95 rfl ?_
  refine jx_iload (pc := 96) C dX1_divide_96 rfl ?_
  refine jx_dup2_11 (pc := 98) C dX1_divide_98 rfl rfl ?_
  refine jx_iald (pc := 99) C h4 (by omega) (by decide) dX1_divide_99 ?_
  refine jx_iload_n (pc := 100) C dX1_divide_100 rfl ?_
  refine jx_iadd (pc := 101) C dX1_divide_101 ?_
  refine jx_iast (pc := 102) C h4 (by omega) (by decide) dX1_divide_102 ?_
  exact jn_vret (pc := 103) C hr (by
    refine jD_of rfl ?_ rfl rfl
    rw [jst_up, va_up_s]
    unfold sshares
    by_cases hz : len = 0
    · rw [if_pos hz, sleft_0 hz (h0 hz)]
    · rw [if_neg hz]) dX1_divide_103
theorem t_X1_divide {l : Launch} {D : va_G} {cA : Nat → ClassId} {N0 : Nat} {Sh : jS} {I : jI} {P : jP} {L : jL} {q b : Nat} (h1 : Sh q = some (1, 0)) (h2 : Sh b = some (10, 6)) (h3 : P q 0 = some b) (hqb : q ≠ b) {d : Nat} (h4 : Sh d = some (10, 6)) (hqd : q ≠ d) (hbd : b ≠ d) {f : sF} {o : Nat} {pay len : Int32} (hb : ∀ w, w < 6 → I b w = f (90 + 12 * o + (6 + w))) (hl : I q 7 = len) (hlen : 0 ≤ len) (h0 : len = 0 → pay = nI 0) : jN l D cA N0 0 yX1_divide cX1_divide 6 none [.ref q, .int pay, .ref d] Sh I P L (jD none (va_up I d (sshares f o pay len (I d))) P L) := jN_of (by decide) (Nat.le_of_ble_eq_true rfl) (fun _ _ _ _ _ _ _ _ C hr => b_X1_divide C hr h1 h2 h3 hqb h4 hqd hbd hb hl hlen h0)
set_option maxHeartbeats 4000000 in
theorem lp_X1_become {p : Program} {l : Launch} {e : Env} {s : State} {m : MethodId} {args : Array Value} {below : List Frame} {meth : Method} {c : Code} {D : va_G} {cA : Nat → ClassId} {N0 : Nat} {Sh : jS} {I : jI} {P : jP} {L : jL} {Qf : State → Prop} (C : jC p (jRm 0 0 0) s m args meth c D cA N0 cX1_become 8 RX1 0) {q b : Nat} (h1 : Sh q = some (1, 0)) (h2 : Sh b = some (10, 6)) (h3 : P q 0 = some b) (hqb : q ≠ b) {J : jI} {a1 a2 a3 a4 a5 a6 : Int32} (hx : jJ p l e (jRm 0 0 0) s m args below meth c D cA N0 8 Qf (fun _ => True) Sh (va_up J b (cpn (J b) (fun _ => nI 0) 6)) P L 0 0 65 [some (.ref q), some (.int a1), some (.int a2), some (.int a3), some (.int a4), some (.int a5), some (.int a6), some (.int (nI 6))] []) : ∀ d i, i + d = 6 → jJ p l e (jRm 0 0 0) s m args below meth c D cA N0 8 Qf (fun _ => True) Sh (va_up J b (cpn (J b) (fun _ => nI 0) i)) P L 0 0 41 [some (.ref q), some (.int a1), some (.int a2), some (.int a3), some (.int a4), some (.int a5), some (.int a6), some (.int (nI i))] [] := by
  intro d
  induction d with
  | zero =>
    intro i hi
    obtain rfl : i = 6 := by omega
    refine jx_iload (pc := 41) C dX1_become_41 rfl ?_
    refine jx_aload_n (pc := 43) C dX1_become_43 rfl ?_
    refine jx_getP (pc := 44) C kf_X1_9 rfl h1 h3 dX1_become_44 ?_
    refine jx_alen10 (pc := 47) C h2 dX1_become_47 ?_
    refine jx_icmp_ge (pc := 48) C (tgt := 65) dX1_become_48 (by decide) (fun c48 => ?_) (fun c48 => (by rw [nI_leI (by omega) (by omega)] at c48; exfalso; omega))
    rw [nI_leI (by omega) (by omega)] at c48
    exact hx
  | succ d ih =>
    intro i hi
    refine jx_iload (pc := 41) C dX1_become_41 rfl ?_
    refine jx_aload_n (pc := 43) C dX1_become_43 rfl ?_
    refine jx_getP (pc := 44) C kf_X1_9 rfl h1 h3 dX1_become_44 ?_
    refine jx_alen10 (pc := 47) C h2 dX1_become_47 ?_
    refine jx_icmp_ge (pc := 48) C (tgt := 65) dX1_become_48 (by decide) (fun c48 => (by rw [nI_leI (by omega) (by omega)] at c48; exfalso; omega)) (fun c48 => ?_)
    rw [nI_leI (by omega) (by omega)] at c48
    refine jx_aload_n (pc := 51) C dX1_become_51 rfl ?_
    refine jx_getP (pc := 52) C kf_X1_9 rfl h1 h3 dX1_become_52 ?_
    refine jx_iload (pc := 55) C dX1_become_55 rfl ?_
    refine jx_iconst (pc := 57) C dX1_become_57 nc_0 ?_
    refine jx_iast (pc := 58) C h2 (by omega) (by decide) dX1_become_58 ?_
    rw [jst_up, cpn_s]
    refine jx_iincN (pc := 59) C dX1_become_59 rfl (jset_7 jc_i) (by decide) ?_
    refine jx_goto (pc := 62) C (tgt := 41) dX1_become_62 (by decide) ?_
    exact ih (i + 1) (by omega)
set_option maxHeartbeats 4000000 in
theorem b_X1_become {p : Program} {l : Launch} {e : Env} {s : State} {m : MethodId} {args : Array Value} {below : List Frame} {meth : Method} {c : Code} {D : va_G} {cA : Nat → ClassId} {N0 : Nat} {Sh : jS} {I : jI} {P : jP} {L : jL} (C : jC p (jRm 0 0 0) s m args meth c D cA N0 cX1_become 8 RX1 0) (hr : meth.sig.returnType = none) {q b : Nat} (h1 : Sh q = some (1, 0)) (h2 : Sh b = some (10, 6)) (h3 : P q 0 = some b) (hqb : q ≠ b) {a1 a2 a3 a4 a5 a6 : Int32} : jJ p l e (jRm 0 0 0) s m args below meth c D cA N0 8 (MQ below (jQn D cA N0 Sh (jD none (va_up (jst (jst (jst (jst (jst (jst (jst I q 1 a1) q 2 a2) q 3 a3) q 4 a4) q 5 a5) q 6 a6) q 7 (nI 0)) b (cpn ((jst (jst (jst (jst (jst (jst (jst I q 1 a1) q 2 a2) q 3 a3) q 4 a4) q 5 a5) q 6 a6) q 7 (nI 0)) b) (fun _ => nI 0) 6)) P L)) args s 0 0 (fun q => N0 ≤ q)) (fun _ => True) Sh I P L 0 0 0 [some (.ref q), some (.int a1), some (.int a2), some (.int a3), some (.int a4), some (.int a5), some (.int a6), none] [] := by
  refine jx_aload_n (pc := 0) C dX1_become_0 rfl ?_
  refine jx_iload_n (pc := 1) C dX1_become_1 rfl ?_
  refine jx_putI (pc := 2) C kf_X1_15 rfl rfl rfl rfl h1 dX1_become_2 ?_
  refine jx_aload_n (pc := 5) C dX1_become_5 rfl ?_
  refine jx_iload_n (pc := 6) C dX1_become_6 rfl ?_
  refine jx_putI (pc := 7) C kf_X1_19 rfl rfl rfl rfl h1 dX1_become_7 ?_
  refine jx_aload_n (pc := 10) C dX1_become_10 rfl ?_
  refine jx_iload_n (pc := 11) C dX1_become_11 rfl ?_
  refine jx_putI (pc := 12) C kf_X1_22 rfl rfl rfl rfl h1 dX1_become_12 ?_
  refine jx_aload_n (pc := 15) C dX1_become_15 rfl ?_
  refine jx_iload (pc := 16) C dX1_become_16 rfl ?_
  refine jx_putI (pc := 18) C kf_X1_25 rfl rfl rfl rfl h1 dX1_become_18 ?_
  refine jx_aload_n (pc := 21) C dX1_become_21 rfl ?_
  refine jx_iload (pc := 22) C dX1_become_22 rfl ?_
  refine jx_putI (pc := 24) C kf_X1_28 rfl rfl rfl rfl h1 dX1_become_24 ?_
  refine jx_aload_n (pc := 27) C dX1_become_27 rfl ?_
  refine jx_iload (pc := 28) C dX1_become_28 rfl ?_
  refine jx_putI (pc := 30) C kf_X1_31 rfl rfl rfl rfl h1 dX1_become_30 ?_
  refine jx_aload_n (pc := 33) C dX1_become_33 rfl ?_
  refine jx_iconst (pc := 34) C dX1_become_34 nc_0 ?_
  refine jx_putI (pc := 35) C kf_X1_34 rfl rfl rfl rfl h1 dX1_become_35 ?_
  refine jx_iconst (pc := 38) C dX1_become_38 nc_0 ?_
  refine jx_istore (pc := 39) C dX1_become_39 (jset_7 jc_i) (by decide) ?_
  refine jx_mem (I' := va_up (jst (jst (jst (jst (jst (jst (jst I q 1 a1) q 2 a2) q 3 a3) q 4 a4) q 5 a5) q 6 a6) q 7 (nI 0)) b (cpn ((jst (jst (jst (jst (jst (jst (jst I q 1 a1) q 2 a2) q 3 a3) q 4 a4) q 5 a5) q 6 a6) q 7 (nI 0)) b) (fun _ => nI 0) 0)) (P' := P) (by rw [cpn_0]; exact va_up_id.symm) rfl ?_
  refine lp_X1_become (I := I) C h1 h2 h3 hqb ?_ 6 0 rfl
  exact jn_vret (pc := 65) C hr (jD_r) dX1_become_65
theorem t_X1_become {l : Launch} {D : va_G} {cA : Nat → ClassId} {N0 : Nat} {Sh : jS} {I : jI} {P : jP} {L : jL} {q b : Nat} (h1 : Sh q = some (1, 0)) (h2 : Sh b = some (10, 6)) (h3 : P q 0 = some b) (hqb : q ≠ b) {a1 a2 a3 a4 a5 a6 : Int32} : jN l D cA N0 0 yX1_become cX1_become 8 none [.ref q, .int a1, .int a2, .int a3, .int a4, .int a5, .int a6] Sh I P L (jD none (va_up (jst (jst (jst (jst (jst (jst (jst I q 1 a1) q 2 a2) q 3 a3) q 4 a4) q 5 a5) q 6 a6) q 7 (nI 0)) b (cpn ((jst (jst (jst (jst (jst (jst (jst I q 1 a1) q 2 a2) q 3 a3) q 4 a4) q 5 a5) q 6 a6) q 7 (nI 0)) b) (fun _ => nI 0) 6)) P L) := jN_of (by decide) (Nat.le_of_ble_eq_true rfl) (fun _ _ _ _ _ _ _ _ C hr => b_X1_become C hr h1 h2 h3 hqb)
set_option maxHeartbeats 4000000 in
theorem lp_X1_copyFrom {p : Program} {l : Launch} {e : Env} {s : State} {m : MethodId} {args : Array Value} {below : List Frame} {meth : Method} {c : Code} {D : va_G} {cA : Nat → ClassId} {N0 : Nat} {Sh : jS} {I : jI} {P : jP} {L : jL} {Qf : State → Prop} (C : jC p (jRm 0 0 0) s m args meth c D cA N0 cX1_copyFrom 3 RX1 0) {q b : Nat} (h1 : Sh q = some (1, 0)) (h2 : Sh b = some (10, 6)) (h3 : P q 0 = some b) (hqb : q ≠ b) {q2 b2 : Nat} (k1 : Sh q2 = some (1, 0)) (k2 : Sh b2 = some (10, 6)) (k3 : P q2 0 = some b2) (n1 : q2 ≠ q) (n2 : b2 ≠ b) (n3 : q2 ≠ b) (hx : jJ p l e (jRm 0 0 0) s m args below meth c D cA N0 3 Qf (fun _ => True) Sh (va_up I b (cpn (I b) (I b2) 6)) P L 0 0 38 [some (.ref q), some (.ref q2), some (.int (nI 6))] []) : ∀ d i, i + d = 6 → jJ p l e (jRm 0 0 0) s m args below meth c D cA N0 3 Qf (fun _ => True) Sh (va_up I b (cpn (I b) (I b2) i)) P L 0 0 2 [some (.ref q), some (.ref q2), some (.int (nI i))] [] := by
  intro d
  induction d with
  | zero =>
    intro i hi
    obtain rfl : i = 6 := by omega
    refine jx_iload_n (pc := 2) C dX1_copyFrom_2 rfl ?_
    refine jx_aload_n (pc := 3) C dX1_copyFrom_3 rfl ?_
    refine jx_getP (pc := 4) C kf_X1_9 rfl h1 h3 dX1_copyFrom_4 ?_
    refine jx_alen10 (pc := 7) C h2 dX1_copyFrom_7 ?_
    refine jx_icmp_ge (pc := 8) C (tgt := 38) dX1_copyFrom_8 (by decide) (fun c8 => ?_) (fun c8 => (by rw [nI_leI (by omega) (by omega)] at c8; exfalso; omega))
    rw [nI_leI (by omega) (by omega)] at c8
    exact hx
  | succ d ih =>
    intro i hi
    refine jx_iload_n (pc := 2) C dX1_copyFrom_2 rfl ?_
    refine jx_aload_n (pc := 3) C dX1_copyFrom_3 rfl ?_
    refine jx_getP (pc := 4) C kf_X1_9 rfl h1 h3 dX1_copyFrom_4 ?_
    refine jx_alen10 (pc := 7) C h2 dX1_copyFrom_7 ?_
    refine jx_icmp_ge (pc := 8) C (tgt := 38) dX1_copyFrom_8 (by decide) (fun c8 => (by rw [nI_leI (by omega) (by omega)] at c8; exfalso; omega)) (fun c8 => ?_)
    rw [nI_leI (by omega) (by omega)] at c8
    refine jx_iload_n (pc := 11) C dX1_copyFrom_11 rfl ?_
    refine jx_aload_n (pc := 12) C dX1_copyFrom_12 rfl ?_
    refine jx_getP (pc := 13) C kf_X1_9 rfl k1 k3 dX1_copyFrom_13 ?_
    refine jx_alen10 (pc := 16) C k2 dX1_copyFrom_16 ?_
    refine jx_icmp_ge (pc := 17) C (tgt := 38) dX1_copyFrom_17 (by decide) (fun c17 => (by rw [nI_leI (by omega) (by omega)] at c17; exfalso; omega)) (fun c17 => ?_)
    rw [nI_leI (by omega) (by omega)] at c17
    refine jx_aload_n (pc := 20) C dX1_copyFrom_20 rfl ?_
    refine jx_getP (pc := 21) C kf_X1_9 rfl h1 h3 dX1_copyFrom_21 ?_
    refine jx_iload_n (pc := 24) C dX1_copyFrom_24 rfl ?_
    refine jx_aload_n (pc := 25) C dX1_copyFrom_25 rfl ?_
    refine jx_getP (pc := 26) C kf_X1_9 rfl k1 k3 dX1_copyFrom_26 ?_
    refine jx_iload_n (pc := 29) C dX1_copyFrom_29 rfl ?_
    refine jx_ialdv (pc := 30) C k2 (by omega) (by decide) (congrFun (va_up_n n2) _) dX1_copyFrom_30 ?_
    refine jx_iast (pc := 31) C h2 (by omega) (by decide) dX1_copyFrom_31 ?_
    rw [jst_up, cpn_s]
    refine jx_iincN (pc := 32) C dX1_copyFrom_32 rfl (jset_2 jc_r) (by decide) ?_
    refine jx_goto (pc := 35) C (tgt := 2) dX1_copyFrom_35 (by decide) ?_
    exact ih (i + 1) (by omega)
set_option maxHeartbeats 4000000 in
theorem b_X1_copyFrom {p : Program} {l : Launch} {e : Env} {s : State} {m : MethodId} {args : Array Value} {below : List Frame} {meth : Method} {c : Code} {D : va_G} {cA : Nat → ClassId} {N0 : Nat} {Sh : jS} {I : jI} {P : jP} {L : jL} (C : jC p (jRm 0 0 0) s m args meth c D cA N0 cX1_copyFrom 3 RX1 0) (hr : meth.sig.returnType = none) {q b : Nat} (h1 : Sh q = some (1, 0)) (h2 : Sh b = some (10, 6)) (h3 : P q 0 = some b) (hqb : q ≠ b) {q2 b2 : Nat} (k1 : Sh q2 = some (1, 0)) (k2 : Sh b2 = some (10, 6)) (k3 : P q2 0 = some b2) (n1 : q2 ≠ q) (n2 : b2 ≠ b) (n3 : q2 ≠ b) : jJ p l e (jRm 0 0 0) s m args below meth c D cA N0 3 (MQ below (jQn D cA N0 Sh (jNv (fun I' P' L' => (∀ k, k < 7 → I' q (k + 1) = I q2 (k + 1)) ∧ (∀ w, w < 6 → I' b w = I b2 w) ∧ (∀ a, a ≠ q → a ≠ b → I' a = I a) ∧ P' = P ∧ L' = L))) args s 0 0 (fun q => N0 ≤ q)) (fun _ => True) Sh I P L 0 0 0 [some (.ref q), some (.ref q2), none] [] := by
  refine jx_iconst (pc := 0) C dX1_copyFrom_0 nc_0 ?_
  refine jx_istore_n (pc := 1) C dX1_copyFrom_1 (jset_2 jc_r) (by decide) ?_
  refine jx_mem (I' := (va_up I b (cpn (I b) (I b2) 0))) (P' := P) (by rw [cpn_0]; exact va_up_id.symm) rfl ?_
  refine lp_X1_copyFrom C h1 h2 h3 hqb k1 k2 k3 n1 n2 n3 ?_ 6 0 rfl
  refine jx_aload_n (pc := 38) C dX1_copyFrom_38 rfl ?_
  refine jx_aload_n (pc := 39) C dX1_copyFrom_39 rfl ?_
  refine jx_getI (pc := 40) C kf_X1_15 rfl k1 dX1_copyFrom_40 ?_
  refine jx_putI (pc := 43) C kf_X1_15 rfl rfl rfl rfl h1 dX1_copyFrom_43 ?_
  refine jx_aload_n (pc := 46) C dX1_copyFrom_46 rfl ?_
  refine jx_aload_n (pc := 47) C dX1_copyFrom_47 rfl ?_
  refine jx_getI (pc := 48) C kf_X1_19 rfl k1 dX1_copyFrom_48 ?_
  refine jx_putI (pc := 51) C kf_X1_19 rfl rfl rfl rfl h1 dX1_copyFrom_51 ?_
  refine jx_aload_n (pc := 54) C dX1_copyFrom_54 rfl ?_
  refine jx_aload_n (pc := 55) C dX1_copyFrom_55 rfl ?_
  refine jx_getI (pc := 56) C kf_X1_22 rfl k1 dX1_copyFrom_56 ?_
  refine jx_putI (pc := 59) C kf_X1_22 rfl rfl rfl rfl h1 dX1_copyFrom_59 ?_
  refine jx_aload_n (pc := 62) C dX1_copyFrom_62 rfl ?_
  refine jx_aload_n (pc := 63) C dX1_copyFrom_63 rfl ?_
  refine jx_getI (pc := 64) C kf_X1_25 rfl k1 dX1_copyFrom_64 ?_
  refine jx_putI (pc := 67) C kf_X1_25 rfl rfl rfl rfl h1 dX1_copyFrom_67 ?_
  refine jx_aload_n (pc := 70) C dX1_copyFrom_70 rfl ?_
  refine jx_aload_n (pc := 71) C dX1_copyFrom_71 rfl ?_
  refine jx_getI (pc := 72) C kf_X1_28 rfl k1 dX1_copyFrom_72 ?_
  refine jx_putI (pc := 75) C kf_X1_28 rfl rfl rfl rfl h1 dX1_copyFrom_75 ?_
  refine jx_aload_n (pc := 78) C dX1_copyFrom_78 rfl ?_
  refine jx_aload_n (pc := 79) C dX1_copyFrom_79 rfl ?_
  refine jx_getI (pc := 80) C kf_X1_31 rfl k1 dX1_copyFrom_80 ?_
  refine jx_putI (pc := 83) C kf_X1_31 rfl rfl rfl rfl h1 dX1_copyFrom_83 ?_
  refine jx_aload_n (pc := 86) C dX1_copyFrom_86 rfl ?_
  refine jx_aload_n (pc := 87) C dX1_copyFrom_87 rfl ?_
  refine jx_getI (pc := 88) C kf_X1_34 rfl k1 dX1_copyFrom_88 ?_
  refine jx_putI (pc := 91) C kf_X1_34 rfl rfl rfl rfl h1 dX1_copyFrom_91 ?_
  exact jn_vret (pc := 94) C hr (by
    refine ⟨rfl, fun k hk => ?_, fun w hw => ?_, fun a ha1 ha2 => ?_, rfl, rfl⟩
    · match k, hk with
      | 0, _ => simp [jst, va_up, upd, n1, n3, hqb]
      | 1, _ => simp [jst, va_up, upd, n1, n3, hqb]
      | 2, _ => simp [jst, va_up, upd, n1, n3, hqb]
      | 3, _ => simp [jst, va_up, upd, n1, n3, hqb]
      | 4, _ => simp [jst, va_up, upd, n1, n3, hqb]
      | 5, _ => simp [jst, va_up, upd, n1, n3, hqb]
      | 6, _ => simp [jst, va_up, upd, n1, n3, hqb]
    · simp [jst, va_up, upd, Ne.symm hqb, cpn, hw]
    · simp [jst, va_up, upd, ha1, ha2]) dX1_copyFrom_94
theorem t_X1_copyFrom {l : Launch} {D : va_G} {cA : Nat → ClassId} {N0 : Nat} {Sh : jS} {I : jI} {P : jP} {L : jL} {q b : Nat} (h1 : Sh q = some (1, 0)) (h2 : Sh b = some (10, 6)) (h3 : P q 0 = some b) (hqb : q ≠ b) {q2 b2 : Nat} (k1 : Sh q2 = some (1, 0)) (k2 : Sh b2 = some (10, 6)) (k3 : P q2 0 = some b2) (n1 : q2 ≠ q) (n2 : b2 ≠ b) (n3 : q2 ≠ b) : jN l D cA N0 0 yX1_copyFrom cX1_copyFrom 3 none [.ref q, .ref q2] Sh I P L (jNv (fun I' P' L' => (∀ k, k < 7 → I' q (k + 1) = I q2 (k + 1)) ∧ (∀ w, w < 6 → I' b w = I b2 w) ∧ (∀ a, a ≠ q → a ≠ b → I' a = I a) ∧ P' = P ∧ L' = L)) := jN_of (by decide) (Nat.le_of_ble_eq_true rfl) (fun _ _ _ _ _ _ _ _ C hr => b_X1_copyFrom C hr h1 h2 h3 hqb k1 k2 k3 n1 n2 n3)
