theorem smixN_add {h : Int64} {v : Nat → Int32} {a : Nat} : ∀ b, smixN h v (a + b) = smixN (smixN h v a) (fun k => v (a + k)) b := by
  intro b
  induction b with
  | zero => rfl
  | succ b ih => show (31 : Int64) * smixN h v (a + b) + (v (a + b)).toInt64 = _; rw [ih]; rfl
theorem sdwv_s {f : sF} {h : Int64} {n : Nat} : sdwv f h (n + 1) = (31 : Int64) * ((31 : Int64) * smixN (smixN (sdwv f h n) (fun k => f (18 + 12 * n + k)) 8) (fun k => f (18 + 12 * n + (8 + k))) 4 + (snext0 f n).toInt64) + (snext1 f n).toInt64 := by
  have e : sdwv f h (n + 1) = smixN (smixN (sdwv f h n) (fun k => f (18 + 12 * n + k)) 12) (fun k => snextK f n k) 2 := rfl
  rw [e]
  generalize sdwv f h n = h1
  have e2 : smixN h1 (fun k => f (18 + 12 * n + k)) 12 = smixN (smixN h1 (fun k => f (18 + 12 * n + k)) 8) (fun k => f (18 + 12 * n + (8 + k))) 4 := smixN_add 4
  rw [e2]
  generalize smixN (smixN h1 (fun k => f (18 + 12 * n + k)) 8) (fun k => f (18 + 12 * n + (8 + k))) 4 = h2
  rfl
set_option maxHeartbeats 4000000 in
theorem b_X5_mixed {p : Program} {l : Launch} {e : Env} {s : State} {m : MethodId} {args : Array Value} {below : List Frame} {meth : Method} {c : Code} {D : va_G} {cA : Nat → ClassId} {N0 : Nat} {Sh : jS} {I : jI} {P : jP} {L : jL} (C : jC p (jRm 0 0 0) s m args meth c D cA N0 cX5_mixed 4 RX5 0) (hr : meth.sig.returnType = (some .long)) {a b : Int64} : jJ p l e (jRm 0 0 0) s m args below meth c D cA N0 4 (MQ below (jQn D cA N0 Sh (jD (some (.long (31 * a + b))) I P L)) args s 0 0 (fun q => N0 ≤ q)) (fun _ => True) Sh I P L 0 0 0 [some (.long a), none, some (.long b), none] [] := by
  refine jx_ldc2 (pc := 0) C kk_X5_302 dX5_mixed_0 ?_
  refine jx_lload_n (pc := 3) C dX5_mixed_3 rfl ?_
  refine jx_lmul (pc := 4) C dX5_mixed_4 ?_
  refine jx_lload_n (pc := 5) C dX5_mixed_5 rfl ?_
  refine jx_ladd (pc := 6) C dX5_mixed_6 ?_
  exact jn_lret (pc := 7) C hr (jD_r) dX5_mixed_7
theorem t_X5_mixed {l : Launch} {D : va_G} {cA : Nat → ClassId} {N0 : Nat} {Sh : jS} {I : jI} {P : jP} {L : jL} {a b : Int64} : jN l D cA N0 0 yX5_mixed cX5_mixed 4 (some .long) [.long a, .long b] Sh I P L (jD (some (.long (31 * a + b))) I P L) := jN_of (by decide) (Nat.le_of_ble_eq_true rfl) (fun _ _ _ _ _ _ _ _ C hr => b_X5_mixed C hr )
set_option maxHeartbeats 4000000 in
theorem lp_X5_hc1 {p : Program} {l : Launch} {e : Env} {s : State} {m : MethodId} {args : Array Value} {below : List Frame} {meth : Method} {c : Code} {D : va_G} {cA : Nat → ClassId} {N0 : Nat} {Sh : jS} {I : jI} {P : jP} {L : jL} {Qf : State → Prop} (C : jC p (jRm 4 0 0) s m args meth c D cA N0 cX5_hashCounts 6 RX5 4) {y : Nat} (S : cS Sh y) (T : cP P y) {f : sF} (M : cM I P y f) (V : sI f) {kq : Int32} (hq : I y 6 = kq) {h0 : Int64} (hx : jJ p l e (jRm 4 0 0) s m args below meth c D cA N0 6 Qf (fun _ => True) Sh I P L 0 0 30 [some (.ref y), some (.long h0), none, some (.long (smixN h0 (fun k => scounted f kq k) 12)), none, some (.int (nI 12))] []) : ∀ d i, i + d = 12 → jJ p l e (jRm 4 0 0) s m args below meth c D cA N0 6 Qf (fun _ => True) Sh I P L 0 0 5 [some (.ref y), some (.long h0), none, some (.long (smixN h0 (fun k => scounted f kq k) i)), none, some (.int (nI i))] [] := by
  intro d
  induction d with
  | zero =>
    intro i hi
    obtain rfl : i = 12 := by omega
    refine jx_iload (pc := 5) C dX5_hashCounts_5 rfl ?_
    refine jx_bipush (pc := 7) C dX5_hashCounts_7 nb_12 ?_
    refine jx_icmp_ge (pc := 9) C (tgt := 30) dX5_hashCounts_9 (by decide) (fun c9 => ?_) (fun c9 => (by rw [nI_leI (by omega) (by omega)] at c9; exfalso; omega))
    rw [nI_leI (by omega) (by omega)] at c9
    exact hx
  | succ d ih =>
    intro i hi
    have hlt : i < 12 := by omega
    refine jx_iload (pc := 5) C dX5_hashCounts_5 rfl ?_
    refine jx_bipush (pc := 7) C dX5_hashCounts_7 nb_12 ?_
    refine jx_icmp_ge (pc := 9) C (tgt := 30) dX5_hashCounts_9 (by decide) (fun c9 => (by rw [nI_leI (by omega) (by omega)] at c9; exfalso; omega)) (fun c9 => ?_)
    rw [nI_leI (by omega) (by omega)] at c9
    refine jx_lload_n (pc := 12) C dX5_hashCounts_12 rfl ?_
    refine jx_aload_n (pc := 13) C dX5_hashCounts_13 rfl ?_
    refine jx_iload (pc := 14) C dX5_hashCounts_14 rfl ?_
    refine jx_callD (pc := 16) C (go_X5_218 C S.obj (Nat.le_of_ble_eq_true rfl) dX5_hashCounts_16) (t_X5_counted S T M V hq hlt) (by decide) (by decide) ⟨Nat.zero_le _, Nat.zero_le _⟩ ?_
    refine jx_i2l (pc := 19) C dX5_hashCounts_19 ?_
    refine jx_callD (pc := 20) C (go_X5_254 C  (Nat.le_of_ble_eq_true rfl) dX5_hashCounts_20) t_X5_mixed (by decide) (by decide) ⟨Nat.zero_le _, Nat.zero_le _⟩ ?_
    refine jx_lstore_n (pc := 23) C dX5_hashCounts_23 (jsetw_3 jc_n) (by decide) ?_
    refine jx_iincN (pc := 24) C dX5_hashCounts_24 rfl (jset_5 jc_n) (by decide) ?_
    refine jx_goto (pc := 27) C (tgt := 5) dX5_hashCounts_27 (by decide) ?_
    exact ih (i + 1) (by omega)

set_option maxHeartbeats 4000000 in
theorem lp_X5_hc2 {p : Program} {l : Launch} {e : Env} {s : State} {m : MethodId} {args : Array Value} {below : List Frame} {meth : Method} {c : Code} {D : va_G} {cA : Nat → ClassId} {N0 : Nat} {Sh : jS} {I : jI} {P : jP} {L : jL} {Qf : State → Prop} (C : jC p (jRm 4 0 0) s m args meth c D cA N0 cX5_hashCounts 6 RX5 4) {y : Nat} (S : cS Sh y) (T : cP P y) {f : sF} {og : Nat → Nat} (G : hG P (y + 1) og) (H : hR I (y + 1) og f) (V : sI f) {h0 h1 : Int64} (hx : jJ p l e (jRm 4 0 0) s m args below meth c D cA N0 6 Qf (fun _ => True) Sh I P L 0 0 61 [some (.ref y), some (.long h0), none, some (.long (smixN h1 (fun k => f k) 4)), none, some (.int (nI 4))] []) : ∀ d i, i + d = 4 → jJ p l e (jRm 4 0 0) s m args below meth c D cA N0 6 Qf (fun _ => True) Sh I P L 0 0 33 [some (.ref y), some (.long h0), none, some (.long (smixN h1 (fun k => f k) i)), none, some (.int (nI i))] [] := by
  intro d
  induction d with
  | zero =>
    intro i hi
    obtain rfl : i = 4 := by omega
    refine jx_iload (pc := 33) C dX5_hashCounts_33 rfl ?_
    refine jx_iconst (pc := 35) C dX5_hashCounts_35 nc_4 ?_
    refine jx_icmp_ge (pc := 36) C (tgt := 61) dX5_hashCounts_36 (by decide) (fun c36 => ?_) (fun c36 => (by rw [nI_leI (by omega) (by omega)] at c36; exfalso; omega))
    rw [nI_leI (by omega) (by omega)] at c36
    exact hx
  | succ d ih =>
    intro i hi
    have hlt : i < 4 := by omega
    refine jx_iload (pc := 33) C dX5_hashCounts_33 rfl ?_
    refine jx_iconst (pc := 35) C dX5_hashCounts_35 nc_4 ?_
    refine jx_icmp_ge (pc := 36) C (tgt := 61) dX5_hashCounts_36 (by decide) (fun c36 => (by rw [nI_leI (by omega) (by omega)] at c36; exfalso; omega)) (fun c36 => ?_)
    rw [nI_leI (by omega) (by omega)] at c36
    refine jx_lload_n (pc := 39) C dX5_hashCounts_39 rfl ?_
    refine jx_aload_n (pc := 40) C dX5_hashCounts_40 rfl ?_
    refine jx_getP (pc := 41) C kf_X5_10 rfl S.obj T.hall dX5_hashCounts_41 ?_
    refine jx_getP (pc := 44) C kf_X5_141 rfl S.h.hall T.h.se dX5_hashCounts_44 ?_
    refine jx_iload (pc := 47) C dX5_hashCounts_47 rfl ?_
    refine jx_ialdv (pc := 49) C S.h.se (by omega) (by decide) (H.se hlt) dX5_hashCounts_49 ?_
    refine jx_i2l (pc := 50) C dX5_hashCounts_50 ?_
    refine jx_callD (pc := 51) C (go_X5_254 C  (Nat.le_of_ble_eq_true rfl) dX5_hashCounts_51) t_X5_mixed (by decide) (by decide) ⟨Nat.zero_le _, Nat.zero_le _⟩ ?_
    refine jx_lstore_n (pc := 54) C dX5_hashCounts_54 (jsetw_3 jc_n) (by decide) ?_
    refine jx_iincN (pc := 55) C dX5_hashCounts_55 rfl (jset_5 jc_n) (by decide) ?_
    refine jx_goto (pc := 58) C (tgt := 33) dX5_hashCounts_58 (by decide) ?_
    exact ih (i + 1) (by omega)

set_option maxHeartbeats 4000000 in
theorem b_X5_hashCounts {p : Program} {l : Launch} {e : Env} {s : State} {m : MethodId} {args : Array Value} {below : List Frame} {meth : Method} {c : Code} {D : va_G} {cA : Nat → ClassId} {N0 : Nat} {Sh : jS} {I : jI} {P : jP} {L : jL} (C : jC p (jRm 4 0 0) s m args meth c D cA N0 cX5_hashCounts 6 RX5 4) (hr : meth.sig.returnType = (some .long)) {y : Nat} (S : cS Sh y) (T : cP P y) {f : sF} (M : cM I P y f) (V : sI f) {kq : Int32} (hq : I y 6 = kq) {h0 : Int64} : jJ p l e (jRm 4 0 0) s m args below meth c D cA N0 6 (MQ below (jQn D cA N0 Sh (jD (some (.long (smixN (smixN h0 (fun k => scounted f kq k) 12) (fun k => f k) 4))) I P L)) args s 0 0 (fun q => N0 ≤ q)) (fun _ => True) Sh I P L 0 0 0 [some (.ref y), some (.long h0), none, none, none, none] [] := by
  refine jx_lload_n (pc := 0) C dX5_hashCounts_0 rfl ?_
  refine jx_lstore_n (pc := 1) C dX5_hashCounts_1 (jsetw_3 jc_n) (by decide) ?_
  refine jx_iconst (pc := 2) C dX5_hashCounts_2 nc_0 ?_
  refine jx_istore (pc := 3) C dX5_hashCounts_3 (jset_5 jc_n) (by decide) ?_
  refine lp_X5_hc1 C S T M V hq ?_ 12 0 rfl
  obtain ⟨og, H, G⟩ := M
  generalize e1 : smixN h0 (fun k => scounted f kq k) 12 = h1
  refine jx_iconst (pc := 30) C dX5_hashCounts_30 nc_0 ?_
  refine jx_istore (pc := 31) C dX5_hashCounts_31 (jset_5 jc_n) (by decide) ?_
  refine lp_X5_hc2 (h1 := h1) C S T G H V ?_ 4 0 rfl
  refine jx_lload_n (pc := 61) C dX5_hashCounts_61 rfl ?_
  exact jn_lret (pc := 62) C hr (jD_r) dX5_hashCounts_62
theorem t_X5_hashCounts {l : Launch} {D : va_G} {cA : Nat → ClassId} {N0 : Nat} {Sh : jS} {I : jI} {P : jP} {L : jL} {y : Nat} (S : cS Sh y) (T : cP P y) {f : sF} (M : cM I P y f) (V : sI f) {kq : Int32} (hq : I y 6 = kq) {h0 : Int64} : jN l D cA N0 4 yX5_hashCounts cX5_hashCounts 6 (some .long) [.ref y, .long h0] Sh I P L (jD (some (.long (smixN (smixN h0 (fun k => scounted f kq k) 12) (fun k => f k) 4))) I P L) := jN_of (by decide) (Nat.le_of_ble_eq_true rfl) (fun _ _ _ _ _ _ _ _ C hr => b_X5_hashCounts C hr S T M V hq)
set_option maxHeartbeats 4000000 in
theorem lp_X5_hw1 {p : Program} {l : Launch} {e : Env} {s : State} {m : MethodId} {args : Array Value} {below : List Frame} {meth : Method} {c : Code} {D : va_G} {cA : Nat → ClassId} {N0 : Nat} {Sh : jS} {I : jI} {P : jP} {L : jL} {Qf : State → Prop} (C : jC p (jRm 3 0 0) s m args meth c D cA N0 cX5_hashWeavers 8 RX5 3) {y : Nat} (S : cS Sh y) (T : cP P y) {f : sF} {og : Nat → Nat} (G : hG P (y + 1) og) (H : hR I (y + 1) og f) (V : sI f) {h0 h1 : Int64} {w : Nat} (hw : w < 6) (hx : jJ p l e (jRm 3 0 0) s m args below meth c D cA N0 8 Qf (fun _ => True) Sh I P L 0 0 53 [some (.ref y), some (.long h0), none, some (.long (smixN h1 (fun k => f (18 + 12 * w + k)) 8)), none, some (.int (nI w)), some (.ref (y + 1 + 7 + 3 * w)), some (.int (nI 8))] []) : ∀ d i, i + d = 8 → jJ p l e (jRm 3 0 0) s m args below meth c D cA N0 8 Qf (fun _ => True) Sh I P L 0 0 27 [some (.ref y), some (.long h0), none, some (.long (smixN h1 (fun k => f (18 + 12 * w + k)) i)), none, some (.int (nI w)), some (.ref (y + 1 + 7 + 3 * w)), some (.int (nI i))] [] := by
  intro d
  induction d with
  | zero =>
    intro i hi
    obtain rfl : i = 8 := by omega
    refine jx_iload (pc := 27) C dX5_hashWeavers_27 rfl ?_
    refine jx_bipush (pc := 29) C dX5_hashWeavers_29 nb_8 ?_
    refine jx_icmp_ge (pc := 31) C (tgt := 53) dX5_hashWeavers_31 (by decide) (fun c31 => ?_) (fun c31 => (by rw [nI_leI (by omega) (by omega)] at c31; exfalso; omega))
    rw [nI_leI (by omega) (by omega)] at c31
    exact hx
  | succ d ih =>
    intro i hi
    have hlt : i < 8 := by omega
    refine jx_iload (pc := 27) C dX5_hashWeavers_27 rfl ?_
    refine jx_bipush (pc := 29) C dX5_hashWeavers_29 nb_8 ?_
    refine jx_icmp_ge (pc := 31) C (tgt := 53) dX5_hashWeavers_31 (by decide) (fun c31 => (by rw [nI_leI (by omega) (by omega)] at c31; exfalso; omega)) (fun c31 => ?_)
    rw [nI_leI (by omega) (by omega)] at c31
    refine jx_lload_n (pc := 34) C dX5_hashWeavers_34 rfl ?_
    refine jx_aload (pc := 35) C dX5_hashWeavers_35 rfl ?_
    refine jx_iload (pc := 37) C dX5_hashWeavers_37 rfl ?_
    refine jx_callD (pc := 39) C (go_X5_191 C (S.h.wv hw) (Nat.le_of_ble_eq_true rfl) dX5_hashWeavers_39) (t_X3_property (S.h.wv hw) hlt) (by decide) (by decide) ⟨Nat.zero_le _, Nat.zero_le _⟩ ?_
    rw [H.wv hw hlt]
    refine jx_i2l (pc := 42) C dX5_hashWeavers_42 ?_
    refine jx_callD (pc := 43) C (go_X5_254 C  (Nat.le_of_ble_eq_true rfl) dX5_hashWeavers_43) t_X5_mixed (by decide) (by decide) ⟨Nat.zero_le _, Nat.zero_le _⟩ ?_
    refine jx_lstore_n (pc := 46) C dX5_hashWeavers_46 (jsetw_3 jc_n) (by decide) ?_
    refine jx_iincN (pc := 47) C dX5_hashWeavers_47 rfl (jset_7 jc_r) (by decide) ?_
    refine jx_goto (pc := 50) C (tgt := 27) dX5_hashWeavers_50 (by decide) ?_
    exact ih (i + 1) (by omega)

set_option maxHeartbeats 4000000 in
theorem lp_X5_hw2 {p : Program} {l : Launch} {e : Env} {s : State} {m : MethodId} {args : Array Value} {below : List Frame} {meth : Method} {c : Code} {D : va_G} {cA : Nat → ClassId} {N0 : Nat} {Sh : jS} {I : jI} {P : jP} {L : jL} {Qf : State → Prop} (C : jC p (jRm 3 0 0) s m args meth c D cA N0 cX5_hashWeavers 8 RX5 3) {y : Nat} (S : cS Sh y) (T : cP P y) {f : sF} {og : Nat → Nat} (G : hG P (y + 1) og) (H : hR I (y + 1) og f) (V : sI f) {h0 h1 : Int64} {w : Nat} (hw : w < 6) (hx : jJ p l e (jRm 3 0 0) s m args below meth c D cA N0 8 Qf (fun _ => True) Sh I P L 0 0 84 [some (.ref y), some (.long h0), none, some (.long (smixN h1 (fun k => f (18 + 12 * w + (8 + k))) 4)), none, some (.int (nI w)), some (.ref (y + 1 + 7 + 3 * w)), some (.int (nI 4))] []) : ∀ d i, i + d = 4 → jJ p l e (jRm 3 0 0) s m args below meth c D cA N0 8 Qf (fun _ => True) Sh I P L 0 0 56 [some (.ref y), some (.long h0), none, some (.long (smixN h1 (fun k => f (18 + 12 * w + (8 + k))) i)), none, some (.int (nI w)), some (.ref (y + 1 + 7 + 3 * w)), some (.int (nI i))] [] := by
  intro d
  induction d with
  | zero =>
    intro i hi
    obtain rfl : i = 4 := by omega
    refine jx_iload (pc := 56) C dX5_hashWeavers_56 rfl ?_
    refine jx_iconst (pc := 58) C dX5_hashWeavers_58 nc_4 ?_
    refine jx_icmp_ge (pc := 59) C (tgt := 84) dX5_hashWeavers_59 (by decide) (fun c59 => ?_) (fun c59 => (by rw [nI_leI (by omega) (by omega)] at c59; exfalso; omega))
    rw [nI_leI (by omega) (by omega)] at c59
    exact hx
  | succ d ih =>
    intro i hi
    have hlt : i < 4 := by omega
    refine jx_iload (pc := 56) C dX5_hashWeavers_56 rfl ?_
    refine jx_iconst (pc := 58) C dX5_hashWeavers_58 nc_4 ?_
    refine jx_icmp_ge (pc := 59) C (tgt := 84) dX5_hashWeavers_59 (by decide) (fun c59 => (by rw [nI_leI (by omega) (by omega)] at c59; exfalso; omega)) (fun c59 => ?_)
    rw [nI_leI (by omega) (by omega)] at c59
    refine jx_lload_n (pc := 62) C dX5_hashWeavers_62 rfl ?_
    refine jx_aload (pc := 63) C dX5_hashWeavers_63 rfl ?_
    refine jx_getP (pc := 65) C kf_X5_79 rfl (S.h.wv hw) (T.h.wy hw) dX5_hashWeavers_65 ?_
    refine jx_iload (pc := 68) C dX5_hashWeavers_68 rfl ?_
    refine jx_callD (pc := 70) C (go_X5_83 C (S.h.wy hw) (Nat.le_of_ble_eq_true rfl) dX5_hashWeavers_70) (t_X4_of (S.h.wy hw) (S.h.wg hw) (T.h.wg hw) hlt) (by decide) (by decide) ⟨Nat.zero_le _, Nat.zero_le _⟩ ?_
    rw [H.sh hw hlt]
    refine jx_i2l (pc := 73) C dX5_hashWeavers_73 ?_
    refine jx_callD (pc := 74) C (go_X5_254 C  (Nat.le_of_ble_eq_true rfl) dX5_hashWeavers_74) t_X5_mixed (by decide) (by decide) ⟨Nat.zero_le _, Nat.zero_le _⟩ ?_
    refine jx_lstore_n (pc := 77) C dX5_hashWeavers_77 (jsetw_3 jc_n) (by decide) ?_
    refine jx_iincN (pc := 78) C dX5_hashWeavers_78 rfl (jset_7 jc_r) (by decide) ?_
    refine jx_goto (pc := 81) C (tgt := 56) dX5_hashWeavers_81 (by decide) ?_
    exact ih (i + 1) (by omega)

set_option maxHeartbeats 4000000 in
theorem lp_X5_hw {p : Program} {l : Launch} {e : Env} {s : State} {m : MethodId} {args : Array Value} {below : List Frame} {meth : Method} {c : Code} {D : va_G} {cA : Nat → ClassId} {N0 : Nat} {Sh : jS} {I : jI} {P : jP} {L : jL} {Qf : State → Prop} (C : jC p (jRm 3 0 0) s m args meth c D cA N0 cX5_hashWeavers 8 RX5 3) {y : Nat} (S : cS Sh y) (T : cP P y) {f : sF} {og : Nat → Nat} (G : hG P (y + 1) og) (H : hR I (y + 1) og f) (V : sI f) {h0 : Int64} (hx : ∀ a b, jJ p l e (jRm 3 0 0) s m args below meth c D cA N0 8 Qf (fun _ => True) Sh I P L 0 0 120 [some (.ref y), some (.long h0), none, some (.long (sdwv f h0 6)), none, some (.int (nI 6)), a, b] []) : ∀ d w a b, w + d = 6 → jJ p l e (jRm 3 0 0) s m args below meth c D cA N0 8 Qf (fun _ => True) Sh I P L 0 0 5 [some (.ref y), some (.long h0), none, some (.long (sdwv f h0 w)), none, some (.int (nI w)), a, b] [] := by
  intro d
  induction d with
  | zero =>
    intro w a b hi
    obtain rfl : w = 6 := by omega
    refine jx_iload (pc := 5) C dX5_hashWeavers_5 rfl ?_
    refine jx_bipush (pc := 7) C dX5_hashWeavers_7 nb_6 ?_
    refine jx_icmp_ge (pc := 9) C (tgt := 120) dX5_hashWeavers_9 (by decide) (fun c9 => ?_) (fun c9 => (by rw [nI_leI (by omega) (by omega)] at c9; exfalso; omega))
    rw [nI_leI (by omega) (by omega)] at c9
    exact hx _ _
  | succ d ih =>
    intro w a b hi
    have hw : w < 6 := by omega
    refine jx_iload (pc := 5) C dX5_hashWeavers_5 rfl ?_
    refine jx_bipush (pc := 7) C dX5_hashWeavers_7 nb_6 ?_
    refine jx_icmp_ge (pc := 9) C (tgt := 120) dX5_hashWeavers_9 (by decide) (fun c9 => (by rw [nI_leI (by omega) (by omega)] at c9; exfalso; omega)) (fun c9 => ?_)
    rw [nI_leI (by omega) (by omega)] at c9
    refine jx_aload_n (pc := 12) C dX5_hashWeavers_12 rfl ?_
    refine jx_getP (pc := 13) C kf_X5_10 rfl S.obj T.hall dX5_hashWeavers_13 ?_
    refine jx_getP (pc := 16) C kf_X5_59 rfl S.h.hall T.h.wa dX5_hashWeavers_16 ?_
    refine jx_iload (pc := 19) C dX5_hashWeavers_19 rfl ?_
    refine jx_aald12 (pc := 21) C S.h.wa (by omega) (by decide) (T.h.wv hw) dX5_hashWeavers_21 ?_
    refine jx_astore (pc := 22) C dX5_hashWeavers_22 (jset_6 jc_i) (by decide) ?_
    refine jx_iconst (pc := 24) C dX5_hashWeavers_24 nc_0 ?_
    refine jx_istore (pc := 25) C dX5_hashWeavers_25 (jset_7 jc_r) (by decide) ?_
    generalize e1 : sdwv f h0 w = h1
    refine lp_X5_hw1 (h1 := h1) C S T G H V hw ?_ 8 0 rfl
    refine jx_iconst (pc := 53) C dX5_hashWeavers_53 nc_0 ?_
    refine jx_istore (pc := 54) C dX5_hashWeavers_54 (jset_7 jc_r) (by decide) ?_
    generalize e2 : smixN h1 (fun k => f (18 + 12 * w + k)) 8 = h2
    refine lp_X5_hw2 (h1 := h2) C S T G H V hw ?_ 4 0 rfl
    refine jx_lload_n (pc := 84) C dX5_hashWeavers_84 rfl ?_
    refine jx_aload_n (pc := 85) C dX5_hashWeavers_85 rfl ?_
    refine jx_getP (pc := 86) C kf_X5_10 rfl S.obj T.hall dX5_hashWeavers_86 ?_
    refine jx_aload (pc := 89) C dX5_hashWeavers_89 rfl ?_
    refine jx_callD (pc := 91) C (go_X5_209 C S.h.hall (Nat.le_of_ble_eq_true rfl) dX5_hashWeavers_91) (t_X0_chosenNumber S.h T.h G H V hw) (by decide) (by decide) ⟨Nat.zero_le _, Nat.zero_le _⟩ ?_
    refine jx_i2l (pc := 94) C dX5_hashWeavers_94 ?_
    refine jx_callD (pc := 95) C (go_X5_254 C  (Nat.le_of_ble_eq_true rfl) dX5_hashWeavers_95) t_X5_mixed (by decide) (by decide) ⟨Nat.zero_le _, Nat.zero_le _⟩ ?_
    refine jx_lstore_n (pc := 98) C dX5_hashWeavers_98 (jsetw_3 jc_n) (by decide) ?_
    refine jx_lload_n (pc := 99) C dX5_hashWeavers_99 rfl ?_
    refine jx_aload_n (pc := 100) C dX5_hashWeavers_100 rfl ?_
    refine jx_getP (pc := 101) C kf_X5_10 rfl S.obj T.hall dX5_hashWeavers_101 ?_
    refine jx_aload (pc := 104) C dX5_hashWeavers_104 rfl ?_
    refine jx_callD (pc := 106) C (go_X5_213 C S.h.hall (Nat.le_of_ble_eq_true rfl) dX5_hashWeavers_106) (t_X0_hindrance S.h T.h G H V hw) (by decide) (by decide) ⟨Nat.zero_le _, Nat.zero_le _⟩ ?_
    refine jx_i2l (pc := 109) C dX5_hashWeavers_109 ?_
    refine jx_callD (pc := 110) C (go_X5_254 C  (Nat.le_of_ble_eq_true rfl) dX5_hashWeavers_110) t_X5_mixed (by decide) (by decide) ⟨Nat.zero_le _, Nat.zero_le _⟩ ?_
    refine jx_lstore_n (pc := 113) C dX5_hashWeavers_113 (jsetw_3 jc_n) (by decide) ?_
    refine jx_iincN (pc := 114) C dX5_hashWeavers_114 rfl (jset_5 jc_n) (by decide) ?_
    refine jx_goto (pc := 117) C (tgt := 5) dX5_hashWeavers_117 (by decide) ?_
    have h6 := ih (w + 1) (some (.ref (y + 1 + 7 + 3 * w))) (some (.int (nI 4))) (by omega)
    rw [← e2, ← e1]
    rw [sdwv_s] at h6
    exact h6
set_option maxHeartbeats 4000000 in
theorem b_X5_hashWeavers {p : Program} {l : Launch} {e : Env} {s : State} {m : MethodId} {args : Array Value} {below : List Frame} {meth : Method} {c : Code} {D : va_G} {cA : Nat → ClassId} {N0 : Nat} {Sh : jS} {I : jI} {P : jP} {L : jL} (C : jC p (jRm 3 0 0) s m args meth c D cA N0 cX5_hashWeavers 8 RX5 3) (hr : meth.sig.returnType = (some .long)) {y : Nat} (S : cS Sh y) (T : cP P y) {f : sF} (M : cM I P y f) (V : sI f) {h0 : Int64} : jJ p l e (jRm 3 0 0) s m args below meth c D cA N0 8 (MQ below (jQn D cA N0 Sh (jD (some (.long (sdwv f h0 6))) I P L)) args s 0 0 (fun q => N0 ≤ q)) (fun _ => True) Sh I P L 0 0 0 [some (.ref y), some (.long h0), none, none, none, none, none, none] [] := by
  refine jx_lload_n (pc := 0) C dX5_hashWeavers_0 rfl ?_
  refine jx_lstore_n (pc := 1) C dX5_hashWeavers_1 (jsetw_3 jc_n) (by decide) ?_
  refine jx_iconst (pc := 2) C dX5_hashWeavers_2 nc_0 ?_
  refine jx_istore (pc := 3) C dX5_hashWeavers_3 (jset_5 jc_n) (by decide) ?_
  obtain ⟨og, H, G⟩ := M
  refine lp_X5_hw C S T G H V (fun a b => ?_) 6 0 none none rfl
  refine jx_lload_n (pc := 120) C dX5_hashWeavers_120 rfl ?_
  exact jn_lret (pc := 121) C hr (jD_r) dX5_hashWeavers_121
theorem t_X5_hashWeavers {l : Launch} {D : va_G} {cA : Nat → ClassId} {N0 : Nat} {Sh : jS} {I : jI} {P : jP} {L : jL} {y : Nat} (S : cS Sh y) (T : cP P y) {f : sF} (M : cM I P y f) (V : sI f) {h0 : Int64} : jN l D cA N0 3 yX5_hashWeavers cX5_hashWeavers 8 (some .long) [.ref y, .long h0] Sh I P L (jD (some (.long (sdwv f h0 6))) I P L) := jN_of (by decide) (Nat.le_of_ble_eq_true rfl) (fun _ _ _ _ _ _ _ _ C hr => b_X5_hashWeavers C hr S T M V)
set_option maxHeartbeats 4000000 in
theorem lp_X5_ho1 {p : Program} {l : Launch} {e : Env} {s : State} {m : MethodId} {args : Array Value} {below : List Frame} {meth : Method} {c : Code} {D : va_G} {cA : Nat → ClassId} {N0 : Nat} {Sh : jS} {I : jI} {P : jP} {L : jL} {Qf : State → Prop} (C : jC p (jRm 6 0 0) s m args meth c D cA N0 cX5_hashOrders 8 RX5 6) {y : Nat} (S : cS Sh y) (T : cP P y) {f : sF} {og : Nat → Nat} (G : hG P (y + 1) og) (V : sI f) {I1 : jI} (H1 : hR I1 (y + 1) og f) {h0 h1 : Int64} {o : Nat} (ho : o < smany f) (hx : jJ p l e (jRm 6 0 0) s m args below meth c D cA N0 8 Qf (fun _ => True) Sh I1 P L 0 0 73 [some (.ref y), some (.long h0), none, some (.long (smixN h1 (fun k => sofOrder f o k) 9)), none, some (.int (nI o)), some (.ref (y + 1 + 25 + 2 * og o)), some (.int (nI 9))] []) : ∀ d i, i + d = 9 → jJ p l e (jRm 6 0 0) s m args below meth c D cA N0 8 Qf (fun _ => True) Sh I1 P L 0 0 43 [some (.ref y), some (.long h0), none, some (.long (smixN h1 (fun k => sofOrder f o k) i)), none, some (.int (nI o)), some (.ref (y + 1 + 25 + 2 * og o)), some (.int (nI i))] [] := by
  intro d
  induction d with
  | zero =>
    intro i hi
    obtain rfl : i = 9 := by omega
    refine jx_iload (pc := 43) C dX5_hashOrders_43 rfl ?_
    refine jx_bipush (pc := 45) C dX5_hashOrders_45 nb_9 ?_
    refine jx_icmp_ge (pc := 47) C (tgt := 73) dX5_hashOrders_47 (by decide) (fun c47 => ?_) (fun c47 => (by rw [nI_leI (by omega) (by omega)] at c47; exfalso; omega))
    rw [nI_leI (by omega) (by omega)] at c47
    exact hx
  | succ d ih =>
    intro i hi
    have hlt : i < 9 := by omega
    refine jx_iload (pc := 43) C dX5_hashOrders_43 rfl ?_
    refine jx_bipush (pc := 45) C dX5_hashOrders_45 nb_9 ?_
    refine jx_icmp_ge (pc := 47) C (tgt := 73) dX5_hashOrders_47 (by decide) (fun c47 => (by rw [nI_leI (by omega) (by omega)] at c47; exfalso; omega)) (fun c47 => ?_)
    rw [nI_leI (by omega) (by omega)] at c47
    refine jx_lload_n (pc := 50) C dX5_hashOrders_50 rfl ?_
    refine jx_aload_n (pc := 51) C dX5_hashOrders_51 rfl ?_
    refine jx_getP (pc := 52) C kf_X5_10 rfl S.obj T.hall dX5_hashOrders_52 ?_
    refine jx_iload (pc := 55) C dX5_hashOrders_55 rfl ?_
    refine jx_iload (pc := 57) C dX5_hashOrders_57 rfl ?_
    refine jx_callD (pc := 59) C (go_X5_196 C S.h.hall (Nat.le_of_ble_eq_true rfl) dX5_hashOrders_59) (t_X0_orderProperty_s S.h T.h G H1 V ho hlt) (by decide) (by decide) ⟨Nat.zero_le _, Nat.zero_le _⟩ ?_
    refine jx_i2l (pc := 62) C dX5_hashOrders_62 ?_
    refine jx_callD (pc := 63) C (go_X5_254 C  (Nat.le_of_ble_eq_true rfl) dX5_hashOrders_63) t_X5_mixed (by decide) (by decide) ⟨Nat.zero_le _, Nat.zero_le _⟩ ?_
    refine jx_lstore_n (pc := 66) C dX5_hashOrders_66 (jsetw_3 jc_n) (by decide) ?_
    refine jx_iincN (pc := 67) C dX5_hashOrders_67 rfl (jset_7 jc_r) (by decide) ?_
    refine jx_goto (pc := 70) C (tgt := 43) dX5_hashOrders_70 (by decide) ?_
    exact ih (i + 1) (by omega)

set_option maxHeartbeats 4000000 in
theorem lp_X5_ho2 {p : Program} {l : Launch} {e : Env} {s : State} {m : MethodId} {args : Array Value} {below : List Frame} {meth : Method} {c : Code} {D : va_G} {cA : Nat → ClassId} {N0 : Nat} {Sh : jS} {I : jI} {P : jP} {L : jL} {Qf : State → Prop} (C : jC p (jRm 6 0 0) s m args meth c D cA N0 cX5_hashOrders 8 RX5 6) {y : Nat} (S : cS Sh y) (T : cP P y) {f : sF} {og : Nat → Nat} (G : hG P (y + 1) og) (V : sI f) {I1 : jI} (H1 : hR I1 (y + 1) og f) {h0 h1 : Int64} {o : Nat} (ho : o < smany f) (hqo : og o < 10) (hx : jJ p l e (jRm 6 0 0) s m args below meth c D cA N0 8 Qf (fun _ => True) Sh I1 P L 0 0 103 [some (.ref y), some (.long h0), none, some (.long (smixN h1 (fun k => f (90 + 12 * o + (6 + k))) 6)), none, some (.int (nI o)), some (.ref (y + 1 + 25 + 2 * og o)), some (.int (nI 6))] []) : ∀ d i, i + d = 6 → jJ p l e (jRm 6 0 0) s m args below meth c D cA N0 8 Qf (fun _ => True) Sh I1 P L 0 0 76 [some (.ref y), some (.long h0), none, some (.long (smixN h1 (fun k => f (90 + 12 * o + (6 + k))) i)), none, some (.int (nI o)), some (.ref (y + 1 + 25 + 2 * og o)), some (.int (nI i))] [] := by
  intro d
  induction d with
  | zero =>
    intro i hi
    obtain rfl : i = 6 := by omega
    refine jx_iload (pc := 76) C dX5_hashOrders_76 rfl ?_
    refine jx_bipush (pc := 78) C dX5_hashOrders_78 nb_6 ?_
    refine jx_icmp_ge (pc := 80) C (tgt := 103) dX5_hashOrders_80 (by decide) (fun c80 => ?_) (fun c80 => (by rw [nI_leI (by omega) (by omega)] at c80; exfalso; omega))
    rw [nI_leI (by omega) (by omega)] at c80
    exact hx
  | succ d ih =>
    intro i hi
    have hlt : i < 6 := by omega
    refine jx_iload (pc := 76) C dX5_hashOrders_76 rfl ?_
    refine jx_bipush (pc := 78) C dX5_hashOrders_78 nb_6 ?_
    refine jx_icmp_ge (pc := 80) C (tgt := 103) dX5_hashOrders_80 (by decide) (fun c80 => (by rw [nI_leI (by omega) (by omega)] at c80; exfalso; omega)) (fun c80 => ?_)
    rw [nI_leI (by omega) (by omega)] at c80
    refine jx_lload_n (pc := 83) C dX5_hashOrders_83 rfl ?_
    refine jx_aload (pc := 84) C dX5_hashOrders_84 rfl ?_
    refine jx_getP (pc := 86) C kf_X5_204 rfl (S.h.od hqo) (T.h.ob hqo) dX5_hashOrders_86 ?_
    refine jx_iload (pc := 89) C dX5_hashOrders_89 rfl ?_
    refine jx_ialdv (pc := 91) C (S.h.ob hqo) (by omega) (by decide) (H1.by ho hlt) dX5_hashOrders_91 ?_
    refine jx_i2l (pc := 92) C dX5_hashOrders_92 ?_
    refine jx_callD (pc := 93) C (go_X5_254 C  (Nat.le_of_ble_eq_true rfl) dX5_hashOrders_93) t_X5_mixed (by decide) (by decide) ⟨Nat.zero_le _, Nat.zero_le _⟩ ?_
    refine jx_lstore_n (pc := 96) C dX5_hashOrders_96 (jsetw_3 jc_n) (by decide) ?_
    refine jx_iincN (pc := 97) C dX5_hashOrders_97 rfl (jset_7 jc_r) (by decide) ?_
    refine jx_goto (pc := 100) C (tgt := 76) dX5_hashOrders_100 (by decide) ?_
    exact ih (i + 1) (by omega)

set_option maxHeartbeats 4000000 in
theorem lp_X5_ho {p : Program} {l : Launch} {e : Env} {s : State} {m : MethodId} {args : Array Value} {below : List Frame} {meth : Method} {c : Code} {D : va_G} {cA : Nat → ClassId} {N0 : Nat} {Sh : jS} {I : jI} {P : jP} {L : jL} {Qf : State → Prop} (C : jC p (jRm 6 0 0) s m args meth c D cA N0 cX5_hashOrders 8 RX5 6) {y : Nat} (S : cS Sh y) (T : cP P y) {f : sF} {og : Nat → Nat} (G : hG P (y + 1) og) (V : sI f) {J : jI} (HJ : hR J (y + 1) og f) (E : ∀ j, j < 10 → J (y + 95) j = endv f 200 j) {h0 : Int64} (hx : ∀ I1 a b, (∀ b, b ≠ y + 7 → I1 b = J b) → jJ p l e (jRm 6 0 0) s m args below meth c D cA N0 8 Qf (fun _ => True) Sh I1 P L 0 0 138 [some (.ref y), some (.long h0), none, some (.long (sdor f h0 (smany f))), none, some (.int (nI (smany f))), a, b] []) : ∀ d o I1 a b, o + d = smany f → (∀ b, b ≠ y + 7 → I1 b = J b) → jJ p l e (jRm 6 0 0) s m args below meth c D cA N0 8 Qf (fun _ => True) Sh I1 P L 0 0 9 [some (.ref y), some (.long h0), none, some (.long (sdor f h0 o)), none, some (.int (nI o)), a, b] [] := by
  have hk := V.1.2.1
  intro d
  induction d with
  | zero =>
    intro o I1 a b hi F1
    obtain rfl : o = smany f := by omega
    have H1 : hR I1 (y + 1) og f := HJ.keep hk G.lt (fun b h1 h2 h3 => F1 b (by omega))
    refine jx_iload (pc := 9) C dX5_hashOrders_9 rfl ?_
    refine jx_aload_n (pc := 11) C dX5_hashOrders_11 rfl ?_
    refine jx_getP (pc := 12) C kf_X5_10 rfl S.obj T.hall dX5_hashOrders_12 ?_
    refine jx_getIv (pc := 15) C kf_X5_110 rfl S.h.hall (H1.n5.trans V.1.1) dX5_hashOrders_15 ?_
    refine jx_icmp_ge (pc := 18) C (tgt := 138) dX5_hashOrders_18 (by decide) (fun c18 => ?_) (fun c18 => (by rw [nI_leI (by omega) (by omega)] at c18; exfalso; omega))
    rw [nI_leI (by omega) (by omega)] at c18
    exact hx _ _ _ F1
  | succ d ih =>
    intro o I1 a b hi F1
    have ho : o < smany f := by omega
    have hqo := G.lt o (by omega)
    have H1 : hR I1 (y + 1) og f := HJ.keep hk G.lt (fun b h1 h2 h3 => F1 b (by omega))
    have hen : I1 (y + 95) o = sbehind f (f (90 + 12 * o + 0)) := by rw [F1 _ (by omega), E o (by omega)]; exact endv_b ho
    refine jx_iload (pc := 9) C dX5_hashOrders_9 rfl ?_
    refine jx_aload_n (pc := 11) C dX5_hashOrders_11 rfl ?_
    refine jx_getP (pc := 12) C kf_X5_10 rfl S.obj T.hall dX5_hashOrders_12 ?_
    refine jx_getIv (pc := 15) C kf_X5_110 rfl S.h.hall (H1.n5.trans V.1.1) dX5_hashOrders_15 ?_
    refine jx_icmp_ge (pc := 18) C (tgt := 138) dX5_hashOrders_18 (by decide) (fun c18 => (by rw [nI_leI (by omega) (by omega)] at c18; exfalso; omega)) (fun c18 => ?_)
    rw [nI_leI (by omega) (by omega)] at c18
    refine jx_iload (pc := 21) C dX5_hashOrders_21 rfl ?_
    refine jx_bipush (pc := 23) C dX5_hashOrders_23 nb_10 ?_
    refine jx_icmp_ge (pc := 25) C (tgt := 138) dX5_hashOrders_25 (by decide) (fun c25 => (by rw [nI_leI (by omega) (by omega)] at c25; exfalso; omega)) (fun c25 => ?_)
    rw [nI_leI (by omega) (by omega)] at c25
    refine jx_aload_n (pc := 28) C dX5_hashOrders_28 rfl ?_
    refine jx_getP (pc := 29) C kf_X5_10 rfl S.obj T.hall dX5_hashOrders_29 ?_
    refine jx_getP (pc := 32) C kf_X5_304 rfl S.h.hall T.h.oa dX5_hashOrders_32 ?_
    refine jx_iload (pc := 35) C dX5_hashOrders_35 rfl ?_
    refine jx_aald13 (pc := 37) C S.h.oa (by omega) (by decide) (G.od (show o < 10 by omega)) dX5_hashOrders_37 ?_
    refine jx_astore (pc := 38) C dX5_hashOrders_38 (jset_6 jc_i) (by decide) ?_
    refine jx_iconst (pc := 40) C dX5_hashOrders_40 nc_0 ?_
    refine jx_istore (pc := 41) C dX5_hashOrders_41 (jset_7 jc_r) (by decide) ?_
    generalize e1 : sdor f h0 o = h1
    refine lp_X5_ho1 (I := I) (h1 := h1) C S T G V H1 ho ?_ 9 0 rfl
    refine jx_iconst (pc := 73) C dX5_hashOrders_73 nc_0 ?_
    refine jx_istore (pc := 74) C dX5_hashOrders_74 (jset_7 jc_r) (by decide) ?_
    generalize e2 : smixN h1 (fun k => sofOrder f o k) 9 = h2
    refine lp_X5_ho2 (I := I) (h1 := h2) C S T G V H1 ho hqo ?_ 6 0 rfl
    refine jx_lload_n (pc := 103) C dX5_hashOrders_103 rfl ?_
    refine jx_aload_n (pc := 104) C dX5_hashOrders_104 rfl ?_
    refine jx_getP (pc := 105) C kf_X5_34 rfl S.obj T.ends dX5_hashOrders_105 ?_
    refine jx_iload (pc := 108) C dX5_hashOrders_108 rfl ?_
    refine jx_ialdv (pc := 110) C S.en (by omega) (by decide) hen dX5_hashOrders_110 ?_
    refine jx_i2l (pc := 111) C dX5_hashOrders_111 ?_
    refine jx_callD (pc := 112) C (go_X5_254 C  (Nat.le_of_ble_eq_true rfl) dX5_hashOrders_112) t_X5_mixed (by decide) (by decide) ⟨Nat.zero_le _, Nat.zero_le _⟩ ?_
    refine jx_lstore_n (pc := 115) C dX5_hashOrders_115 (jsetw_3 jc_n) (by decide) ?_
    refine jx_lload_n (pc := 116) C dX5_hashOrders_116 rfl ?_
    refine jx_aload_n (pc := 117) C dX5_hashOrders_117 rfl ?_
    refine jx_getP (pc := 118) C kf_X5_10 rfl S.obj T.hall dX5_hashOrders_118 ?_
    refine jx_aload (pc := 121) C dX5_hashOrders_121 rfl ?_
    refine jx_iconst (pc := 123) C dX5_hashOrders_123 nc_0 ?_
    refine jx_calli (pc := 124) C (go_X5_237 C S.h.hall (Nat.le_of_ble_eq_true rfl) dX5_hashOrders_124) (t_X0_dueOf S.h T.h G H1 V (w := 0) (by decide) ho) (by decide) (by decide) ⟨Nat.zero_le _, Nat.zero_le _⟩ (fun r124 I124 P124 L124 q124 => ?_)
    obtain ⟨rfl, F2, rfl, rfl⟩ := q124
    refine jx_i2l (pc := 127) C dX5_hashOrders_127 ?_
    refine jx_callD (pc := 128) C (go_X5_254 C  (Nat.le_of_ble_eq_true rfl) dX5_hashOrders_128) t_X5_mixed (by decide) (by decide) ⟨Nat.zero_le _, Nat.zero_le _⟩ ?_
    refine jx_lstore_n (pc := 131) C dX5_hashOrders_131 (jsetw_3 jc_n) (by decide) ?_
    refine jx_iincN (pc := 132) C dX5_hashOrders_132 rfl (jset_5 jc_n) (by decide) ?_
    refine jx_goto (pc := 135) C (tgt := 9) dX5_hashOrders_135 (by decide) ?_
    have h6 := ih (o + 1) I124 (some (.ref (y + 1 + 25 + 2 * og o))) (some (.int (nI 6))) (by omega) (fun b hb => (F2 b (by omega)).trans (F1 b hb))
    rw [← e2, ← e1]
    have hs : sdor f h0 (o + 1) = (31 : Int64) * ((31 : Int64) * smixN (smixN (sdor f h0 o) (fun k => sofOrder f o k) 9) (fun k => f (90 + 12 * o + (6 + k))) 6 + (sbehind f (f (90 + 12 * o + 0))).toInt64) + (sdueN f o 0).toInt64 := smix_2
    rw [hs] at h6
    exact h6
set_option maxHeartbeats 4000000 in
theorem b_X5_hashOrders {p : Program} {l : Launch} {e : Env} {s : State} {m : MethodId} {args : Array Value} {below : List Frame} {meth : Method} {c : Code} {D : va_G} {cA : Nat → ClassId} {N0 : Nat} {Sh : jS} {I : jI} {P : jP} {L : jL} (C : jC p (jRm 6 0 0) s m args meth c D cA N0 cX5_hashOrders 8 RX5 6) (hr : meth.sig.returnType = (some .long)) {y : Nat} (S : cS Sh y) (T : cP P y) {f : sF} (M : cM I P y f) (V : sI f) (U : cT P y) {h0 : Int64} : jJ p l e (jRm 6 0 0) s m args below meth c D cA N0 8 (MQ below (jQn D cA N0 Sh (jNl (fun v' I' P' L' => v' = sdor f h0 (smany f) ∧ (∀ b, (b < y + 46 ∨ y + 91 ≤ b) → b ≠ y + 95 → b ≠ y + 7 → I' b = I b) ∧ hFP P (y + 46) P' ∧ cT P' y ∧ L' = L))) args s 0 0 (fun q => N0 ≤ q)) (fun _ => True) Sh I P L 0 0 0 [some (.ref y), some (.long h0), none, none, none, none, none, none] [] := by
  obtain ⟨og, H, G⟩ := M
  obtain ⟨ot, Gt⟩ := U
  have hk := V.1.2.1
  refine jx_lload_n (pc := 0) C dX5_hashOrders_0 rfl ?_
  refine jx_lstore_n (pc := 1) C dX5_hashOrders_1 (jsetw_3 jc_n) (by decide) ?_
  refine jx_aload_n (pc := 2) C dX5_hashOrders_2 rfl ?_
  refine jx_callv (pc := 3) C (go_X5_229 C S.obj (Nat.le_of_ble_eq_true rfl) dX5_hashOrders_3) (t_X5_foreseeEnds S T G H V Gt) (by decide) (by decide) ⟨Nat.zero_le _, Nat.zero_le _⟩ (fun I3 P3 L3 q3 => ?_)
  obtain ⟨E, F, P1f, U1, rfl⟩ := q3
  have T1 := T.ag (cE.trial P1f)
  have G1 := G.fo P1f (by omega)
  have H1 := H.ag hk G.lt (fun b h1 h2 => F b (by omega) (by omega))
  refine jx_iconst (pc := 6) C dX5_hashOrders_6 nc_0 ?_
  refine jx_istore (pc := 7) C dX5_hashOrders_7 (jset_5 jc_n) (by decide) ?_
  refine lp_X5_ho (I := I) (J := I3) C S T1 G1 V H1 E (fun I4 a b F4 => ?_) (smany f) 0 I3 none none (Nat.zero_add _) (fun _ _ => rfl)
  refine jx_lload_n (pc := 138) C dX5_hashOrders_138 rfl ?_
  exact jn_lret (pc := 139) C hr (⟨_, rfl, rfl, fun b h1 h2 h3 => (F4 b h3).trans (F b h1 h2), P1f, U1, rfl⟩) dX5_hashOrders_139
theorem t_X5_hashOrders {l : Launch} {D : va_G} {cA : Nat → ClassId} {N0 : Nat} {Sh : jS} {I : jI} {P : jP} {L : jL} {y : Nat} (S : cS Sh y) (T : cP P y) {f : sF} (M : cM I P y f) (V : sI f) (U : cT P y) {h0 : Int64} : jN l D cA N0 6 yX5_hashOrders cX5_hashOrders 8 (some .long) [.ref y, .long h0] Sh I P L (jNl (fun v' I' P' L' => v' = sdor f h0 (smany f) ∧ (∀ b, (b < y + 46 ∨ y + 91 ≤ b) → b ≠ y + 95 → b ≠ y + 7 → I' b = I b) ∧ hFP P (y + 46) P' ∧ cT P' y ∧ L' = L)) := jN_of (by decide) (Nat.le_of_ble_eq_true rfl) (fun _ _ _ _ _ _ _ _ C hr => b_X5_hashOrders C hr S T M V U)
