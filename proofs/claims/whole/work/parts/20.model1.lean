theorem schosN_n {f : sF} {w i : Nat} (h : schosN f w i = none) : schosN f w (i + 1) = if f (90 + 12 * i + 2) ≤ f (18 + 12 * w + 0) then some i else none := by
  show (match schosN f w i with | none => _ | some q => _) = _
  rw [h]
theorem schosN_s {f : sF} {w i q : Nat} (h : schosN f w i = some q) : schosN f w (i + 1) = if f (90 + 12 * i + 2) ≤ f (18 + 12 * w + 0) ∧ sworth f q < sworth f i then some i else some q := by
  show (match schosN f w i with | none => _ | some q => _) = _
  rw [h]
set_option maxHeartbeats 4000000 in
theorem b_X6_thrown {p : Program} {l : Launch} {e : Env} {s : State} {m : MethodId} {args : Array Value} {below : List Frame} {meth : Method} {c : Code} {D : va_G} {cA : Nat → ClassId} {N0 : Nat} {Sh : jS} {I : jI} {P : jP} {L : jL} (C : jC p (jRm 0 0 0) s m args meth c D cA N0 cX6_thrown 1 RX6 0) (hr : meth.sig.returnType = (some .int)) {x n0 : Nat} (hm : Sh x = some (6, n0)) : jJ p l e (jRm 0 0 0) s m args below meth c D cA N0 1 (MQ below (jQn D cA N0 Sh (jD (some (.int (I x 6))) I P L)) args s 0 0 (fun q => N0 ≤ q)) (fun _ => True) Sh I P L 0 0 0 [some (.ref x)] [] := by
  refine jx_aload_n (pc := 0) C dX6_thrown_0 rfl ?_
  refine jx_getI (pc := 1) C kf_X6_28 rfl hm dX6_thrown_1 ?_
  exact jn_iret (pc := 4) C hr (jD_r) dX6_thrown_4
theorem t_X6_thrown {l : Launch} {D : va_G} {cA : Nat → ClassId} {N0 : Nat} {Sh : jS} {I : jI} {P : jP} {L : jL} {x n0 : Nat} (hm : Sh x = some (6, n0)) : jN l D cA N0 0 yX6_thrown cX6_thrown 1 (some .int) [.ref x] Sh I P L (jD (some (.int (I x 6))) I P L) := jN_of (by decide) (Nat.le_of_ble_eq_true rfl) (fun _ _ _ _ _ _ _ _ C hr => b_X6_thrown C hr hm)
set_option maxHeartbeats 4000000 in
theorem b_X6_fails {p : Program} {l : Launch} {e : Env} {s : State} {m : MethodId} {args : Array Value} {below : List Frame} {meth : Method} {c : Code} {D : va_G} {cA : Nat → ClassId} {N0 : Nat} {Sh : jS} {I : jI} {P : jP} {L : jL} (C : jC p (jRm 0 0 0) s m args meth c D cA N0 cX6_fails 2 RX6 0) (hr : meth.sig.returnType = (some .int)) {x n0 : Nat} (hm : Sh x = some (6, n0)) {k : Int32} : jJ p l e (jRm 0 0 0) s m args below meth c D cA N0 2 (MQ below (jQn D cA N0 Sh (jD (some (.int (nI 0))) (jst I x 6 k) P L)) args s 0 0 (fun q => N0 ≤ q)) (fun _ => True) Sh I P L 0 0 0 [some (.ref x), some (.int k)] [] := by
  refine jx_aload_n (pc := 0) C dX6_fails_0 rfl ?_
  refine jx_iload_n (pc := 1) C dX6_fails_1 rfl ?_
  refine jx_putI (pc := 2) C kf_X6_28 rfl rfl rfl rfl hm dX6_fails_2 ?_
  refine jx_iconst (pc := 5) C dX6_fails_5 nc_0 ?_
  exact jn_iret (pc := 6) C hr (jD_r) dX6_fails_6
theorem t_X6_fails {l : Launch} {D : va_G} {cA : Nat → ClassId} {N0 : Nat} {Sh : jS} {I : jI} {P : jP} {L : jL} {x n0 : Nat} (hm : Sh x = some (6, n0)) {k : Int32} : jN l D cA N0 0 yX6_fails cX6_fails 2 (some .int) [.ref x, .int k] Sh I P L (jD (some (.int (nI 0))) (jst I x 6 k) P L) := jN_of (by decide) (Nat.le_of_ble_eq_true rfl) (fun _ _ _ _ _ _ _ _ C hr => b_X6_fails C hr hm)
set_option maxHeartbeats 4000000 in
theorem b_X6_in {p : Program} {l : Launch} {e : Env} {s : State} {m : MethodId} {args : Array Value} {below : List Frame} {meth : Method} {c : Code} {D : va_G} {cA : Nat → ClassId} {N0 : Nat} {Sh : jS} {I : jI} {P : jP} {L : jL} (C : jC p (jRm 0 0 0) s m args meth c D cA N0 cX6_in 3 RX6 0) (hr : meth.sig.returnType = (some .boolean)) {v low high : Int32} : jJ p l e (jRm 0 0 0) s m args below meth c D cA N0 3 (MQ below (jQn D cA N0 Sh (jD (some (.int (bI (decide (low ≤ v ∧ v ≤ high))))) I P L)) args s 0 0 (fun q => N0 ≤ q)) (fun _ => True) Sh I P L 0 0 0 [some (.int v), some (.int low), some (.int high)] [] := by
  have h0 : (¬ (low ≤ v ∧ v ≤ high)) → jJ p l e (jRm 0 0 0) s m args below meth c D cA N0 3 (MQ below (jQn D cA N0 Sh (jD (some (.int (bI (decide (low ≤ v ∧ v ≤ high))))) I P L)) args s 0 0 (fun q => N0 ≤ q)) (fun _ => True) Sh I P L 0 0 14 [some (.int v), some (.int low), some (.int high)] [] := fun h => by
    refine jx_iconst (pc := 14) C dX6_in_14 nc_0 ?_
    exact jn_zret (pc := 15) C hr (rfl) (jD_i (bI_decn h)) dX6_in_15
  refine jx_iload_n (pc := 0) C dX6_in_0 rfl ?_
  refine jx_iload_n (pc := 1) C dX6_in_1 rfl ?_
  refine jx_icmp_lt (pc := 2) C (tgt := 14) dX6_in_2 (by decide) (fun c2 => ?_) (fun c2 => ?_)
  · first | exact h0 (fun h => i32_nlt.mpr h.2 (by assumption)) | exact h0 (fun h => i32_nlt.mpr h.1 (by assumption))
  · refine jx_iload_n (pc := 5) C dX6_in_5 rfl ?_
    refine jx_iload_n (pc := 6) C dX6_in_6 rfl ?_
    refine jx_icmp_gt (pc := 7) C (tgt := 14) dX6_in_7 (by decide) (fun c7 => ?_) (fun c7 => ?_)
    · first | exact h0 (fun h => i32_nlt.mpr h.2 (by assumption)) | exact h0 (fun h => i32_nlt.mpr h.1 (by assumption))
    · refine jx_iconst (pc := 10) C dX6_in_10 nc_1 ?_
      refine jx_goto (pc := 11) C (tgt := 15) dX6_in_11 (by decide) ?_
      exact jn_zret (pc := 15) C hr (rfl) (jD_i (bI_dec ⟨i32_nlt.mp c2, i32_nlt.mp c7⟩)) dX6_in_15
theorem t_X6_in {l : Launch} {D : va_G} {cA : Nat → ClassId} {N0 : Nat} {Sh : jS} {I : jI} {P : jP} {L : jL} {v low high : Int32} : jN l D cA N0 0 yX6_in cX6_in 3 (some .boolean) [.int v, .int low, .int high] Sh I P L (jD (some (.int (bI (decide (low ≤ v ∧ v ≤ high))))) I P L) := jN_of (by decide) (Nat.le_of_ble_eq_true rfl) (fun _ _ _ _ _ _ _ _ C hr => b_X6_in C hr )
set_option maxHeartbeats 4000000 in
theorem b_X6_isWeaver {p : Program} {l : Launch} {e : Env} {s : State} {m : MethodId} {args : Array Value} {below : List Frame} {meth : Method} {c : Code} {D : va_G} {cA : Nat → ClassId} {N0 : Nat} {Sh : jS} {I : jI} {P : jP} {L : jL} (C : jC p (jRm 1 0 0) s m args meth c D cA N0 cX6_isWeaver 1 RX6 1) (hr : meth.sig.returnType = (some .boolean)) {v : Int32} : jJ p l e (jRm 1 0 0) s m args below meth c D cA N0 1 (MQ below (jQn D cA N0 Sh (jD (some (.int (bI (decide (nI 0 ≤ v ∧ v ≤ nI 5))))) I P L)) args s 0 0 (fun q => N0 ≤ q)) (fun _ => True) Sh I P L 0 0 0 [some (.int v)] [] := by
  refine jx_iload_n (pc := 0) C dX6_isWeaver_0 rfl ?_
  refine jx_iconst (pc := 1) C dX6_isWeaver_1 nc_0 ?_
  refine jx_iconst (pc := 2) C dX6_isWeaver_2 nc_5 ?_
  refine jx_callD (pc := 3) C (go_X6_32 C  (Nat.le_of_ble_eq_true rfl) dX6_isWeaver_3) t_X6_in (by decide) (by decide) ⟨Nat.zero_le _, Nat.zero_le _⟩ ?_
  exact jn_zret (pc := 6) C hr (bI_nar _) (jD_r) dX6_isWeaver_6
theorem t_X6_isWeaver {l : Launch} {D : va_G} {cA : Nat → ClassId} {N0 : Nat} {Sh : jS} {I : jI} {P : jP} {L : jL} {v : Int32} : jN l D cA N0 1 yX6_isWeaver cX6_isWeaver 1 (some .boolean) [.int v] Sh I P L (jD (some (.int (bI (decide (nI 0 ≤ v ∧ v ≤ nI 5))))) I P L) := jN_of (by decide) (Nat.le_of_ble_eq_true rfl) (fun _ _ _ _ _ _ _ _ C hr => b_X6_isWeaver C hr )
set_option maxHeartbeats 4000000 in
theorem b_X6_isColour {p : Program} {l : Launch} {e : Env} {s : State} {m : MethodId} {args : Array Value} {below : List Frame} {meth : Method} {c : Code} {D : va_G} {cA : Nat → ClassId} {N0 : Nat} {Sh : jS} {I : jI} {P : jP} {L : jL} (C : jC p (jRm 1 0 0) s m args meth c D cA N0 cX6_isColour 1 RX6 1) (hr : meth.sig.returnType = (some .boolean)) {v : Int32} : jJ p l e (jRm 1 0 0) s m args below meth c D cA N0 1 (MQ below (jQn D cA N0 Sh (jD (some (.int (bI (decide (nI 0 ≤ v ∧ v ≤ nI 3))))) I P L)) args s 0 0 (fun q => N0 ≤ q)) (fun _ => True) Sh I P L 0 0 0 [some (.int v)] [] := by
  refine jx_iload_n (pc := 0) C dX6_isColour_0 rfl ?_
  refine jx_iconst (pc := 1) C dX6_isColour_1 nc_0 ?_
  refine jx_iconst (pc := 2) C dX6_isColour_2 nc_3 ?_
  refine jx_callD (pc := 3) C (go_X6_32 C  (Nat.le_of_ble_eq_true rfl) dX6_isColour_3) t_X6_in (by decide) (by decide) ⟨Nat.zero_le _, Nat.zero_le _⟩ ?_
  exact jn_zret (pc := 6) C hr (bI_nar _) (jD_r) dX6_isColour_6
theorem t_X6_isColour {l : Launch} {D : va_G} {cA : Nat → ClassId} {N0 : Nat} {Sh : jS} {I : jI} {P : jP} {L : jL} {v : Int32} : jN l D cA N0 1 yX6_isColour cX6_isColour 1 (some .boolean) [.int v] Sh I P L (jD (some (.int (bI (decide (nI 0 ≤ v ∧ v ≤ nI 3))))) I P L) := jN_of (by decide) (Nat.le_of_ble_eq_true rfl) (fun _ _ _ _ _ _ _ _ C hr => b_X6_isColour C hr )
set_option maxHeartbeats 4000000 in
theorem b_X6_of {p : Program} {l : Launch} {e : Env} {s : State} {m : MethodId} {args : Array Value} {below : List Frame} {meth : Method} {c : Code} {D : va_G} {cA : Nat → ClassId} {N0 : Nat} {Sh : jS} {I : jI} {P : jP} {L : jL} (C : jC p (jRm 0 0 0) s m args meth c D cA N0 cX6_of 3 RX6 0) (hr : meth.sig.returnType = (some .int)) {a : Nat} (hs : Sh a = some (10, 210)) {o w : Nat} (ho : 18 + 12 * o + w < 210) : jJ p l e (jRm 0 0 0) s m args below meth c D cA N0 3 (MQ below (jQn D cA N0 Sh (jD (some (.int (I a (18 + 12 * o + w)))) I P L)) args s 0 0 (fun q => N0 ≤ q)) (fun _ => True) Sh I P L 0 0 0 [some (.ref a), some (.int (nI o)), some (.int (nI w))] [] := by
  refine jx_aload_n (pc := 0) C dX6_of_0 rfl ?_
  refine jx_bipush (pc := 1) C dX6_of_1 nb_18 ?_
  refine jx_bipush (pc := 3) C dX6_of_3 nb_12 ?_
  refine jx_iload_n (pc := 5) C dX6_of_5 rfl ?_
  refine jx_imulN (pc := 6) C dX6_of_6 ?_
  refine jx_iaddN (pc := 7) C dX6_of_7 ?_
  refine jx_iload_n (pc := 8) C dX6_of_8 rfl ?_
  refine jx_iaddN (pc := 9) C dX6_of_9 ?_
  refine jx_iald (pc := 10) C hs (by omega) (by decide) dX6_of_10 ?_
  exact jn_iret (pc := 11) C hr (jD_r) dX6_of_11
theorem t_X6_of {l : Launch} {D : va_G} {cA : Nat → ClassId} {N0 : Nat} {Sh : jS} {I : jI} {P : jP} {L : jL} {a : Nat} (hs : Sh a = some (10, 210)) {o w : Nat} (ho : 18 + 12 * o + w < 210) : jN l D cA N0 0 yX6_of cX6_of 3 (some .int) [.ref a, .int (nI o), .int (nI w)] Sh I P L (jD (some (.int (I a (18 + 12 * o + w)))) I P L) := jN_of (by decide) (Nat.le_of_ble_eq_true rfl) (fun _ _ _ _ _ _ _ _ C hr => b_X6_of C hr hs ho)
set_option maxHeartbeats 4000000 in
theorem b_X6_by {p : Program} {l : Launch} {e : Env} {s : State} {m : MethodId} {args : Array Value} {below : List Frame} {meth : Method} {c : Code} {D : va_G} {cA : Nat → ClassId} {N0 : Nat} {Sh : jS} {I : jI} {P : jP} {L : jL} (C : jC p (jRm 0 0 0) s m args meth c D cA N0 cX6_by 3 RX6 0) (hr : meth.sig.returnType = (some .int)) {a : Nat} (hs : Sh a = some (10, 210)) {o w : Nat} (ho : 90 + 12 * o + w < 210) : jJ p l e (jRm 0 0 0) s m args below meth c D cA N0 3 (MQ below (jQn D cA N0 Sh (jD (some (.int (I a (90 + 12 * o + w)))) I P L)) args s 0 0 (fun q => N0 ≤ q)) (fun _ => True) Sh I P L 0 0 0 [some (.ref a), some (.int (nI o)), some (.int (nI w))] [] := by
  refine jx_aload_n (pc := 0) C dX6_by_0 rfl ?_
  refine jx_bipush (pc := 1) C dX6_by_1 nb_90 ?_
  refine jx_bipush (pc := 3) C dX6_by_3 nb_12 ?_
  refine jx_iload_n (pc := 5) C dX6_by_5 rfl ?_
  refine jx_imulN (pc := 6) C dX6_by_6 ?_
  refine jx_iaddN (pc := 7) C dX6_by_7 ?_
  refine jx_iload_n (pc := 8) C dX6_by_8 rfl ?_
  refine jx_iaddN (pc := 9) C dX6_by_9 ?_
  refine jx_iald (pc := 10) C hs (by omega) (by decide) dX6_by_10 ?_
  exact jn_iret (pc := 11) C hr (jD_r) dX6_by_11
theorem t_X6_by {l : Launch} {D : va_G} {cA : Nat → ClassId} {N0 : Nat} {Sh : jS} {I : jI} {P : jP} {L : jL} {a : Nat} (hs : Sh a = some (10, 210)) {o w : Nat} (ho : 90 + 12 * o + w < 210) : jN l D cA N0 0 yX6_by cX6_by 3 (some .int) [.ref a, .int (nI o), .int (nI w)] Sh I P L (jD (some (.int (I a (90 + 12 * o + w)))) I P L) := jN_of (by decide) (Nat.le_of_ble_eq_true rfl) (fun _ _ _ _ _ _ _ _ C hr => b_X6_by C hr hs ho)
set_option maxHeartbeats 4000000 in
theorem b_X6_adds {p : Program} {l : Launch} {e : Env} {s : State} {m : MethodId} {args : Array Value} {below : List Frame} {meth : Method} {c : Code} {D : va_G} {cA : Nat → ClassId} {N0 : Nat} {Sh : jS} {I : jI} {P : jP} {L : jL} (C : jC p (jRm 0 0 0) s m args meth c D cA N0 cX6_adds 4 RX6 0) (hr : meth.sig.returnType = none) {a : Nat} (hs : Sh a = some (10, 210)) {o w : Nat} {v : Int32} (ho : 18 + 12 * o + w < 210) : jJ p l e (jRm 0 0 0) s m args below meth c D cA N0 4 (MQ below (jQn D cA N0 Sh (jD none (jst I a (18 + 12 * o + w) (I a (18 + 12 * o + w) + v)) P L)) args s 0 0 (fun q => N0 ≤ q)) (fun _ => True) Sh I P L 0 0 0 [some (.ref a), some (.int (nI o)), some (.int (nI w)), some (.int v)] [] := by
  refine jx_aload_n (pc := 0) C dX6_adds_0 rfl ?_
  refine jx_bipush (pc := 1) C dX6_adds_1 nb_18 ?_
  refine jx_bipush (pc := 3) C dX6_adds_3 nb_12 ?_
  refine jx_iload_n (pc := 5) C dX6_adds_5 rfl ?_
  refine jx_imulN (pc := 6) C dX6_adds_6 ?_
  refine jx_iaddN (pc := 7) C dX6_adds_7 ?_
  refine jx_iload_n (pc := 8) C dX6_adds_8 rfl ?_
  refine jx_iaddN (pc := 9) C dX6_adds_9 ?_
  refine jx_dup2_11 (pc := 10) C dX6_adds_10 rfl rfl ?_
  refine jx_iald (pc := 11) C hs (by omega) (by decide) dX6_adds_11 ?_
  refine jx_iload_n (pc := 12) C dX6_adds_12 rfl ?_
  refine jx_iadd (pc := 13) C dX6_adds_13 ?_
  refine jx_iast (pc := 14) C hs (by omega) (by decide) dX6_adds_14 ?_
  exact jn_vret (pc := 15) C hr (jD_r) dX6_adds_15
theorem t_X6_adds {l : Launch} {D : va_G} {cA : Nat → ClassId} {N0 : Nat} {Sh : jS} {I : jI} {P : jP} {L : jL} {a : Nat} (hs : Sh a = some (10, 210)) {o w : Nat} {v : Int32} (ho : 18 + 12 * o + w < 210) : jN l D cA N0 0 yX6_adds cX6_adds 4 none [.ref a, .int (nI o), .int (nI w), .int v] Sh I P L (jD none (jst I a (18 + 12 * o + w) (I a (18 + 12 * o + w) + v)) P L) := jN_of (by decide) (Nat.le_of_ble_eq_true rfl) (fun _ _ _ _ _ _ _ _ C hr => b_X6_adds C hr hs ho)
set_option maxHeartbeats 4000000 in
theorem b_X6_grams {p : Program} {l : Launch} {e : Env} {s : State} {m : MethodId} {args : Array Value} {below : List Frame} {meth : Method} {c : Code} {D : va_G} {cA : Nat → ClassId} {N0 : Nat} {Sh : jS} {I : jI} {P : jP} {L : jL} (C : jC p (jRm 1 0 0) s m args meth c D cA N0 cX6_grams 2 RX6 1) (hr : meth.sig.returnType = (some .int)) {a : Nat} (hs : Sh a = some (10, 210)) {o : Nat} (ho : o < 10) : jJ p l e (jRm 1 0 0) s m args below meth c D cA N0 2 (MQ below (jQn D cA N0 Sh (jD (some (.int (sgrams (I a) o))) I P L)) args s 0 0 (fun q => N0 ≤ q)) (fun _ => True) Sh I P L 0 0 0 [some (.ref a), some (.int (nI o))] [] := by
  refine jx_aload_n (pc := 0) C dX6_grams_0 rfl ?_
  refine jx_iload_n (pc := 1) C dX6_grams_1 rfl ?_
  refine jx_iconst (pc := 2) C dX6_grams_2 nc_2 ?_
  refine jx_callD (pc := 3) C (go_X6_43 C  (Nat.le_of_ble_eq_true rfl) dX6_grams_3) (t_X6_by hs (by omega)) (by decide) (by decide) ⟨Nat.zero_le _, Nat.zero_le _⟩ ?_
  refine jx_bipush (pc := 6) C dX6_grams_6 nb_9 ?_
  refine jx_iadd (pc := 8) C dX6_grams_8 ?_
  refine jx_bipush (pc := 9) C dX6_grams_9 nb_10 ?_
  refine jx_idiv (pc := 11) C dX6_grams_11 (by decide +kernel) ?_
  exact jn_iret (pc := 12) C hr (jD_r) dX6_grams_12
theorem t_X6_grams {l : Launch} {D : va_G} {cA : Nat → ClassId} {N0 : Nat} {Sh : jS} {I : jI} {P : jP} {L : jL} {a : Nat} (hs : Sh a = some (10, 210)) {o : Nat} (ho : o < 10) : jN l D cA N0 1 yX6_grams cX6_grams 2 (some .int) [.ref a, .int (nI o)] Sh I P L (jD (some (.int (sgrams (I a) o))) I P L) := jN_of (by decide) (Nat.le_of_ble_eq_true rfl) (fun _ _ _ _ _ _ _ _ C hr => b_X6_grams C hr hs ho)
set_option maxHeartbeats 4000000 in
theorem lp_X6_good {p : Program} {l : Launch} {e : Env} {s : State} {m : MethodId} {args : Array Value} {below : List Frame} {meth : Method} {c : Code} {D : va_G} {cA : Nat → ClassId} {N0 : Nat} {Sh : jS} {I : jI} {P : jP} {L : jL} {Qf : State → Prop} (C : jC p (jRm 1 0 0) s m args meth c D cA N0 cX6_good 4 RX6 1) {a : Nat} (hs : Sh a = some (10, 210)) {o : Nat} (ho : o < 10) (hx : jJ p l e (jRm 1 0 0) s m args below meth c D cA N0 4 Qf (fun _ => True) Sh I P L 0 0 28 [some (.ref a), some (.int (nI o)), some (.int (sgood (I a) o)), some (.int (nI 6))] []) : ∀ d w, w + d = 6 → jJ p l e (jRm 1 0 0) s m args below meth c D cA N0 4 Qf (fun _ => True) Sh I P L 0 0 4 [some (.ref a), some (.int (nI o)), some (.int (ssum (fun w => I a (90 + 12 * o + (6 + w))) w)), some (.int (nI w))] [] := by
  intro d
  induction d with
  | zero =>
    intro w hw
    obtain rfl : w = 6 := by omega
    refine jx_iload_n (pc := 4) C dX6_good_4 rfl ?_
    refine jx_bipush (pc := 5) C dX6_good_5 nb_6 ?_
    refine jx_icmp_ge (pc := 7) C (tgt := 28) dX6_good_7 (by decide) (fun c7 => ?_) (fun c7 => (by rw [nI_leI (by omega) (by omega)] at c7; exfalso; omega))
    rw [nI_leI (by omega) (by omega)] at c7
    exact hx
  | succ d ih =>
    intro w hw
    refine jx_iload_n (pc := 4) C dX6_good_4 rfl ?_
    refine jx_bipush (pc := 5) C dX6_good_5 nb_6 ?_
    refine jx_icmp_ge (pc := 7) C (tgt := 28) dX6_good_7 (by decide) (fun c7 => (by rw [nI_leI (by omega) (by omega)] at c7; exfalso; omega)) (fun c7 => ?_)
    rw [nI_leI (by omega) (by omega)] at c7
    refine jx_iload_n (pc := 10) C dX6_good_10 rfl ?_
    refine jx_aload_n (pc := 11) C dX6_good_11 rfl ?_
    refine jx_iload_n (pc := 12) C dX6_good_12 rfl ?_
    refine jx_bipush (pc := 13) C dX6_good_13 nb_6 ?_
    refine jx_iload_n (pc := 15) C dX6_good_15 rfl ?_
    refine jx_iaddN (pc := 16) C dX6_good_16 ?_
    refine jx_callD (pc := 17) C (go_X6_43 C  (Nat.le_of_ble_eq_true rfl) dX6_good_17) (t_X6_by hs (by omega)) (by decide) (by decide) ⟨Nat.zero_le _, Nat.zero_le _⟩ ?_
    refine jx_iadd (pc := 20) C dX6_good_20 ?_
    refine jx_istore_n (pc := 21) C dX6_good_21 (jset_2 jc_i) (by decide) ?_
    refine jx_iincN (pc := 22) C dX6_good_22 rfl (jset_3 jc_i) (by decide) ?_
    refine jx_goto (pc := 25) C (tgt := 4) dX6_good_25 (by decide) ?_
    exact ih (w + 1) (by omega)
set_option maxHeartbeats 4000000 in
theorem b_X6_good {p : Program} {l : Launch} {e : Env} {s : State} {m : MethodId} {args : Array Value} {below : List Frame} {meth : Method} {c : Code} {D : va_G} {cA : Nat → ClassId} {N0 : Nat} {Sh : jS} {I : jI} {P : jP} {L : jL} (C : jC p (jRm 1 0 0) s m args meth c D cA N0 cX6_good 4 RX6 1) (hr : meth.sig.returnType = (some .int)) {a : Nat} (hs : Sh a = some (10, 210)) {o : Nat} (ho : o < 10) : jJ p l e (jRm 1 0 0) s m args below meth c D cA N0 4 (MQ below (jQn D cA N0 Sh (jD (some (.int (sgood (I a) o))) I P L)) args s 0 0 (fun q => N0 ≤ q)) (fun _ => True) Sh I P L 0 0 0 [some (.ref a), some (.int (nI o)), none, none] [] := by
  refine jx_iconst (pc := 0) C dX6_good_0 nc_0 ?_
  refine jx_istore_n (pc := 1) C dX6_good_1 (jset_2 jc_i) (by decide) ?_
  refine jx_iconst (pc := 2) C dX6_good_2 nc_0 ?_
  refine jx_istore_n (pc := 3) C dX6_good_3 (jset_3 jc_i) (by decide) ?_
  refine lp_X6_good C hs ho ?_ 6 0 rfl
  refine jx_iload_n (pc := 28) C dX6_good_28 rfl ?_
  exact jn_iret (pc := 29) C hr (jD_r) dX6_good_29
theorem t_X6_good {l : Launch} {D : va_G} {cA : Nat → ClassId} {N0 : Nat} {Sh : jS} {I : jI} {P : jP} {L : jL} {a : Nat} (hs : Sh a = some (10, 210)) {o : Nat} (ho : o < 10) : jN l D cA N0 1 yX6_good cX6_good 4 (some .int) [.ref a, .int (nI o)] Sh I P L (jD (some (.int (sgood (I a) o))) I P L) := jN_of (by decide) (Nat.le_of_ble_eq_true rfl) (fun _ _ _ _ _ _ _ _ C hr => b_X6_good C hr hs ho)
set_option maxHeartbeats 4000000 in
theorem lp_X6_placeOf {p : Program} {l : Launch} {e : Env} {s : State} {m : MethodId} {args : Array Value} {below : List Frame} {meth : Method} {c : Code} {D : va_G} {cA : Nat → ClassId} {N0 : Nat} {Sh : jS} {I : jI} {P : jP} {L : jL} {Qf : State → Prop} (C : jC p (jRm 1 0 0) s m args meth c D cA N0 cX6_placeOf 3 RX6 1) {a : Nat} (hs : Sh a = some (10, 210)) {num : Int32} (hm : I a 5 = nI (smany (I a))) (hk : smany (I a) ≤ 10) (hx : sfst (fun o => decide (I a (90 + 12 * o + 0) = num)) (smany (I a)) = none → jJ p l e (jRm 1 0 0) s m args below meth c D cA N0 3 Qf (fun _ => True) Sh I P L 0 0 27 [some (.ref a), some (.int num), some (.int (nI (smany (I a))))] []) (hy : ∀ i, i < 10 → splace (I a) num = some i → jJ p l e (jRm 1 0 0) s m args below meth c D cA N0 3 Qf (fun _ => True) Sh I P L 0 0 19 [some (.ref a), some (.int num), some (.int (nI i))] []) : ∀ d i, i + d = smany (I a) → sfst (fun o => decide (I a (90 + 12 * o + 0) = num)) i = none → jJ p l e (jRm 1 0 0) s m args below meth c D cA N0 3 Qf (fun _ => True) Sh I P L 0 0 2 [some (.ref a), some (.int num), some (.int (nI i))] [] := by
  intro d
  induction d with
  | zero =>
    intro i hi hn
    obtain rfl : i = smany (I a) := by omega
    refine jx_iload_n (pc := 2) C dX6_placeOf_2 rfl ?_
    refine jx_aload_n (pc := 3) C dX6_placeOf_3 rfl ?_
    refine jx_iconst (pc := 4) C dX6_placeOf_4 nc_5 ?_
    refine jx_ialdv (pc := 5) C hs (by omega) (by decide) hm dX6_placeOf_5 ?_
    refine jx_icmp_ge (pc := 6) C (tgt := 27) dX6_placeOf_6 (by decide) (fun c6 => ?_) (fun c6 => (by rw [nI_leI (by omega) (by omega)] at c6; exfalso; omega))
    rw [nI_leI (by omega) (by omega)] at c6
    exact hx hn
  | succ d ih =>
    intro i hi hn
    refine jx_iload_n (pc := 2) C dX6_placeOf_2 rfl ?_
    refine jx_aload_n (pc := 3) C dX6_placeOf_3 rfl ?_
    refine jx_iconst (pc := 4) C dX6_placeOf_4 nc_5 ?_
    refine jx_ialdv (pc := 5) C hs (by omega) (by decide) hm dX6_placeOf_5 ?_
    refine jx_icmp_ge (pc := 6) C (tgt := 27) dX6_placeOf_6 (by decide) (fun c6 => (by rw [nI_leI (by omega) (by omega)] at c6; exfalso; omega)) (fun c6 => ?_)
    rw [nI_leI (by omega) (by omega)] at c6
    refine jx_aload_n (pc := 9) C dX6_placeOf_9 rfl ?_
    refine jx_iload_n (pc := 10) C dX6_placeOf_10 rfl ?_
    refine jx_iconst (pc := 11) C dX6_placeOf_11 nc_0 ?_
    refine jx_callD (pc := 12) C (go_X6_43 C  (Nat.le_of_ble_eq_true rfl) dX6_placeOf_12) (t_X6_by hs (by omega)) (by decide) (by decide) ⟨Nat.zero_le _, Nat.zero_le _⟩ ?_
    refine jx_iload_n (pc := 15) C dX6_placeOf_15 rfl ?_
    refine jx_icmp_ne (pc := 16) C (tgt := 21) dX6_placeOf_16 (by decide) (fun c16 => ?_) (fun c16 => ?_)
    · refine jx_iincN (pc := 21) C dX6_placeOf_21 rfl (jset_2 jc_i) (by decide) ?_
      refine jx_goto (pc := 24) C (tgt := 2) dX6_placeOf_24 (by decide) ?_
      exact ih (i + 1) (by omega) (sfst_miss hn (by simpa using c16))
    · exact hy i (by omega) (by have h := sfst_up (sfst_hit hn (by simpa using c16)) d; rwa [show i + 1 + d = smany (I a) by omega] at h)
set_option maxHeartbeats 4000000 in
theorem b_X6_placeOf {p : Program} {l : Launch} {e : Env} {s : State} {m : MethodId} {args : Array Value} {below : List Frame} {meth : Method} {c : Code} {D : va_G} {cA : Nat → ClassId} {N0 : Nat} {Sh : jS} {I : jI} {P : jP} {L : jL} (C : jC p (jRm 1 0 0) s m args meth c D cA N0 cX6_placeOf 3 RX6 1) (hr : meth.sig.returnType = (some .int)) {a : Nat} (hs : Sh a = some (10, 210)) {num : Int32} (hm : I a 5 = nI (smany (I a))) (hk : smany (I a) ≤ 10) : jJ p l e (jRm 1 0 0) s m args below meth c D cA N0 3 (MQ below (jQn D cA N0 Sh (jD (some (.int (oI (splace (I a) num)))) I P L)) args s 0 0 (fun q => N0 ≤ q)) (fun _ => True) Sh I P L 0 0 0 [some (.ref a), some (.int num), none] [] := by
  refine jx_iconst (pc := 0) C dX6_placeOf_0 nc_0 ?_
  refine jx_istore_n (pc := 1) C dX6_placeOf_1 (jset_2 jc_i) (by decide) ?_
  refine lp_X6_placeOf C hs hm hk (fun hn => ?_) (fun i hi hn => ?_) (smany (I a)) 0 (Nat.zero_add _) rfl
  · refine jx_iconst (pc := 27) C dX6_placeOf_27 nc_m1 ?_
    exact jn_iret (pc := 28) C hr (jD_i (by show _ = oI (sfst _ _); rw [hn]; rfl)) dX6_placeOf_28
  · refine jx_iload_n (pc := 19) C dX6_placeOf_19 rfl ?_
    exact jn_iret (pc := 20) C hr (jD_i (by rw [hn]; rfl)) dX6_placeOf_20
theorem t_X6_placeOf {l : Launch} {D : va_G} {cA : Nat → ClassId} {N0 : Nat} {Sh : jS} {I : jI} {P : jP} {L : jL} {a : Nat} (hs : Sh a = some (10, 210)) {num : Int32} (hm : I a 5 = nI (smany (I a))) (hk : smany (I a) ≤ 10) : jN l D cA N0 1 yX6_placeOf cX6_placeOf 3 (some .int) [.ref a, .int num] Sh I P L (jD (some (.int (oI (splace (I a) num)))) I P L) := jN_of (by decide) (Nat.le_of_ble_eq_true rfl) (fun _ _ _ _ _ _ _ _ C hr => b_X6_placeOf C hr hs hm hk)
set_option maxHeartbeats 4000000 in
theorem b_X6_worth {p : Program} {l : Launch} {e : Env} {s : State} {m : MethodId} {args : Array Value} {below : List Frame} {meth : Method} {c : Code} {D : va_G} {cA : Nat → ClassId} {N0 : Nat} {Sh : jS} {I : jI} {P : jP} {L : jL} (C : jC p (jRm 1 0 0) s m args meth c D cA N0 cX6_worth 2 RX6 1) (hr : meth.sig.returnType = (some .int)) {a : Nat} (hs : Sh a = some (10, 210)) {o : Nat} (ho : o < 10) : jJ p l e (jRm 1 0 0) s m args below meth c D cA N0 2 (MQ below (jQn D cA N0 Sh (jD (some (.int (sworth (I a) o))) I P L)) args s 0 0 (fun q => N0 ≤ q)) (fun _ => True) Sh I P L 0 0 0 [some (.ref a), some (.int (nI o))] [] := by
  refine jx_aload_n (pc := 0) C dX6_worth_0 rfl ?_
  refine jx_iconst (pc := 1) C dX6_worth_1 nc_0 ?_
  refine jx_iald (pc := 2) C hs (by omega) (by decide) dX6_worth_2 ?_
  refine jx_if_ne (pc := 3) C (tgt := 10) dX6_worth_3 (by decide) (fun c3 => ?_) (fun c3 => ?_)
  · refine jx_aload_n (pc := 10) C dX6_worth_10 rfl ?_
    refine jx_iload_n (pc := 11) C dX6_worth_11 rfl ?_
    refine jx_aload_n (pc := 12) C dX6_worth_12 rfl ?_
    refine jx_iconst (pc := 13) C dX6_worth_13 nc_0 ?_
    refine jx_iald (pc := 14) C hs (by omega) (by decide) dX6_worth_14 ?_
    refine jx_iconst (pc := 15) C dX6_worth_15 nc_1 ?_
    refine jx_icmp_ne (pc := 16) C (tgt := 23) dX6_worth_16 (by decide) (fun c16 => ?_) (fun c16 => ?_)
    · refine jx_iconst (pc := 23) C dX6_worth_23 nc_4 ?_
      refine jx_callD (pc := 24) C (go_X6_43 C  (Nat.le_of_ble_eq_true rfl) dX6_worth_24) (t_X6_by hs (by omega)) (by decide) (by decide) ⟨Nat.zero_le _, Nat.zero_le _⟩ ?_
      exact jn_iret (pc := 27) C hr (jD_i (by unfold sworth; simp_all)) dX6_worth_27
    · refine jx_iconst (pc := 19) C dX6_worth_19 nc_2 ?_
      refine jx_goto (pc := 20) C (tgt := 24) dX6_worth_20 (by decide) ?_
      refine jx_callD (pc := 24) C (go_X6_43 C  (Nat.le_of_ble_eq_true rfl) dX6_worth_24) (t_X6_by hs (by omega)) (by decide) (by decide) ⟨Nat.zero_le _, Nat.zero_le _⟩ ?_
      exact jn_iret (pc := 27) C hr (jD_i (by unfold sworth; simp_all)) dX6_worth_27
  · refine jx_iconst (pc := 6) C dX6_worth_6 nc_0 ?_
    refine jx_goto (pc := 7) C (tgt := 27) dX6_worth_7 (by decide) ?_
    exact jn_iret (pc := 27) C hr (jD_i (by unfold sworth; simp_all)) dX6_worth_27
theorem t_X6_worth {l : Launch} {D : va_G} {cA : Nat → ClassId} {N0 : Nat} {Sh : jS} {I : jI} {P : jP} {L : jL} {a : Nat} (hs : Sh a = some (10, 210)) {o : Nat} (ho : o < 10) : jN l D cA N0 1 yX6_worth cX6_worth 2 (some .int) [.ref a, .int (nI o)] Sh I P L (jD (some (.int (sworth (I a) o))) I P L) := jN_of (by decide) (Nat.le_of_ble_eq_true rfl) (fun _ _ _ _ _ _ _ _ C hr => b_X6_worth C hr hs ho)
set_option maxHeartbeats 4000000 in
theorem lp_X6_chosen {p : Program} {l : Launch} {e : Env} {s : State} {m : MethodId} {args : Array Value} {below : List Frame} {meth : Method} {c : Code} {D : va_G} {cA : Nat → ClassId} {N0 : Nat} {Sh : jS} {I : jI} {P : jP} {L : jL} {Qf : State → Prop} (C : jC p (jRm 2 0 0) s m args meth c D cA N0 cX6_chosen 5 RX6 2) {a : Nat} (hs : Sh a = some (10, 210)) {w : Nat} (hw : w < 6) (hm : I a 5 = nI (smany (I a))) (hk : smany (I a) ≤ 10) (hx : ∀ x, jJ p l e (jRm 2 0 0) s m args below meth c D cA N0 5 Qf (fun _ => True) Sh I P L 0 0 68 [some (.ref a), some (.int (nI w)), some (.int (oI (schosN (I a) w (smany (I a))))), some (.int (nI (smany (I a)))), x] []) : ∀ d i x, i + d = smany (I a) → jJ p l e (jRm 2 0 0) s m args below meth c D cA N0 5 Qf (fun _ => True) Sh I P L 0 0 4 [some (.ref a), some (.int (nI w)), some (.int (oI (schosN (I a) w i))), some (.int (nI i)), x] [] := by
  intro d
  induction d with
  | zero =>
    intro i x hi
    obtain rfl : i = smany (I a) := by omega
    refine jx_iload_n (pc := 4) C dX6_chosen_4 rfl ?_
    refine jx_aload_n (pc := 5) C dX6_chosen_5 rfl ?_
    refine jx_iconst (pc := 6) C dX6_chosen_6 nc_5 ?_
    refine jx_ialdv (pc := 7) C hs (by omega) (by decide) hm dX6_chosen_7 ?_
    refine jx_icmp_ge (pc := 8) C (tgt := 68) dX6_chosen_8 (by decide) (fun c8 => ?_) (fun c8 => (by rw [nI_leI (by omega) (by omega)] at c8; exfalso; omega))
    rw [nI_leI (by omega) (by omega)] at c8
    exact hx _
  | succ d ih =>
    intro i x hi
    cases hq : schosN (I a) w i with
    | none =>
      rw [show oI (none : Option Nat) = (-1 : Int32) from rfl]
      refine jx_iload_n (pc := 4) C dX6_chosen_4 rfl ?_
      refine jx_aload_n (pc := 5) C dX6_chosen_5 rfl ?_
      refine jx_iconst (pc := 6) C dX6_chosen_6 nc_5 ?_
      refine jx_ialdv (pc := 7) C hs (by omega) (by decide) hm dX6_chosen_7 ?_
      refine jx_icmp_ge (pc := 8) C (tgt := 68) dX6_chosen_8 (by decide) (fun c8 => (by rw [nI_leI (by omega) (by omega)] at c8; exfalso; omega)) (fun c8 => ?_)
      rw [nI_leI (by omega) (by omega)] at c8
      refine jx_aload_n (pc := 11) C dX6_chosen_11 rfl ?_
      refine jx_iload_n (pc := 12) C dX6_chosen_12 rfl ?_
      refine jx_iconst (pc := 13) C dX6_chosen_13 nc_2 ?_
      refine jx_callD (pc := 14) C (go_X6_43 C  (Nat.le_of_ble_eq_true rfl) dX6_chosen_14) (t_X6_by hs (by omega)) (by decide) (by decide) ⟨Nat.zero_le _, Nat.zero_le _⟩ ?_
      refine jx_aload_n (pc := 17) C dX6_chosen_17 rfl ?_
      refine jx_iload_n (pc := 18) C dX6_chosen_18 rfl ?_
      refine jx_iconst (pc := 19) C dX6_chosen_19 nc_0 ?_
      refine jx_callD (pc := 20) C (go_X6_47 C  (Nat.le_of_ble_eq_true rfl) dX6_chosen_20) (t_X6_of hs (by omega)) (by decide) (by decide) ⟨Nat.zero_le _, Nat.zero_le _⟩ ?_
      refine jx_icmp_gt (pc := 23) C (tgt := 30) dX6_chosen_23 (by decide) (fun c23 => ?_) (fun c23 => ?_)
      · refine jx_iconst (pc := 30) C dX6_chosen_30 nc_0 ?_
        refine jx_istore (pc := 31) C dX6_chosen_31 (jset_4 jc_i) (by decide) ?_
        refine jx_iload (pc := 33) C dX6_chosen_33 rfl ?_
        refine jx_if_eq (pc := 35) C (tgt := 60) dX6_chosen_35 (by decide) (fun c35 => ?_) (fun c35 => (by exfalso; revert c35; decide))
        refine jx_iload_n (pc := 60) C dX6_chosen_60 rfl ?_
        refine jx_istore_n (pc := 61) C dX6_chosen_61 (jset_2 jc_i) (by decide) ?_
        refine jx_iincN (pc := 62) C dX6_chosen_62 rfl (jset_3 jc_i) (by decide) ?_
        refine jx_goto (pc := 65) C (tgt := 4) dX6_chosen_65 (by decide) ?_
        have h5 := ih (i + 1) (some (.int (nI 0))) (by omega)
        have h6 := ih (i + 1) (some (.int (nI 1))) (by omega)
        rw [schosN_n hq] at h5 h6
        first | (rw [if_pos (i32_nlt.mp (by assumption))] at h6; exact h6) | (rw [if_neg (fun z => i32_nlt.mpr z (by assumption))] at h5; exact h5)
      · refine jx_iconst (pc := 26) C dX6_chosen_26 nc_1 ?_
        refine jx_goto (pc := 27) C (tgt := 31) dX6_chosen_27 (by decide) ?_
        refine jx_istore (pc := 31) C dX6_chosen_31 (jset_4 jc_i) (by decide) ?_
        refine jx_iload (pc := 33) C dX6_chosen_33 rfl ?_
        refine jx_if_eq (pc := 35) C (tgt := 60) dX6_chosen_35 (by decide) (fun c35 => (by exfalso; revert c35; decide)) (fun c35 => ?_)
        refine jx_iload_n (pc := 38) C dX6_chosen_38 rfl ?_
        refine jx_iconst (pc := 39) C dX6_chosen_39 nc_m1 ?_
        refine jx_icmp_eq (pc := 40) C (tgt := 56) dX6_chosen_40 (by decide) (fun c40 => ?_) (fun c40 => (by exfalso; exact c40 rfl))
        refine jx_iload_n (pc := 56) C dX6_chosen_56 rfl ?_
        refine jx_goto (pc := 57) C (tgt := 61) dX6_chosen_57 (by decide) ?_
        refine jx_istore_n (pc := 61) C dX6_chosen_61 (jset_2 jc_i) (by decide) ?_
        refine jx_iincN (pc := 62) C dX6_chosen_62 rfl (jset_3 jc_i) (by decide) ?_
        refine jx_goto (pc := 65) C (tgt := 4) dX6_chosen_65 (by decide) ?_
        have h5 := ih (i + 1) (some (.int (nI 0))) (by omega)
        have h6 := ih (i + 1) (some (.int (nI 1))) (by omega)
        rw [schosN_n hq] at h5 h6
        first | (rw [if_pos (i32_nlt.mp (by assumption))] at h6; exact h6) | (rw [if_neg (fun z => i32_nlt.mpr z (by assumption))] at h5; exact h5)
    | some q =>
      obtain ⟨hq1, hq2⟩ := schosN_lt hq
      rw [show oI (some q) = nI q from rfl]
      refine jx_iload_n (pc := 4) C dX6_chosen_4 rfl ?_
      refine jx_aload_n (pc := 5) C dX6_chosen_5 rfl ?_
      refine jx_iconst (pc := 6) C dX6_chosen_6 nc_5 ?_
      refine jx_ialdv (pc := 7) C hs (by omega) (by decide) hm dX6_chosen_7 ?_
      refine jx_icmp_ge (pc := 8) C (tgt := 68) dX6_chosen_8 (by decide) (fun c8 => (by rw [nI_leI (by omega) (by omega)] at c8; exfalso; omega)) (fun c8 => ?_)
      rw [nI_leI (by omega) (by omega)] at c8
      refine jx_aload_n (pc := 11) C dX6_chosen_11 rfl ?_
      refine jx_iload_n (pc := 12) C dX6_chosen_12 rfl ?_
      refine jx_iconst (pc := 13) C dX6_chosen_13 nc_2 ?_
      refine jx_callD (pc := 14) C (go_X6_43 C  (Nat.le_of_ble_eq_true rfl) dX6_chosen_14) (t_X6_by hs (by omega)) (by decide) (by decide) ⟨Nat.zero_le _, Nat.zero_le _⟩ ?_
      refine jx_aload_n (pc := 17) C dX6_chosen_17 rfl ?_
      refine jx_iload_n (pc := 18) C dX6_chosen_18 rfl ?_
      refine jx_iconst (pc := 19) C dX6_chosen_19 nc_0 ?_
      refine jx_callD (pc := 20) C (go_X6_47 C  (Nat.le_of_ble_eq_true rfl) dX6_chosen_20) (t_X6_of hs (by omega)) (by decide) (by decide) ⟨Nat.zero_le _, Nat.zero_le _⟩ ?_
      refine jx_icmp_gt (pc := 23) C (tgt := 30) dX6_chosen_23 (by decide) (fun c23 => ?_) (fun c23 => ?_)
      · refine jx_iconst (pc := 30) C dX6_chosen_30 nc_0 ?_
        refine jx_istore (pc := 31) C dX6_chosen_31 (jset_4 jc_i) (by decide) ?_
        refine jx_iload (pc := 33) C dX6_chosen_33 rfl ?_
        refine jx_if_eq (pc := 35) C (tgt := 60) dX6_chosen_35 (by decide) (fun c35 => ?_) (fun c35 => (by exfalso; revert c35; decide))
        refine jx_iload_n (pc := 60) C dX6_chosen_60 rfl ?_
        refine jx_istore_n (pc := 61) C dX6_chosen_61 (jset_2 jc_i) (by decide) ?_
        refine jx_iincN (pc := 62) C dX6_chosen_62 rfl (jset_3 jc_i) (by decide) ?_
        refine jx_goto (pc := 65) C (tgt := 4) dX6_chosen_65 (by decide) ?_
        have h5 := ih (i + 1) (some (.int (nI 0))) (by omega)
        have h6 := ih (i + 1) (some (.int (nI 1))) (by omega)
        rw [schosN_s hq] at h5 h6
        first | (rw [if_pos ⟨i32_nlt.mp (by assumption), i32_nle.mp (by assumption)⟩] at h6; exact h6) | (rw [if_neg (fun z => i32_nlt.mpr z.1 (by assumption))] at h5; exact h5) | (rw [if_neg (fun z => i32_nle.mpr z.2 (by assumption))] at h6; exact h6)
      · refine jx_iconst (pc := 26) C dX6_chosen_26 nc_1 ?_
        refine jx_goto (pc := 27) C (tgt := 31) dX6_chosen_27 (by decide) ?_
        refine jx_istore (pc := 31) C dX6_chosen_31 (jset_4 jc_i) (by decide) ?_
        refine jx_iload (pc := 33) C dX6_chosen_33 rfl ?_
        refine jx_if_eq (pc := 35) C (tgt := 60) dX6_chosen_35 (by decide) (fun c35 => (by exfalso; revert c35; decide)) (fun c35 => ?_)
        refine jx_iload_n (pc := 38) C dX6_chosen_38 rfl ?_
        refine jx_iconst (pc := 39) C dX6_chosen_39 nc_m1 ?_
        refine jx_icmp_eq (pc := 40) C (tgt := 56) dX6_chosen_40 (by decide) (fun c40 => (by exfalso; rw [nI_m1 (by omega)] at c40; exact c40)) (fun c40 => ?_)
        refine jx_aload_n (pc := 43) C dX6_chosen_43 rfl ?_
        refine jx_iload_n (pc := 44) C dX6_chosen_44 rfl ?_
        refine jx_callD (pc := 45) C (go_X6_50 C  (Nat.le_of_ble_eq_true rfl) dX6_chosen_45) (t_X6_worth hs (by omega)) (by decide) (by decide) ⟨Nat.zero_le _, Nat.zero_le _⟩ ?_
        refine jx_aload_n (pc := 48) C dX6_chosen_48 rfl ?_
        refine jx_iload_n (pc := 49) C dX6_chosen_49 rfl ?_
        refine jx_callD (pc := 50) C (go_X6_50 C  (Nat.le_of_ble_eq_true rfl) dX6_chosen_50) (t_X6_worth hs (by omega)) (by decide) (by decide) ⟨Nat.zero_le _, Nat.zero_le _⟩ ?_
        refine jx_icmp_le (pc := 53) C (tgt := 60) dX6_chosen_53 (by decide) (fun c53 => ?_) (fun c53 => ?_)
        · refine jx_iload_n (pc := 60) C dX6_chosen_60 rfl ?_
          refine jx_istore_n (pc := 61) C dX6_chosen_61 (jset_2 jc_i) (by decide) ?_
          refine jx_iincN (pc := 62) C dX6_chosen_62 rfl (jset_3 jc_i) (by decide) ?_
          refine jx_goto (pc := 65) C (tgt := 4) dX6_chosen_65 (by decide) ?_
          have h5 := ih (i + 1) (some (.int (nI 0))) (by omega)
          have h6 := ih (i + 1) (some (.int (nI 1))) (by omega)
          rw [schosN_s hq] at h5 h6
          first | (rw [if_pos ⟨i32_nlt.mp (by assumption), i32_nle.mp (by assumption)⟩] at h6; exact h6) | (rw [if_neg (fun z => i32_nlt.mpr z.1 (by assumption))] at h5; exact h5) | (rw [if_neg (fun z => i32_nle.mpr z.2 (by assumption))] at h6; exact h6)
        · refine jx_iload_n (pc := 56) C dX6_chosen_56 rfl ?_
          refine jx_goto (pc := 57) C (tgt := 61) dX6_chosen_57 (by decide) ?_
          refine jx_istore_n (pc := 61) C dX6_chosen_61 (jset_2 jc_i) (by decide) ?_
          refine jx_iincN (pc := 62) C dX6_chosen_62 rfl (jset_3 jc_i) (by decide) ?_
          refine jx_goto (pc := 65) C (tgt := 4) dX6_chosen_65 (by decide) ?_
          have h5 := ih (i + 1) (some (.int (nI 0))) (by omega)
          have h6 := ih (i + 1) (some (.int (nI 1))) (by omega)
          rw [schosN_s hq] at h5 h6
          first | (rw [if_pos ⟨i32_nlt.mp (by assumption), i32_nle.mp (by assumption)⟩] at h6; exact h6) | (rw [if_neg (fun z => i32_nlt.mpr z.1 (by assumption))] at h5; exact h5) | (rw [if_neg (fun z => i32_nle.mpr z.2 (by assumption))] at h6; exact h6)
set_option maxHeartbeats 4000000 in
theorem b_X6_chosen {p : Program} {l : Launch} {e : Env} {s : State} {m : MethodId} {args : Array Value} {below : List Frame} {meth : Method} {c : Code} {D : va_G} {cA : Nat → ClassId} {N0 : Nat} {Sh : jS} {I : jI} {P : jP} {L : jL} (C : jC p (jRm 2 0 0) s m args meth c D cA N0 cX6_chosen 5 RX6 2) (hr : meth.sig.returnType = (some .int)) {a : Nat} (hs : Sh a = some (10, 210)) {w : Nat} (hw : w < 6) (hm : I a 5 = nI (smany (I a))) (hk : smany (I a) ≤ 10) : jJ p l e (jRm 2 0 0) s m args below meth c D cA N0 5 (MQ below (jQn D cA N0 Sh (jD (some (.int (oI (schos (I a) w)))) I P L)) args s 0 0 (fun q => N0 ≤ q)) (fun _ => True) Sh I P L 0 0 0 [some (.ref a), some (.int (nI w)), none, none, none] [] := by
  refine jx_iconst (pc := 0) C dX6_chosen_0 nc_m1 ?_
  refine jx_istore_n (pc := 1) C dX6_chosen_1 (jset_2 jc_i) (by decide) ?_
  refine jx_iconst (pc := 2) C dX6_chosen_2 nc_0 ?_
  refine jx_istore_n (pc := 3) C dX6_chosen_3 (jset_3 jc_i) (by decide) ?_
  refine lp_X6_chosen C hs hw hm hk (fun x => ?_) (smany (I a)) 0 _ (Nat.zero_add _)
  refine jx_iload_n (pc := 68) C dX6_chosen_68 rfl ?_
  exact jn_iret (pc := 69) C hr (jD_r) dX6_chosen_69
theorem t_X6_chosen {l : Launch} {D : va_G} {cA : Nat → ClassId} {N0 : Nat} {Sh : jS} {I : jI} {P : jP} {L : jL} {a : Nat} (hs : Sh a = some (10, 210)) {w : Nat} (hw : w < 6) (hm : I a 5 = nI (smany (I a))) (hk : smany (I a) ≤ 10) : jN l D cA N0 2 yX6_chosen cX6_chosen 5 (some .int) [.ref a, .int (nI w)] Sh I P L (jD (some (.int (oI (schos (I a) w)))) I P L) := jN_of (by decide) (Nat.le_of_ble_eq_true rfl) (fun _ _ _ _ _ _ _ _ C hr => b_X6_chosen C hr hs hw hm hk)
