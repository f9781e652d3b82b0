set_option maxHeartbeats 4000000 in
theorem b_X5_isWithin {p : Program} {l : Launch} {e : Env} {s : State} {m : MethodId} {args : Array Value} {below : List Frame} {meth : Method} {c : Code} {D : va_G} {cA : Nat → ClassId} {N0 : Nat} {Sh : jS} {I : jI} {P : jP} {L : jL} (C : jC p (jRm 0 0 0) s m args meth c D cA N0 cX5_isWithin 3 RX5 0) (hr : meth.sig.returnType = (some .boolean)) {v low high : Int32} : jJ p l e (jRm 0 0 0) s m args below meth c D cA N0 3 (MQ below (jQn D cA N0 Sh (jD (some (.int (bI (decide (low ≤ v ∧ v ≤ high))))) I P L)) args s 0 0 (fun q => N0 ≤ q)) (fun _ => True) Sh I P L 0 0 0 [some (.int v), some (.int low), some (.int high)] [] := by
  have h0 : (¬ (low ≤ v ∧ v ≤ high)) → jJ p l e (jRm 0 0 0) s m args below meth c D cA N0 3 (MQ below (jQn D cA N0 Sh (jD (some (.int (bI (decide (low ≤ v ∧ v ≤ high))))) I P L)) args s 0 0 (fun q => N0 ≤ q)) (fun _ => True) Sh I P L 0 0 14 [some (.int v), some (.int low), some (.int high)] [] := fun h => by
    refine jx_iconst (pc := 14) C dX5_isWithin_14 nc_0 ?_
    exact jn_zret (pc := 15) C hr (rfl) (jD_i (bI_decn h)) dX5_isWithin_15
  refine jx_iload_n (pc := 0) C dX5_isWithin_0 rfl ?_
  refine jx_iload_n (pc := 1) C dX5_isWithin_1 rfl ?_
  refine jx_icmp_lt (pc := 2) C (tgt := 14) dX5_isWithin_2 (by decide) (fun c2 => ?_) (fun c2 => ?_)
  · first | exact h0 (fun h => i32_nlt.mpr h.2 (by assumption)) | exact h0 (fun h => i32_nlt.mpr h.1 (by assumption))
  · refine jx_iload_n (pc := 5) C dX5_isWithin_5 rfl ?_
    refine jx_iload_n (pc := 6) C dX5_isWithin_6 rfl ?_
    refine jx_icmp_gt (pc := 7) C (tgt := 14) dX5_isWithin_7 (by decide) (fun c7 => ?_) (fun c7 => ?_)
    · first | exact h0 (fun h => i32_nlt.mpr h.2 (by assumption)) | exact h0 (fun h => i32_nlt.mpr h.1 (by assumption))
    · refine jx_iconst (pc := 10) C dX5_isWithin_10 nc_1 ?_
      refine jx_goto (pc := 11) C (tgt := 15) dX5_isWithin_11 (by decide) ?_
      exact jn_zret (pc := 15) C hr (rfl) (jD_i (bI_dec ⟨i32_nlt.mp c2, i32_nlt.mp c7⟩)) dX5_isWithin_15
theorem t_X5_isWithin {l : Launch} {D : va_G} {cA : Nat → ClassId} {N0 : Nat} {Sh : jS} {I : jI} {P : jP} {L : jL} {v low high : Int32} : jN l D cA N0 0 yX5_isWithin cX5_isWithin 3 (some .boolean) [.int v, .int low, .int high] Sh I P L (jD (some (.int (bI (decide (low ≤ v ∧ v ≤ high))))) I P L) := jN_of (by decide) (Nat.le_of_ble_eq_true rfl) (fun _ _ _ _ _ _ _ _ C hr => b_X5_isWithin C hr )
