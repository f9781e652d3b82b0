/-! THE LAW'S WRAPPERS: an answer, or a negative one and nothing changed -/
def wQ (L : jL) (y : Nat) (Sp : Nat × Int32 × sF) (f : sF) (q : Nat) (pst : Nat → sF) (t : Nat) (ch : Nat → Nat) : Option Value → jI → jP → jL → Prop := fun v I' P' L' => L' = L ∧ ((Sp.1 = 0 ∧ v = some (.int Sp.2.1) ∧ cR I' P' y Sp.2.2 (min q 5 + 1) (spush f q pst) t ch) ∨ (Sp.1 ≠ 0 ∧ (∃ r : Int32, v = some (.int r) ∧ r < 0) ∧ cR I' P' y f q pst t ch))
def wU (L : jL) (y : Nat) (f : sF) (q : Nat) (pst : Nat → sF) (t : Nat) (ch : Nat → Nat) : Option Value → jI → jP → jL → Prop := fun v I' P' L' => L' = L ∧ ((q ≠ 0 ∧ v = some (.int (nI (q - 1))) ∧ cR I' P' y (pst (q - 1)) (q - 1) pst t ch) ∨ (q = 0 ∧ (∃ r : Int32, v = some (.int r) ∧ r < 0) ∧ cR I' P' y f q pst t ch))
set_option maxHeartbeats 4000000 in
theorem b_L_order {p : Program} {l : Launch} {e : Env} {s : State} {m : MethodId} {args : Array Value} {below : List Frame} {meth : Method} {c : Code} {D : va_G} {cA : Nat → ClassId} {N0 : Nat} {Sh : jS} {I : jI} {P : jP} {L : jL} (C : jC p (jRm 8 1 6) s m args meth c D cA N0 cL_order 7 RL 8) (hnc : jNc s) (hst : l.stackTraces = false) (htab : c.exceptionTable.toList = tableOf [(0, 11, 12, 23)]) (hr : meth.sig.returnType = (some .int)) {y : Nat} (S : cS Sh y) {f : sF} {q : Nat} {pst : Nat → sF} {t : Nat} {ch : Nat → Nat} (R : cR I P y f q pst t ch) {cv wd len pr due : Int32} (hc : (sorder f cv wd len pr due).1 = 0 ∨ (sorder f cv wd len pr due).1 = 3) : jJ p l e (jRm 8 1 6) s m args below meth c D cA N0 7 (MQ below (jQn D cA N0 Sh (wQ L y (sorder f cv wd len pr due) f q pst t ch)) args s 1 6 (fun q => N0 ≤ q)) (fun _ => True) Sh I P L 0 0 0 [some (.ref y), some (.int cv), some (.int wd), some (.int len), some (.int pr), some (.int due), none] [] := by
  refine jx_aload_n (pc := 0) C dL_order_0 rfl ?_
  refine jx_iload_n (pc := 1) C dL_order_1 rfl ?_
  refine jx_iload_n (pc := 2) C dL_order_2 rfl ?_
  refine jx_iload_n (pc := 3) C dL_order_3 rfl ?_
  refine jx_iload (pc := 4) C dL_order_4 rfl ?_
  refine jx_iload (pc := 6) C dL_order_6 rfl ?_
  refine jx_callX (pc := 8) C hnc (As := [.int cv, .int wd, .int len, .int pr, .int due]) (rest := []) ky_X5_order rfl kc_X5_order (jWS_in 503 (by decide +kernel) rfl) kn_X5_order kl_X5_order ki_X5_order S.obj rfl (Nat.le_of_ble_eq_true rfl) dL_order_8 (t_X5_order hst S R) (by decide) (by decide) ⟨Nat.le_refl 1, Nat.le_refl 6⟩ ?_ ?_
  · intro E9 I9 P9 L9 q9
    obtain ⟨e0, eE, R9, O9⟩ := q9
    obtain rfl := O9.2.2
    rcases hc with h | h
    · exact absurd h e0
    · rw [h] at eE
      obtain rfl : E9 = eS := eE
      refine jx_catch (E := eS) C [] (⟨0, 11, 12, 23⟩ : ExceptionTableEntry) [] htab (fun z hz => absurd hz List.not_mem_nil) (by decide) (by decide) hnc (jWS_in 502 (by decide +kernel) rfl) (by unfold jXL; simp) (fun q => ?_)
      refine jx_astore (pc := 12) C dL_order_12 (jset_6 jc_i) (by decide) ?_
      refine jx_bipush (pc := 14) C dL_order_14 nb_m3 ?_
      exact jn_iret (pc := 16) C hr (⟨rfl, Or.inr ⟨e0, ⟨_, rfl, by decide⟩, R9⟩⟩) dL_order_16
  · intro v9 I9 P9 L9 q9
    obtain ⟨e0, rfl, R9, O9⟩ := q9
    obtain rfl := O9.2.2
    exact jn_iret (pc := 11) C hr ⟨rfl, Or.inl ⟨e0, rfl, R9⟩⟩ dL_order_11
theorem t_L_order {l : Launch} (hst : l.stackTraces = false) {D : va_G} {cA : Nat → ClassId} {N0 : Nat} {Sh : jS} {I : jI} {P : jP} {L : jL} {y : Nat} (S : cS Sh y) {f : sF} {q : Nat} {pst : Nat → sF} {t : Nat} {ch : Nat → Nat} (R : cR I P y f q pst t ch) {cv wd len pr due : Int32} (hc : (sorder f cv wd len pr due).1 = 0 ∨ (sorder f cv wd len pr due).1 = 3) : jWM l D cA N0 8 yL_order cL_order 7 (some .int) [(0, 11, 12, 23)] [.ref y, .int cv, .int wd, .int len, .int pr, .int due] Sh I P L (wQ L y (sorder f cv wd len pr due) f q pst t ch) := jWM_of (by decide) (Nat.le_of_ble_eq_true rfl) (fun _ _ _ _ _ _ _ _ C hnc hr htab => b_L_order C hnc hst htab hr S R hc)
set_option maxHeartbeats 4000000 in
theorem b_L_yarn {p : Program} {l : Launch} {e : Env} {s : State} {m : MethodId} {args : Array Value} {below : List Frame} {meth : Method} {c : Code} {D : va_G} {cA : Nat → ClassId} {N0 : Nat} {Sh : jS} {I : jI} {P : jP} {L : jL} (C : jC p (jRm 8 1 6) s m args meth c D cA N0 cL_yarn 5 RL 8) (hnc : jNc s) (hst : l.stackTraces = false) (htab : c.exceptionTable.toList = tableOf [(0, 7, 8, 23)]) (hr : meth.sig.returnType = (some .int)) {y : Nat} (S : cS Sh y) {f : sF} {q : Nat} {pst : Nat → sF} {t : Nat} {ch : Nat → Nat} (R : cR I P y f q pst t ch) {wv cv g : Int32} (hc : (syarn f wv cv g).1 = 0 ∨ (syarn f wv cv g).1 = 3) : jJ p l e (jRm 8 1 6) s m args below meth c D cA N0 5 (MQ below (jQn D cA N0 Sh (wQ L y (syarn f wv cv g) f q pst t ch)) args s 1 6 (fun q => N0 ≤ q)) (fun _ => True) Sh I P L 0 0 0 [some (.ref y), some (.int wv), some (.int cv), some (.int g), none] [] := by
  refine jx_aload_n (pc := 0) C dL_yarn_0 rfl ?_
  refine jx_iload_n (pc := 1) C dL_yarn_1 rfl ?_
  refine jx_iload_n (pc := 2) C dL_yarn_2 rfl ?_
  refine jx_iload_n (pc := 3) C dL_yarn_3 rfl ?_
  refine jx_callX (pc := 4) C hnc (As := [.int wv, .int cv, .int g]) (rest := []) ky_X5_yarn rfl kc_X5_yarn (jWS_in 536 (by decide +kernel) rfl) kn_X5_yarn kl_X5_yarn ki_X5_yarn S.obj rfl (Nat.le_of_ble_eq_true rfl) dL_yarn_4 (t_X5_yarn hst S R) (by decide) (by decide) ⟨Nat.le_refl 1, Nat.le_refl 6⟩ ?_ ?_
  · intro E9 I9 P9 L9 q9
    obtain ⟨e0, eE, R9, O9⟩ := q9
    obtain rfl := O9.2.2
    rcases hc with h | h
    · exact absurd h e0
    · rw [h] at eE
      obtain rfl : E9 = eS := eE
      refine jx_catch (E := eS) C [] (⟨0, 7, 8, 23⟩ : ExceptionTableEntry) [] htab (fun z hz => absurd hz List.not_mem_nil) (by decide) (by decide) hnc (jWS_in 502 (by decide +kernel) rfl) (by unfold jXL; simp) (fun q => ?_)
      refine jx_astore (pc := 8) C dL_yarn_8 (jset_4 jc_i) (by decide) ?_
      refine jx_bipush (pc := 10) C dL_yarn_10 nb_m3 ?_
      exact jn_iret (pc := 12) C hr (⟨rfl, Or.inr ⟨e0, ⟨_, rfl, by decide⟩, R9⟩⟩) dL_yarn_12
  · intro v9 I9 P9 L9 q9
    obtain ⟨e0, rfl, R9, O9⟩ := q9
    obtain rfl := O9.2.2
    exact jn_iret (pc := 7) C hr ⟨rfl, Or.inl ⟨e0, rfl, R9⟩⟩ dL_yarn_7
theorem t_L_yarn {l : Launch} (hst : l.stackTraces = false) {D : va_G} {cA : Nat → ClassId} {N0 : Nat} {Sh : jS} {I : jI} {P : jP} {L : jL} {y : Nat} (S : cS Sh y) {f : sF} {q : Nat} {pst : Nat → sF} {t : Nat} {ch : Nat → Nat} (R : cR I P y f q pst t ch) {wv cv g : Int32} (hc : (syarn f wv cv g).1 = 0 ∨ (syarn f wv cv g).1 = 3) : jWM l D cA N0 8 yL_yarn cL_yarn 5 (some .int) [(0, 7, 8, 23)] [.ref y, .int wv, .int cv, .int g] Sh I P L (wQ L y (syarn f wv cv g) f q pst t ch) := jWM_of (by decide) (Nat.le_of_ble_eq_true rfl) (fun _ _ _ _ _ _ _ _ C hnc hr htab => b_L_yarn C hnc hst htab hr S R hc)
set_option maxHeartbeats 4000000 in
theorem b_L_give {p : Program} {l : Launch} {e : Env} {s : State} {m : MethodId} {args : Array Value} {below : List Frame} {meth : Method} {c : Code} {D : va_G} {cA : Nat → ClassId} {N0 : Nat} {Sh : jS} {I : jI} {P : jP} {L : jL} (C : jC p (jRm 8 1 6) s m args meth c D cA N0 cL_give 6 RL 8) (hnc : jNc s) (hst : l.stackTraces = false) (htab : c.exceptionTable.toList = tableOf [(0, 9, 10, 33), (0, 9, 15, 23)]) (hr : meth.sig.returnType = (some .int)) {y : Nat} (S : cS Sh y) {f : sF} {q : Nat} {pst : Nat → sF} {t : Nat} {ch : Nat → Nat} (R : cR I P y f q pst t ch) {wv ov cv g : Int32} (hc : (sgive f wv ov cv g).1 = 0 ∨ (sgive f wv ov cv g).1 = 2 ∨ (sgive f wv ov cv g).1 = 3) : jJ p l e (jRm 8 1 6) s m args below meth c D cA N0 6 (MQ below (jQn D cA N0 Sh (wQ L y (sgive f wv ov cv g) f q pst t ch)) args s 1 6 (fun q => N0 ≤ q)) (fun _ => True) Sh I P L 0 0 0 [some (.ref y), some (.int wv), some (.int ov), some (.int cv), some (.int g), none] [] := by
  refine jx_aload_n (pc := 0) C dL_give_0 rfl ?_
  refine jx_iload_n (pc := 1) C dL_give_1 rfl ?_
  refine jx_iload_n (pc := 2) C dL_give_2 rfl ?_
  refine jx_iload_n (pc := 3) C dL_give_3 rfl ?_
  refine jx_iload (pc := 4) C dL_give_4 rfl ?_
  refine jx_callX (pc := 6) C hnc (As := [.int wv, .int ov, .int cv, .int g]) (rest := []) ky_X5_give rfl kc_X5_give (jWS_in 556 (by decide +kernel) rfl) kn_X5_give kl_X5_give ki_X5_give S.obj rfl (Nat.le_of_ble_eq_true rfl) dL_give_6 (t_X5_give hst S R) (by decide) (by decide) ⟨Nat.le_refl 1, Nat.le_refl 6⟩ ?_ ?_
  · intro E9 I9 P9 L9 q9
    obtain ⟨e0, eE, R9, O9⟩ := q9
    obtain rfl := O9.2.2
    rcases hc with h | h | h
    · exact absurd h e0
    · rw [h] at eE
      obtain rfl : E9 = eA := eE
      refine jx_catch (E := eA) C [] (⟨0, 9, 10, 33⟩ : ExceptionTableEntry) [(⟨0, 9, 15, 23⟩ : ExceptionTableEntry)] htab (fun z hz => absurd hz List.not_mem_nil) (by decide) (by decide) hnc (jWS_in 555 (by decide +kernel) rfl) (by unfold jXL; simp) (fun q => ?_)
      refine jx_astore (pc := 10) C dL_give_10 (jset_5 jc_i) (by decide) ?_
      refine jx_bipush (pc := 12) C dL_give_12 nb_m2 ?_
      exact jn_iret (pc := 14) C hr (⟨rfl, Or.inr ⟨e0, ⟨_, rfl, by decide⟩, R9⟩⟩) dL_give_14
    · rw [h] at eE
      obtain rfl : E9 = eS := eE
      refine jx_catch (E := eS) C [(⟨0, 9, 10, 33⟩ : ExceptionTableEntry)] (⟨0, 9, 15, 23⟩ : ExceptionTableEntry) [] htab (List.forall_mem_cons.mpr ⟨Or.inr ⟨by decide, eA, C.2.2.2.2.1 _ (jWS_in 555 (by decide +kernel) rfl), hnc.1.2.2.2.1⟩, (fun z hz => absurd hz List.not_mem_nil)⟩) (by decide) (by decide) hnc (jWS_in 502 (by decide +kernel) rfl) (by unfold jXL; simp) (fun q => ?_)
      refine jx_astore (pc := 15) C dL_give_15 (jset_5 jc_i) (by decide) ?_
      refine jx_bipush (pc := 17) C dL_give_17 nb_m3 ?_
      exact jn_iret (pc := 19) C hr (⟨rfl, Or.inr ⟨e0, ⟨_, rfl, by decide⟩, R9⟩⟩) dL_give_19
  · intro v9 I9 P9 L9 q9
    obtain ⟨e0, rfl, R9, O9⟩ := q9
    obtain rfl := O9.2.2
    exact jn_iret (pc := 9) C hr ⟨rfl, Or.inl ⟨e0, rfl, R9⟩⟩ dL_give_9
theorem t_L_give {l : Launch} (hst : l.stackTraces = false) {D : va_G} {cA : Nat → ClassId} {N0 : Nat} {Sh : jS} {I : jI} {P : jP} {L : jL} {y : Nat} (S : cS Sh y) {f : sF} {q : Nat} {pst : Nat → sF} {t : Nat} {ch : Nat → Nat} (R : cR I P y f q pst t ch) {wv ov cv g : Int32} (hc : (sgive f wv ov cv g).1 = 0 ∨ (sgive f wv ov cv g).1 = 2 ∨ (sgive f wv ov cv g).1 = 3) : jWM l D cA N0 8 yL_give cL_give 6 (some .int) [(0, 9, 10, 33), (0, 9, 15, 23)] [.ref y, .int wv, .int ov, .int cv, .int g] Sh I P L (wQ L y (sgive f wv ov cv g) f q pst t ch) := jWM_of (by decide) (Nat.le_of_ble_eq_true rfl) (fun _ _ _ _ _ _ _ _ C hnc hr htab => b_L_give C hnc hst htab hr S R hc)
set_option maxHeartbeats 4000000 in
theorem b_L_undo {p : Program} {l : Launch} {e : Env} {s : State} {m : MethodId} {args : Array Value} {below : List Frame} {meth : Method} {c : Code} {D : va_G} {cA : Nat → ClassId} {N0 : Nat} {Sh : jS} {I : jI} {P : jP} {L : jL} (C : jC p (jRm 8 1 6) s m args meth c D cA N0 cL_undo 2 RL 8) (hnc : jNc s) (hst : l.stackTraces = false) (htab : c.exceptionTable.toList = tableOf [(0, 4, 5, 23)]) (hr : meth.sig.returnType = (some .int)) {y : Nat} (S : cS Sh y) {f : sF} {q : Nat} {pst : Nat → sF} {t : Nat} {ch : Nat → Nat} (R : cR I P y f q pst t ch) : jJ p l e (jRm 8 1 6) s m args below meth c D cA N0 2 (MQ below (jQn D cA N0 Sh (wU L y f q pst t ch)) args s 1 6 (fun q => N0 ≤ q)) (fun _ => True) Sh I P L 0 0 0 [some (.ref y), none] [] := by
  refine jx_aload_n (pc := 0) C dL_undo_0 rfl ?_
  refine jx_callX (pc := 1) C hnc (As := []) (rest := []) ky_X5_undo rfl kc_X5_undo (jWS_in 581 (by decide +kernel) rfl) kn_X5_undo kl_X5_undo ki_X5_undo S.obj rfl (Nat.le_of_ble_eq_true rfl) dL_undo_1 (t_X5_undo hst S R) (by decide) (by decide) ⟨Nat.le_refl 1, Nat.le_refl 6⟩ ?_ ?_
  · intro E9 I9 P9 L9 q9
    obtain ⟨e0, rfl, R9, O9⟩ := q9
    obtain rfl := O9.2.2
    refine jx_catch (E := eS) C [] (⟨0, 4, 5, 23⟩ : ExceptionTableEntry) [] htab (fun z hz => absurd hz List.not_mem_nil) (by decide) (by decide) hnc (jWS_in 502 (by decide +kernel) rfl) (by unfold jXL; simp) (fun q => ?_)
    refine jx_astore_n (pc := 5) C dL_undo_5 (jset_1 jc_r) (by decide) ?_
    refine jx_bipush (pc := 6) C dL_undo_6 nb_m3 ?_
    exact jn_iret (pc := 8) C hr (⟨rfl, Or.inr ⟨e0, ⟨_, rfl, by decide⟩, R9⟩⟩) dL_undo_8
  · intro v9 I9 P9 L9 q9
    obtain ⟨e0, rfl, R9, O9⟩ := q9
    obtain rfl := O9.2.2
    exact jn_iret (pc := 4) C hr ⟨rfl, Or.inl ⟨e0, rfl, R9⟩⟩ dL_undo_4
theorem t_L_undo {l : Launch} (hst : l.stackTraces = false) {D : va_G} {cA : Nat → ClassId} {N0 : Nat} {Sh : jS} {I : jI} {P : jP} {L : jL} {y : Nat} (S : cS Sh y) {f : sF} {q : Nat} {pst : Nat → sF} {t : Nat} {ch : Nat → Nat} (R : cR I P y f q pst t ch) : jWM l D cA N0 8 yL_undo cL_undo 2 (some .int) [(0, 4, 5, 23)] [.ref y] Sh I P L (wU L y f q pst t ch) := jWM_of (by decide) (Nat.le_of_ble_eq_true rfl) (fun _ _ _ _ _ _ _ _ C hnc hr htab => b_L_undo C hnc hst htab hr S R)
