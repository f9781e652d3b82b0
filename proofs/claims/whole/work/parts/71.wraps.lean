/-! THE LAW'S WRAPPERS: each gives the sort of the exception and keeps the answer in out -/
def wQ (I : jI) (P : jP) (L : jL) (y o n : Nat) (r : Int32) (N W : jI → jP → Prop) : Option Value → jI → jP → jL → Prop := fun v I' P' L' => v = some (.int (nI n)) ∧ (∀ b, (b < y ∨ y + 366 ≤ b) → I' b = I b) ∧ (∀ b, (b < y ∨ y + 366 ≤ b) → P' b = P b) ∧ (n = 0 → N I' P' ∧ L' = jstL L o 0 r.toInt64) ∧ (n ≠ 0 → W I' P' ∧ L' = L)
theorem wQ_ok {I I' : jI} {P P' : jP} {L L1 : jL} {y o n : Nat} {r : Int32} {N W : jI → jP → Prop} (e : n = 0) (hN : N I' P') (O : cOut I P L y I' P' L1) : wQ I P L y o n r N W (some (.int (nI 0))) I' P' (jstL L1 o 0 r.toInt64) := by
  subst e
  exact ⟨rfl, O.1, O.2.1, fun _ => ⟨hN, by rw [O.2.2]⟩, fun z => absurd rfl z⟩
theorem wQ_no {I I' : jI} {P P' : jP} {L L1 : jL} {y o n k : Nat} {r : Int32} {N W : jI → jP → Prop} (e : n = k) (hk : k ≠ 0) (hW : W I' P') (O : cOut I P L y I' P' L1) : wQ I P L y o n r N W (some (.int (nI k))) I' P' L1 := by
  subst e
  exact ⟨rfl, O.1, O.2.1, fun z => absurd z hk, fun _ => ⟨hW, O.2.2⟩⟩
theorem le_loom {f : sF} {q t : Nat} {ch : Nat → Nat} {wv wd sp ca : Int32} : (sloom f wv wd sp ca).1 ≤ 2 := by
  unfold sloom
  repeat' split
  all_goals exact Nat.le_of_ble_eq_true rfl
theorem le_yarn {f : sF} {q t : Nat} {ch : Nat → Nat} {wv cv g : Int32} : (syarn f wv cv g).1 ≤ 3 := by
  unfold syarn
  repeat' split
  all_goals exact Nat.le_of_ble_eq_true rfl
theorem le_store {f : sF} {q t : Nat} {ch : Nat → Nat} {cv g : Int32} : (sstore f cv g).1 ≤ 3 := by
  unfold sstore
  repeat' split
  all_goals exact Nat.le_of_ble_eq_true rfl
theorem le_give {f : sF} {q t : Nat} {ch : Nat → Nat} {wv ov cv g : Int32} : (sgive f wv ov cv g).1 ≤ 3 := by
  unfold sgive
  repeat' split
  all_goals exact Nat.le_of_ble_eq_true rfl
theorem le_order {f : sF} {q t : Nat} {ch : Nat → Nat} {cv wd len pr due : Int32} : (sorder f cv wd len pr due).1 ≤ 3 := by
  unfold sorder
  repeat' split
  all_goals exact Nat.le_of_ble_eq_true rfl
theorem le_cancel {f : sF} {q t : Nat} {ch : Nat → Nat} {num : Int32} : (scancel f num).1 ≤ 1 := by
  unfold scancel
  cases splace f num <;> exact Nat.le_of_ble_eq_true rfl
theorem le_set {f : sF} {q t : Nat} {ch : Nat → Nat} {sv v : Int32} : (sset f sv v).1 ≤ 2 := by
  unfold sset
  repeat' split
  all_goals exact Nat.le_of_ble_eq_true rfl
theorem le_pass {f : sF} {q t : Nat} {ch : Nat → Nat} {hv : Int32} : (spass f hv).1 ≤ 2 := by
  unfold spass
  repeat' split
  all_goals exact Nat.le_of_ble_eq_true rfl
theorem le_append {f : sF} {q t : Nat} {ch : Nat → Nat} {cv : Int32} : (sapp t cv).1 ≤ 2 := by
  unfold sapp
  repeat' split
  all_goals exact Nat.le_of_ble_eq_true rfl
theorem le_takeAll {f : sF} {q t : Nat} {ch : Nat → Nat} : (sall f ch t).1 ≤ 2 := by
  unfold sall
  cases stext ch t with
  | none => exact Nat.le_of_ble_eq_true rfl
  | some u =>
    show (if _ then _ else _ : Nat × Int32 × sF).1 ≤ 2
    split <;> exact Nat.le_of_ble_eq_true rfl
theorem le_undo {f : sF} {q t : Nat} {ch : Nat → Nat} : (if q = 0 then 1 else 0) ≤ 1 := by
  split <;> exact Nat.le_of_ble_eq_true rfl
theorem le_weaver {f : sF} {q t : Nat} {ch : Nat → Nat} {wv kv : Int32} : (sweaver f wv kv).1 ≤ 2 := by
  unfold sweaver
  repeat' split
  all_goals exact Nat.le_of_ble_eq_true rfl
theorem le_share {f : sF} {q t : Nat} {ch : Nat → Nat} {wv cv : Int32} : (sshare f wv cv).1 ≤ 1 := by
  unfold sshare
  repeat' split
  all_goals exact Nat.le_of_ble_eq_true rfl
theorem le_orderOf {f : sF} {q t : Nat} {ch : Nat → Nat} {pv kv : Int32} : (sorderOf f pv kv).1 ≤ 1 := by
  unfold sorderOf
  repeat' split
  all_goals exact Nat.le_of_ble_eq_true rfl
theorem le_wovenBy {f : sF} {q t : Nat} {ch : Nat → Nat} {pv wv : Int32} : (swovenBy f pv wv).1 ≤ 2 := by
  unfold swovenBy
  repeat' split
  all_goals exact Nat.le_of_ble_eq_true rfl
theorem le_next {f : sF} {q t : Nat} {ch : Nat → Nat} {wv kv : Int32} : (snext f wv kv).1 ≤ 2 := by
  unfold snext
  repeat' split
  all_goals exact Nat.le_of_ble_eq_true rfl
theorem le_count {f : sF} {q t : Nat} {ch : Nat → Nat} {kv : Int32} : (scount f (nI q) kv).1 ≤ 1 := by
  unfold scount
  repeat' split
  all_goals exact Nat.le_of_ble_eq_true rfl
theorem le_setting {f : sF} {q t : Nat} {ch : Nat → Nat} {sv : Int32} : (ssetting f sv).1 ≤ 1 := by
  unfold ssetting
  repeat' split
  all_goals exact Nat.le_of_ble_eq_true rfl
theorem le_ifPassed {f : sF} {q t : Nat} {ch : Nat → Nat} {hv kv : Int32} : (sifP f hv kv).1 ≤ 1 := by
  unfold sifP
  repeat' split
  all_goals exact Nat.le_of_ble_eq_true rfl
theorem le_doneIn {f : sF} {q t : Nat} {ch : Nat → Nat} {num : Int32} : (sdoneIn f num).1 ≤ 1 := by
  unfold sdoneIn
  cases splace f num <;> exact Nat.le_of_ble_eq_true rfl
theorem le_bestRule {f : sF} {q t : Nat} {ch : Nat → Nat} {hv : Int32} : (sbestRule f hv).1 ≤ 1 := by
  unfold sbestRule
  repeat' split
  all_goals exact Nat.le_of_ble_eq_true rfl
theorem le_dueNow {f : sF} {q t : Nat} {ch : Nat → Nat} {num wv : Int32} : (sdueNow f num wv).1 ≤ 1 := by
  unfold sdueNow
  cases splace f num with
  | none => exact Nat.le_refl 1
  | some o =>
    show (if _ then _ else _ : Nat × Int32).1 ≤ 1
    split <;> exact Nat.le_of_ble_eq_true rfl
set_option maxHeartbeats 4000000 in
theorem b_L_loom {p : Program} {l : Launch} {e : Env} {s : State} {m : MethodId} {args : Array Value} {below : List Frame} {meth : Method} {c : Code} {D : va_G} {cA : Nat → ClassId} {N0 : Nat} {Sh : jS} {I : jI} {P : jP} {L : jL} (C : jC p (jRm 8 1 6) s m args meth c D cA N0 cL_loom 7 RL 8) (hnc : jNc s) (hst : l.stackTraces = false) (htab : c.exceptionTable.toList = tableOf [(0, 14, 17, 13), (0, 14, 21, 15)]) (hr : meth.sig.returnType = (some .int)) {y : Nat} (S : cS Sh y) {f : sF} {q : Nat} {pst : Nat → sF} {t : Nat} {ch : Nat → Nat} (R : cR I P y f q pst t ch) {o : Nat} (hO : Sh o = some (11, 1)) {wv wd sp ca : Int32} : jJ p l e (jRm 8 1 6) s m args below meth c D cA N0 7 (MQ below (jQn D cA N0 Sh (wQ I P L y o (sloom f wv wd sp ca).1 (sloom f wv wd sp ca).2.1 (fun I' P' => cR I' P' y (sloom f wv wd sp ca).2.2 (min q 5 + 1) (spush f q pst) t ch) (fun I' P' => cR I' P' y f q pst t ch))) args s 1 6 (fun q => N0 ≤ q)) (fun _ => True) Sh I P L 0 0 0 [some (.ref y), some (.int wv), some (.int wd), some (.int sp), some (.int ca), some (.ref o), none] [] := by
  refine jx_aload (pc := 0) C dL_loom_0 rfl ?_
  refine jx_iconst (pc := 2) C dL_loom_2 nc_0 ?_
  refine jx_aload_n (pc := 3) C dL_loom_3 rfl ?_
  refine jx_iload_n (pc := 4) C dL_loom_4 rfl ?_
  refine jx_iload_n (pc := 5) C dL_loom_5 rfl ?_
  refine jx_iload_n (pc := 6) C dL_loom_6 rfl ?_
  refine jx_iload (pc := 7) C dL_loom_7 rfl ?_
  refine jx_callX (pc := 9) C hnc (As := [.int wv, .int wd, .int sp, .int ca]) (rest := [.int (nI 0), .ref o]) ky_X5_loom rfl kc_X5_loom (jWS_in 545 (by decide +kernel) rfl) kn_X5_loom kl_X5_loom ki_X5_loom S.obj rfl (Nat.le_of_ble_eq_true rfl) dL_loom_9 (t_X5_loom hst S R) (by decide) (by decide) ⟨Nat.le_refl 1, Nat.le_refl 6⟩ ?_ ?_
  · intro E9 I9 P9 L9 q9
    obtain ⟨e0, eE, R9, O9⟩ := q9
    have hle := le_loom (f := f) (q := q) (t := t) (ch := ch) (wv := wv) (wd := wd) (sp := sp) (ca := ca)
    generalize hn9 : (sloom f wv wd sp ca).1 = n9 at e0 eE hle
    rcases (by omega : n9 = 1 ∨ n9 = 2) with h9 | h9
    · subst h9
      subst eE
      refine jx_catch (E := eI) C [] (⟨0, 14, 17, 13⟩ : ExceptionTableEntry) [(⟨0, 14, 21, 15⟩ : ExceptionTableEntry)] htab (fun z hz => absurd hz List.not_mem_nil) (by decide) (by decide) hnc (jWS_in 543 (by decide +kernel) rfl) (by unfold jXL; simp) (fun q => ?_)
      refine jx_astore (pc := 17) C dL_loom_17 (jset_6 jc_r) (by decide) ?_
      refine jx_iconst (pc := 19) C dL_loom_19 nc_1 ?_
      exact jn_iret (pc := 20) C hr (wQ_no (k := 1) rfl (by decide) R9 O9) dL_loom_20
    · subst h9
      subst eE
      refine jx_catch (E := eA) C [(⟨0, 14, 17, 13⟩ : ExceptionTableEntry)] (⟨0, 14, 21, 15⟩ : ExceptionTableEntry) [] htab (List.forall_mem_cons.mpr ⟨Or.inr ⟨by decide, eI, C.2.2.2.2.1 _ (jWS_in 543 (by decide +kernel) rfl), hnc.1.1⟩, (fun z hz => absurd hz List.not_mem_nil)⟩) (by decide) (by decide) hnc (jWS_in 544 (by decide +kernel) rfl) (by unfold jXL; simp) (fun q => ?_)
      refine jx_astore (pc := 21) C dL_loom_21 (jset_6 jc_r) (by decide) ?_
      refine jx_iconst (pc := 23) C dL_loom_23 nc_2 ?_
      exact jn_iret (pc := 24) C hr (wQ_no (k := 2) rfl (by decide) R9 O9) dL_loom_24
  · intro v9 I9 P9 L9 q9
    obtain ⟨e0, rfl, R9, O9⟩ := q9
    refine jx_i2l (pc := 12) C dL_loom_12 ?_
    refine jx_last (pc := 13) (j := 0) C hO (by decide) (by decide) dL_loom_13 ?_
    refine jx_goto (pc := 14) C (tgt := 25) dL_loom_14 (by decide) ?_
    refine jx_iconst (pc := 25) C dL_loom_25 nc_0 ?_
    exact jn_iret (pc := 26) C hr (wQ_ok e0 R9 O9) dL_loom_26
theorem t_L_loom {l : Launch} (hst : l.stackTraces = false) {D : va_G} {cA : Nat → ClassId} {N0 : Nat} {Sh : jS} {I : jI} {P : jP} {L : jL} {y : Nat} (S : cS Sh y) {f : sF} {q : Nat} {pst : Nat → sF} {t : Nat} {ch : Nat → Nat} (R : cR I P y f q pst t ch) {o : Nat} (hO : Sh o = some (11, 1)) {wv wd sp ca : Int32} : jWM l D cA N0 8 yL_loom cL_loom 7 (some .int) [(0, 14, 17, 13), (0, 14, 21, 15)] [.ref y, .int wv, .int wd, .int sp, .int ca, .ref o] Sh I P L (wQ I P L y o (sloom f wv wd sp ca).1 (sloom f wv wd sp ca).2.1 (fun I' P' => cR I' P' y (sloom f wv wd sp ca).2.2 (min q 5 + 1) (spush f q pst) t ch) (fun I' P' => cR I' P' y f q pst t ch)) := jWM_of (by decide) (Nat.le_of_ble_eq_true rfl) (fun _ _ _ _ _ _ _ _ C hnc hr htab => b_L_loom C hnc hst htab hr S R hO)
set_option maxHeartbeats 4000000 in
theorem b_L_yarn {p : Program} {l : Launch} {e : Env} {s : State} {m : MethodId} {args : Array Value} {below : List Frame} {meth : Method} {c : Code} {D : va_G} {cA : Nat → ClassId} {N0 : Nat} {Sh : jS} {I : jI} {P : jP} {L : jL} (C : jC p (jRm 8 1 6) s m args meth c D cA N0 cL_yarn 6 RL 8) (hnc : jNc s) (hst : l.stackTraces = false) (htab : c.exceptionTable.toList = tableOf [(0, 12, 15, 13), (0, 12, 19, 15), (0, 12, 23, 21)]) (hr : meth.sig.returnType = (some .int)) {y : Nat} (S : cS Sh y) {f : sF} {q : Nat} {pst : Nat → sF} {t : Nat} {ch : Nat → Nat} (R : cR I P y f q pst t ch) {o : Nat} (hO : Sh o = some (11, 1)) {wv cv g : Int32} : jJ p l e (jRm 8 1 6) s m args below meth c D cA N0 6 (MQ below (jQn D cA N0 Sh (wQ I P L y o (syarn f wv cv g).1 (syarn f wv cv g).2.1 (fun I' P' => cR I' P' y (syarn f wv cv g).2.2 (min q 5 + 1) (spush f q pst) t ch) (fun I' P' => cR I' P' y f q pst t ch))) args s 1 6 (fun q => N0 ≤ q)) (fun _ => True) Sh I P L 0 0 0 [some (.ref y), some (.int wv), some (.int cv), some (.int g), some (.ref o), none] [] := by
  refine jx_aload (pc := 0) C dL_yarn_0 rfl ?_
  refine jx_iconst (pc := 2) C dL_yarn_2 nc_0 ?_
  refine jx_aload_n (pc := 3) C dL_yarn_3 rfl ?_
  refine jx_iload_n (pc := 4) C dL_yarn_4 rfl ?_
  refine jx_iload_n (pc := 5) C dL_yarn_5 rfl ?_
  refine jx_iload_n (pc := 6) C dL_yarn_6 rfl ?_
  refine jx_callX (pc := 7) C hnc (As := [.int wv, .int cv, .int g]) (rest := [.int (nI 0), .ref o]) ky_X5_yarn rfl kc_X5_yarn (jWS_in 649 (by decide +kernel) rfl) kn_X5_yarn kl_X5_yarn ki_X5_yarn S.obj rfl (Nat.le_of_ble_eq_true rfl) dL_yarn_7 (t_X5_yarn hst S R) (by decide) (by decide) ⟨Nat.le_refl 1, Nat.le_refl 6⟩ ?_ ?_
  · intro E9 I9 P9 L9 q9
    obtain ⟨e0, eE, R9, O9⟩ := q9
    have hle := le_yarn (f := f) (q := q) (t := t) (ch := ch) (wv := wv) (cv := cv) (g := g)
    generalize hn9 : (syarn f wv cv g).1 = n9 at e0 eE hle
    rcases (by omega : n9 = 1 ∨ n9 = 2 ∨ n9 = 3) with h9 | h9 | h9
    · subst h9
      subst eE
      refine jx_catch (E := eI) C [] (⟨0, 12, 15, 13⟩ : ExceptionTableEntry) [(⟨0, 12, 19, 15⟩ : ExceptionTableEntry), (⟨0, 12, 23, 21⟩ : ExceptionTableEntry)] htab (fun z hz => absurd hz List.not_mem_nil) (by decide) (by decide) hnc (jWS_in 543 (by decide +kernel) rfl) (by unfold jXL; simp) (fun q => ?_)
      refine jx_astore (pc := 15) C dL_yarn_15 (jset_5 jc_r) (by decide) ?_
      refine jx_iconst (pc := 17) C dL_yarn_17 nc_1 ?_
      exact jn_iret (pc := 18) C hr (wQ_no (k := 1) rfl (by decide) R9 O9) dL_yarn_18
    · subst h9
      subst eE
      refine jx_catch (E := eA) C [(⟨0, 12, 15, 13⟩ : ExceptionTableEntry)] (⟨0, 12, 19, 15⟩ : ExceptionTableEntry) [(⟨0, 12, 23, 21⟩ : ExceptionTableEntry)] htab (List.forall_mem_cons.mpr ⟨Or.inr ⟨by decide, eI, C.2.2.2.2.1 _ (jWS_in 543 (by decide +kernel) rfl), hnc.1.1⟩, (fun z hz => absurd hz List.not_mem_nil)⟩) (by decide) (by decide) hnc (jWS_in 544 (by decide +kernel) rfl) (by unfold jXL; simp) (fun q => ?_)
      refine jx_astore (pc := 19) C dL_yarn_19 (jset_5 jc_r) (by decide) ?_
      refine jx_iconst (pc := 21) C dL_yarn_21 nc_2 ?_
      exact jn_iret (pc := 22) C hr (wQ_no (k := 2) rfl (by decide) R9 O9) dL_yarn_22
    · subst h9
      subst eE
      refine jx_catch (E := eS) C [(⟨0, 12, 15, 13⟩ : ExceptionTableEntry), (⟨0, 12, 19, 15⟩ : ExceptionTableEntry)] (⟨0, 12, 23, 21⟩ : ExceptionTableEntry) [] htab (List.forall_mem_cons.mpr ⟨Or.inr ⟨by decide, eI, C.2.2.2.2.1 _ (jWS_in 543 (by decide +kernel) rfl), hnc.1.2.1⟩, (List.forall_mem_cons.mpr ⟨Or.inr ⟨by decide, eA, C.2.2.2.2.1 _ (jWS_in 544 (by decide +kernel) rfl), hnc.1.2.2.2.1⟩, (fun z hz => absurd hz List.not_mem_nil)⟩)⟩) (by decide) (by decide) hnc (jWS_in 648 (by decide +kernel) rfl) (by unfold jXL; simp) (fun q => ?_)
      refine jx_astore (pc := 23) C dL_yarn_23 (jset_5 jc_r) (by decide) ?_
      refine jx_iconst (pc := 25) C dL_yarn_25 nc_3 ?_
      exact jn_iret (pc := 26) C hr (wQ_no (k := 3) rfl (by decide) R9 O9) dL_yarn_26
  · intro v9 I9 P9 L9 q9
    obtain ⟨e0, rfl, R9, O9⟩ := q9
    refine jx_i2l (pc := 10) C dL_yarn_10 ?_
    refine jx_last (pc := 11) (j := 0) C hO (by decide) (by decide) dL_yarn_11 ?_
    refine jx_goto (pc := 12) C (tgt := 27) dL_yarn_12 (by decide) ?_
    refine jx_iconst (pc := 27) C dL_yarn_27 nc_0 ?_
    exact jn_iret (pc := 28) C hr (wQ_ok e0 R9 O9) dL_yarn_28
theorem t_L_yarn {l : Launch} (hst : l.stackTraces = false) {D : va_G} {cA : Nat → ClassId} {N0 : Nat} {Sh : jS} {I : jI} {P : jP} {L : jL} {y : Nat} (S : cS Sh y) {f : sF} {q : Nat} {pst : Nat → sF} {t : Nat} {ch : Nat → Nat} (R : cR I P y f q pst t ch) {o : Nat} (hO : Sh o = some (11, 1)) {wv cv g : Int32} : jWM l D cA N0 8 yL_yarn cL_yarn 6 (some .int) [(0, 12, 15, 13), (0, 12, 19, 15), (0, 12, 23, 21)] [.ref y, .int wv, .int cv, .int g, .ref o] Sh I P L (wQ I P L y o (syarn f wv cv g).1 (syarn f wv cv g).2.1 (fun I' P' => cR I' P' y (syarn f wv cv g).2.2 (min q 5 + 1) (spush f q pst) t ch) (fun I' P' => cR I' P' y f q pst t ch)) := jWM_of (by decide) (Nat.le_of_ble_eq_true rfl) (fun _ _ _ _ _ _ _ _ C hnc hr htab => b_L_yarn C hnc hst htab hr S R hO)
set_option maxHeartbeats 4000000 in
theorem b_L_store {p : Program} {l : Launch} {e : Env} {s : State} {m : MethodId} {args : Array Value} {below : List Frame} {meth : Method} {c : Code} {D : va_G} {cA : Nat → ClassId} {N0 : Nat} {Sh : jS} {I : jI} {P : jP} {L : jL} (C : jC p (jRm 8 1 6) s m args meth c D cA N0 cL_store 5 RL 8) (hnc : jNc s) (hst : l.stackTraces = false) (htab : c.exceptionTable.toList = tableOf [(0, 10, 13, 13), (0, 10, 17, 15), (0, 10, 21, 21)]) (hr : meth.sig.returnType = (some .int)) {y : Nat} (S : cS Sh y) {f : sF} {q : Nat} {pst : Nat → sF} {t : Nat} {ch : Nat → Nat} (R : cR I P y f q pst t ch) {o : Nat} (hO : Sh o = some (11, 1)) {cv g : Int32} : jJ p l e (jRm 8 1 6) s m args below meth c D cA N0 5 (MQ below (jQn D cA N0 Sh (wQ I P L y o (sstore f cv g).1 (sstore f cv g).2.1 (fun I' P' => cR I' P' y (sstore f cv g).2.2 (min q 5 + 1) (spush f q pst) t ch) (fun I' P' => cR I' P' y f q pst t ch))) args s 1 6 (fun q => N0 ≤ q)) (fun _ => True) Sh I P L 0 0 0 [some (.ref y), some (.int cv), some (.int g), some (.ref o), none] [] := by
  refine jx_aload_n (pc := 0) C dL_store_0 rfl ?_
  refine jx_iconst (pc := 1) C dL_store_1 nc_0 ?_
  refine jx_aload_n (pc := 2) C dL_store_2 rfl ?_
  refine jx_iload_n (pc := 3) C dL_store_3 rfl ?_
  refine jx_iload_n (pc := 4) C dL_store_4 rfl ?_
  refine jx_callX (pc := 5) C hnc (As := [.int cv, .int g]) (rest := [.int (nI 0), .ref o]) ky_X5_store rfl kc_X5_store (jWS_in 675 (by decide +kernel) rfl) kn_X5_store kl_X5_store ki_X5_store S.obj rfl (Nat.le_of_ble_eq_true rfl) dL_store_5 (t_X5_store hst S R) (by decide) (by decide) ⟨Nat.le_refl 1, Nat.le_refl 6⟩ ?_ ?_
  · intro E9 I9 P9 L9 q9
    obtain ⟨e0, eE, R9, O9⟩ := q9
    have hle := le_store (f := f) (q := q) (t := t) (ch := ch) (cv := cv) (g := g)
    generalize hn9 : (sstore f cv g).1 = n9 at e0 eE hle
    rcases (by omega : n9 = 1 ∨ n9 = 2 ∨ n9 = 3) with h9 | h9 | h9
    · subst h9
      subst eE
      refine jx_catch (E := eI) C [] (⟨0, 10, 13, 13⟩ : ExceptionTableEntry) [(⟨0, 10, 17, 15⟩ : ExceptionTableEntry), (⟨0, 10, 21, 21⟩ : ExceptionTableEntry)] htab (fun z hz => absurd hz List.not_mem_nil) (by decide) (by decide) hnc (jWS_in 543 (by decide +kernel) rfl) (by unfold jXL; simp) (fun q => ?_)
      refine jx_astore (pc := 13) C dL_store_13 (jset_4 jc_r) (by decide) ?_
      refine jx_iconst (pc := 15) C dL_store_15 nc_1 ?_
      exact jn_iret (pc := 16) C hr (wQ_no (k := 1) rfl (by decide) R9 O9) dL_store_16
    · subst h9
      subst eE
      refine jx_catch (E := eA) C [(⟨0, 10, 13, 13⟩ : ExceptionTableEntry)] (⟨0, 10, 17, 15⟩ : ExceptionTableEntry) [(⟨0, 10, 21, 21⟩ : ExceptionTableEntry)] htab (List.forall_mem_cons.mpr ⟨Or.inr ⟨by decide, eI, C.2.2.2.2.1 _ (jWS_in 543 (by decide +kernel) rfl), hnc.1.1⟩, (fun z hz => absurd hz List.not_mem_nil)⟩) (by decide) (by decide) hnc (jWS_in 544 (by decide +kernel) rfl) (by unfold jXL; simp) (fun q => ?_)
      refine jx_astore (pc := 17) C dL_store_17 (jset_4 jc_r) (by decide) ?_
      refine jx_iconst (pc := 19) C dL_store_19 nc_2 ?_
      exact jn_iret (pc := 20) C hr (wQ_no (k := 2) rfl (by decide) R9 O9) dL_store_20
    · subst h9
      subst eE
      refine jx_catch (E := eS) C [(⟨0, 10, 13, 13⟩ : ExceptionTableEntry), (⟨0, 10, 17, 15⟩ : ExceptionTableEntry)] (⟨0, 10, 21, 21⟩ : ExceptionTableEntry) [] htab (List.forall_mem_cons.mpr ⟨Or.inr ⟨by decide, eI, C.2.2.2.2.1 _ (jWS_in 543 (by decide +kernel) rfl), hnc.1.2.1⟩, (List.forall_mem_cons.mpr ⟨Or.inr ⟨by decide, eA, C.2.2.2.2.1 _ (jWS_in 544 (by decide +kernel) rfl), hnc.1.2.2.2.1⟩, (fun z hz => absurd hz List.not_mem_nil)⟩)⟩) (by decide) (by decide) hnc (jWS_in 648 (by decide +kernel) rfl) (by unfold jXL; simp) (fun q => ?_)
      refine jx_astore (pc := 21) C dL_store_21 (jset_4 jc_r) (by decide) ?_
      refine jx_iconst (pc := 23) C dL_store_23 nc_3 ?_
      exact jn_iret (pc := 24) C hr (wQ_no (k := 3) rfl (by decide) R9 O9) dL_store_24
  · intro v9 I9 P9 L9 q9
    obtain ⟨e0, rfl, R9, O9⟩ := q9
    refine jx_i2l (pc := 8) C dL_store_8 ?_
    refine jx_last (pc := 9) (j := 0) C hO (by decide) (by decide) dL_store_9 ?_
    refine jx_goto (pc := 10) C (tgt := 25) dL_store_10 (by decide) ?_
    refine jx_iconst (pc := 25) C dL_store_25 nc_0 ?_
    exact jn_iret (pc := 26) C hr (wQ_ok e0 R9 O9) dL_store_26
theorem t_L_store {l : Launch} (hst : l.stackTraces = false) {D : va_G} {cA : Nat → ClassId} {N0 : Nat} {Sh : jS} {I : jI} {P : jP} {L : jL} {y : Nat} (S : cS Sh y) {f : sF} {q : Nat} {pst : Nat → sF} {t : Nat} {ch : Nat → Nat} (R : cR I P y f q pst t ch) {o : Nat} (hO : Sh o = some (11, 1)) {cv g : Int32} : jWM l D cA N0 8 yL_store cL_store 5 (some .int) [(0, 10, 13, 13), (0, 10, 17, 15), (0, 10, 21, 21)] [.ref y, .int cv, .int g, .ref o] Sh I P L (wQ I P L y o (sstore f cv g).1 (sstore f cv g).2.1 (fun I' P' => cR I' P' y (sstore f cv g).2.2 (min q 5 + 1) (spush f q pst) t ch) (fun I' P' => cR I' P' y f q pst t ch)) := jWM_of (by decide) (Nat.le_of_ble_eq_true rfl) (fun _ _ _ _ _ _ _ _ C hnc hr htab => b_L_store C hnc hst htab hr S R hO)
set_option maxHeartbeats 4000000 in
theorem b_L_give {p : Program} {l : Launch} {e : Env} {s : State} {m : MethodId} {args : Array Value} {below : List Frame} {meth : Method} {c : Code} {D : va_G} {cA : Nat → ClassId} {N0 : Nat} {Sh : jS} {I : jI} {P : jP} {L : jL} (C : jC p (jRm 8 1 6) s m args meth c D cA N0 cL_give 7 RL 8) (hnc : jNc s) (hst : l.stackTraces = false) (htab : c.exceptionTable.toList = tableOf [(0, 14, 17, 13), (0, 14, 21, 15), (0, 14, 25, 21)]) (hr : meth.sig.returnType = (some .int)) {y : Nat} (S : cS Sh y) {f : sF} {q : Nat} {pst : Nat → sF} {t : Nat} {ch : Nat → Nat} (R : cR I P y f q pst t ch) {o : Nat} (hO : Sh o = some (11, 1)) {wv ov cv g : Int32} : jJ p l e (jRm 8 1 6) s m args below meth c D cA N0 7 (MQ below (jQn D cA N0 Sh (wQ I P L y o (sgive f wv ov cv g).1 (sgive f wv ov cv g).2.1 (fun I' P' => cR I' P' y (sgive f wv ov cv g).2.2 (min q 5 + 1) (spush f q pst) t ch) (fun I' P' => cR I' P' y f q pst t ch))) args s 1 6 (fun q => N0 ≤ q)) (fun _ => True) Sh I P L 0 0 0 [some (.ref y), some (.int wv), some (.int ov), some (.int cv), some (.int g), some (.ref o), none] [] := by
  refine jx_aload (pc := 0) C dL_give_0 rfl ?_
  refine jx_iconst (pc := 2) C dL_give_2 nc_0 ?_
  refine jx_aload_n (pc := 3) C dL_give_3 rfl ?_
  refine jx_iload_n (pc := 4) C dL_give_4 rfl ?_
  refine jx_iload_n (pc := 5) C dL_give_5 rfl ?_
  refine jx_iload_n (pc := 6) C dL_give_6 rfl ?_
  refine jx_iload (pc := 7) C dL_give_7 rfl ?_
  refine jx_callX (pc := 9) C hnc (As := [.int wv, .int ov, .int cv, .int g]) (rest := [.int (nI 0), .ref o]) ky_X5_give rfl kc_X5_give (jWS_in 685 (by decide +kernel) rfl) kn_X5_give kl_X5_give ki_X5_give S.obj rfl (Nat.le_of_ble_eq_true rfl) dL_give_9 (t_X5_give hst S R) (by decide) (by decide) ⟨Nat.le_refl 1, Nat.le_refl 6⟩ ?_ ?_
  · intro E9 I9 P9 L9 q9
    obtain ⟨e0, eE, R9, O9⟩ := q9
    have hle := le_give (f := f) (q := q) (t := t) (ch := ch) (wv := wv) (ov := ov) (cv := cv) (g := g)
    generalize hn9 : (sgive f wv ov cv g).1 = n9 at e0 eE hle
    rcases (by omega : n9 = 1 ∨ n9 = 2 ∨ n9 = 3) with h9 | h9 | h9
    · subst h9
      subst eE
      refine jx_catch (E := eI) C [] (⟨0, 14, 17, 13⟩ : ExceptionTableEntry) [(⟨0, 14, 21, 15⟩ : ExceptionTableEntry), (⟨0, 14, 25, 21⟩ : ExceptionTableEntry)] htab (fun z hz => absurd hz List.not_mem_nil) (by decide) (by decide) hnc (jWS_in 543 (by decide +kernel) rfl) (by unfold jXL; simp) (fun q => ?_)
      refine jx_astore (pc := 17) C dL_give_17 (jset_6 jc_r) (by decide) ?_
      refine jx_iconst (pc := 19) C dL_give_19 nc_1 ?_
      exact jn_iret (pc := 20) C hr (wQ_no (k := 1) rfl (by decide) R9 O9) dL_give_20
    · subst h9
      subst eE
      refine jx_catch (E := eA) C [(⟨0, 14, 17, 13⟩ : ExceptionTableEntry)] (⟨0, 14, 21, 15⟩ : ExceptionTableEntry) [(⟨0, 14, 25, 21⟩ : ExceptionTableEntry)] htab (List.forall_mem_cons.mpr ⟨Or.inr ⟨by decide, eI, C.2.2.2.2.1 _ (jWS_in 543 (by decide +kernel) rfl), hnc.1.1⟩, (fun z hz => absurd hz List.not_mem_nil)⟩) (by decide) (by decide) hnc (jWS_in 544 (by decide +kernel) rfl) (by unfold jXL; simp) (fun q => ?_)
      refine jx_astore (pc := 21) C dL_give_21 (jset_6 jc_r) (by decide) ?_
      refine jx_iconst (pc := 23) C dL_give_23 nc_2 ?_
      exact jn_iret (pc := 24) C hr (wQ_no (k := 2) rfl (by decide) R9 O9) dL_give_24
    · subst h9
      subst eE
      refine jx_catch (E := eS) C [(⟨0, 14, 17, 13⟩ : ExceptionTableEntry), (⟨0, 14, 21, 15⟩ : ExceptionTableEntry)] (⟨0, 14, 25, 21⟩ : ExceptionTableEntry) [] htab (List.forall_mem_cons.mpr ⟨Or.inr ⟨by decide, eI, C.2.2.2.2.1 _ (jWS_in 543 (by decide +kernel) rfl), hnc.1.2.1⟩, (List.forall_mem_cons.mpr ⟨Or.inr ⟨by decide, eA, C.2.2.2.2.1 _ (jWS_in 544 (by decide +kernel) rfl), hnc.1.2.2.2.1⟩, (fun z hz => absurd hz List.not_mem_nil)⟩)⟩) (by decide) (by decide) hnc (jWS_in 648 (by decide +kernel) rfl) (by unfold jXL; simp) (fun q => ?_)
      refine jx_astore (pc := 25) C dL_give_25 (jset_6 jc_r) (by decide) ?_
      refine jx_iconst (pc := 27) C dL_give_27 nc_3 ?_
      exact jn_iret (pc := 28) C hr (wQ_no (k := 3) rfl (by decide) R9 O9) dL_give_28
  · intro v9 I9 P9 L9 q9
    obtain ⟨e0, rfl, R9, O9⟩ := q9
    refine jx_i2l (pc := 12) C dL_give_12 ?_
    refine jx_last (pc := 13) (j := 0) C hO (by decide) (by decide) dL_give_13 ?_
    refine jx_goto (pc := 14) C (tgt := 29) dL_give_14 (by decide) ?_
    refine jx_iconst (pc := 29) C dL_give_29 nc_0 ?_
    exact jn_iret (pc := 30) C hr (wQ_ok e0 R9 O9) dL_give_30
theorem t_L_give {l : Launch} (hst : l.stackTraces = false) {D : va_G} {cA : Nat → ClassId} {N0 : Nat} {Sh : jS} {I : jI} {P : jP} {L : jL} {y : Nat} (S : cS Sh y) {f : sF} {q : Nat} {pst : Nat → sF} {t : Nat} {ch : Nat → Nat} (R : cR I P y f q pst t ch) {o : Nat} (hO : Sh o = some (11, 1)) {wv ov cv g : Int32} : jWM l D cA N0 8 yL_give cL_give 7 (some .int) [(0, 14, 17, 13), (0, 14, 21, 15), (0, 14, 25, 21)] [.ref y, .int wv, .int ov, .int cv, .int g, .ref o] Sh I P L (wQ I P L y o (sgive f wv ov cv g).1 (sgive f wv ov cv g).2.1 (fun I' P' => cR I' P' y (sgive f wv ov cv g).2.2 (min q 5 + 1) (spush f q pst) t ch) (fun I' P' => cR I' P' y f q pst t ch)) := jWM_of (by decide) (Nat.le_of_ble_eq_true rfl) (fun _ _ _ _ _ _ _ _ C hnc hr htab => b_L_give C hnc hst htab hr S R hO)
set_option maxHeartbeats 4000000 in
theorem b_L_order {p : Program} {l : Launch} {e : Env} {s : State} {m : MethodId} {args : Array Value} {below : List Frame} {meth : Method} {c : Code} {D : va_G} {cA : Nat → ClassId} {N0 : Nat} {Sh : jS} {I : jI} {P : jP} {L : jL} (C : jC p (jRm 8 1 6) s m args meth c D cA N0 cL_order 8 RL 8) (hnc : jNc s) (hst : l.stackTraces = false) (htab : c.exceptionTable.toList = tableOf [(0, 16, 19, 13), (0, 16, 23, 15), (0, 16, 27, 21)]) (hr : meth.sig.returnType = (some .int)) {y : Nat} (S : cS Sh y) {f : sF} {q : Nat} {pst : Nat → sF} {t : Nat} {ch : Nat → Nat} (R : cR I P y f q pst t ch) {o : Nat} (hO : Sh o = some (11, 1)) {cv wd len pr due : Int32} : jJ p l e (jRm 8 1 6) s m args below meth c D cA N0 8 (MQ below (jQn D cA N0 Sh (wQ I P L y o (sorder f cv wd len pr due).1 (sorder f cv wd len pr due).2.1 (fun I' P' => cR I' P' y (sorder f cv wd len pr due).2.2 (min q 5 + 1) (spush f q pst) t ch) (fun I' P' => cR I' P' y f q pst t ch))) args s 1 6 (fun q => N0 ≤ q)) (fun _ => True) Sh I P L 0 0 0 [some (.ref y), some (.int cv), some (.int wd), some (.int len), some (.int pr), some (.int due), some (.ref o), none] [] := by
  refine jx_aload (pc := 0) C dL_order_0 rfl ?_
  refine jx_iconst (pc := 2) C dL_order_2 nc_0 ?_
  refine jx_aload_n (pc := 3) C dL_order_3 rfl ?_
  refine jx_iload_n (pc := 4) C dL_order_4 rfl ?_
  refine jx_iload_n (pc := 5) C dL_order_5 rfl ?_
  refine jx_iload_n (pc := 6) C dL_order_6 rfl ?_
  refine jx_iload (pc := 7) C dL_order_7 rfl ?_
  refine jx_iload (pc := 9) C dL_order_9 rfl ?_
  refine jx_callX (pc := 11) C hnc (As := [.int cv, .int wd, .int len, .int pr, .int due]) (rest := [.int (nI 0), .ref o]) ky_X5_order rfl kc_X5_order (jWS_in 693 (by decide +kernel) rfl) kn_X5_order kl_X5_order ki_X5_order S.obj rfl (Nat.le_of_ble_eq_true rfl) dL_order_11 (t_X5_order hst S R) (by decide) (by decide) ⟨Nat.le_refl 1, Nat.le_refl 6⟩ ?_ ?_
  · intro E9 I9 P9 L9 q9
    obtain ⟨e0, eE, R9, O9⟩ := q9
    have hle := le_order (f := f) (q := q) (t := t) (ch := ch) (cv := cv) (wd := wd) (len := len) (pr := pr) (due := due)
    generalize hn9 : (sorder f cv wd len pr due).1 = n9 at e0 eE hle
    rcases (by omega : n9 = 1 ∨ n9 = 2 ∨ n9 = 3) with h9 | h9 | h9
    · subst h9
      subst eE
      refine jx_catch (E := eI) C [] (⟨0, 16, 19, 13⟩ : ExceptionTableEntry) [(⟨0, 16, 23, 15⟩ : ExceptionTableEntry), (⟨0, 16, 27, 21⟩ : ExceptionTableEntry)] htab (fun z hz => absurd hz List.not_mem_nil) (by decide) (by decide) hnc (jWS_in 543 (by decide +kernel) rfl) (by unfold jXL; simp) (fun q => ?_)
      refine jx_astore (pc := 19) C dL_order_19 (jset_7 jc_r) (by decide) ?_
      refine jx_iconst (pc := 21) C dL_order_21 nc_1 ?_
      exact jn_iret (pc := 22) C hr (wQ_no (k := 1) rfl (by decide) R9 O9) dL_order_22
    · subst h9
      subst eE
      refine jx_catch (E := eA) C [(⟨0, 16, 19, 13⟩ : ExceptionTableEntry)] (⟨0, 16, 23, 15⟩ : ExceptionTableEntry) [(⟨0, 16, 27, 21⟩ : ExceptionTableEntry)] htab (List.forall_mem_cons.mpr ⟨Or.inr ⟨by decide, eI, C.2.2.2.2.1 _ (jWS_in 543 (by decide +kernel) rfl), hnc.1.1⟩, (fun z hz => absurd hz List.not_mem_nil)⟩) (by decide) (by decide) hnc (jWS_in 544 (by decide +kernel) rfl) (by unfold jXL; simp) (fun q => ?_)
      refine jx_astore (pc := 23) C dL_order_23 (jset_7 jc_r) (by decide) ?_
      refine jx_iconst (pc := 25) C dL_order_25 nc_2 ?_
      exact jn_iret (pc := 26) C hr (wQ_no (k := 2) rfl (by decide) R9 O9) dL_order_26
    · subst h9
      subst eE
      refine jx_catch (E := eS) C [(⟨0, 16, 19, 13⟩ : ExceptionTableEntry), (⟨0, 16, 23, 15⟩ : ExceptionTableEntry)] (⟨0, 16, 27, 21⟩ : ExceptionTableEntry) [] htab (List.forall_mem_cons.mpr ⟨Or.inr ⟨by decide, eI, C.2.2.2.2.1 _ (jWS_in 543 (by decide +kernel) rfl), hnc.1.2.1⟩, (List.forall_mem_cons.mpr ⟨Or.inr ⟨by decide, eA, C.2.2.2.2.1 _ (jWS_in 544 (by decide +kernel) rfl), hnc.1.2.2.2.1⟩, (fun z hz => absurd hz List.not_mem_nil)⟩)⟩) (by decide) (by decide) hnc (jWS_in 648 (by decide +kernel) rfl) (by unfold jXL; simp) (fun q => ?_)
      refine jx_astore (pc := 27) C dL_order_27 (jset_7 jc_r) (by decide) ?_
      refine jx_iconst (pc := 29) C dL_order_29 nc_3 ?_
      exact jn_iret (pc := 30) C hr (wQ_no (k := 3) rfl (by decide) R9 O9) dL_order_30
  · intro v9 I9 P9 L9 q9
    obtain ⟨e0, rfl, R9, O9⟩ := q9
    refine jx_i2l (pc := 14) C dL_order_14 ?_
    refine jx_last (pc := 15) (j := 0) C hO (by decide) (by decide) dL_order_15 ?_
    refine jx_goto (pc := 16) C (tgt := 31) dL_order_16 (by decide) ?_
    refine jx_iconst (pc := 31) C dL_order_31 nc_0 ?_
    exact jn_iret (pc := 32) C hr (wQ_ok e0 R9 O9) dL_order_32
theorem t_L_order {l : Launch} (hst : l.stackTraces = false) {D : va_G} {cA : Nat → ClassId} {N0 : Nat} {Sh : jS} {I : jI} {P : jP} {L : jL} {y : Nat} (S : cS Sh y) {f : sF} {q : Nat} {pst : Nat → sF} {t : Nat} {ch : Nat → Nat} (R : cR I P y f q pst t ch) {o : Nat} (hO : Sh o = some (11, 1)) {cv wd len pr due : Int32} : jWM l D cA N0 8 yL_order cL_order 8 (some .int) [(0, 16, 19, 13), (0, 16, 23, 15), (0, 16, 27, 21)] [.ref y, .int cv, .int wd, .int len, .int pr, .int due, .ref o] Sh I P L (wQ I P L y o (sorder f cv wd len pr due).1 (sorder f cv wd len pr due).2.1 (fun I' P' => cR I' P' y (sorder f cv wd len pr due).2.2 (min q 5 + 1) (spush f q pst) t ch) (fun I' P' => cR I' P' y f q pst t ch)) := jWM_of (by decide) (Nat.le_of_ble_eq_true rfl) (fun _ _ _ _ _ _ _ _ C hnc hr htab => b_L_order C hnc hst htab hr S R hO)
set_option maxHeartbeats 4000000 in
theorem b_L_cancel {p : Program} {l : Launch} {e : Env} {s : State} {m : MethodId} {args : Array Value} {below : List Frame} {meth : Method} {c : Code} {D : va_G} {cA : Nat → ClassId} {N0 : Nat} {Sh : jS} {I : jI} {P : jP} {L : jL} (C : jC p (jRm 8 1 6) s m args meth c D cA N0 cL_cancel 4 RL 8) (hnc : jNc s) (hst : l.stackTraces = false) (htab : c.exceptionTable.toList = tableOf [(0, 9, 12, 13)]) (hr : meth.sig.returnType = (some .int)) {y : Nat} (S : cS Sh y) {f : sF} {q : Nat} {pst : Nat → sF} {t : Nat} {ch : Nat → Nat} (R : cR I P y f q pst t ch) {o : Nat} (hO : Sh o = some (11, 1)) {num : Int32} : jJ p l e (jRm 8 1 6) s m args below meth c D cA N0 4 (MQ below (jQn D cA N0 Sh (wQ I P L y o (scancel f num).1 (scancel f num).2.1 (fun I' P' => cR I' P' y (scancel f num).2.2 (min q 5 + 1) (spush f q pst) t ch) (fun I' P' => cR I' P' y f q pst t ch))) args s 1 6 (fun q => N0 ≤ q)) (fun _ => True) Sh I P L 0 0 0 [some (.ref y), some (.int num), some (.ref o), none] [] := by
  refine jx_aload_n (pc := 0) C dL_cancel_0 rfl ?_
  refine jx_iconst (pc := 1) C dL_cancel_1 nc_0 ?_
  refine jx_aload_n (pc := 2) C dL_cancel_2 rfl ?_
  refine jx_iload_n (pc := 3) C dL_cancel_3 rfl ?_
  refine jx_callX (pc := 4) C hnc (As := [.int num]) (rest := [.int (nI 0), .ref o]) ky_X5_cancel rfl kc_X5_cancel (jWS_in 710 (by decide +kernel) rfl) kn_X5_cancel kl_X5_cancel ki_X5_cancel S.obj rfl (Nat.le_of_ble_eq_true rfl) dL_cancel_4 (t_X5_cancel hst S R) (by decide) (by decide) ⟨Nat.le_refl 1, Nat.le_refl 6⟩ ?_ ?_
  · intro E9 I9 P9 L9 q9
    obtain ⟨e0, eE, R9, O9⟩ := q9
    have hle := le_cancel (f := f) (q := q) (t := t) (ch := ch) (num := num)
    generalize hn9 : (scancel f num).1 = n9 at e0 eE hle
    rcases (by omega : n9 = 1) with h9
    subst h9
    subst eE
    refine jx_catch (E := eI) C [] (⟨0, 9, 12, 13⟩ : ExceptionTableEntry) [] htab (fun z hz => absurd hz List.not_mem_nil) (by decide) (by decide) hnc (jWS_in 543 (by decide +kernel) rfl) (by unfold jXL; simp) (fun q => ?_)
    refine jx_astore_n (pc := 12) C dL_cancel_12 (jset_3 jc_r) (by decide) ?_
    refine jx_iconst (pc := 13) C dL_cancel_13 nc_1 ?_
    exact jn_iret (pc := 14) C hr (wQ_no (k := 1) rfl (by decide) R9 O9) dL_cancel_14
  · intro v9 I9 P9 L9 q9
    obtain ⟨e0, rfl, R9, O9⟩ := q9
    refine jx_i2l (pc := 7) C dL_cancel_7 ?_
    refine jx_last (pc := 8) (j := 0) C hO (by decide) (by decide) dL_cancel_8 ?_
    refine jx_goto (pc := 9) C (tgt := 15) dL_cancel_9 (by decide) ?_
    refine jx_iconst (pc := 15) C dL_cancel_15 nc_0 ?_
    exact jn_iret (pc := 16) C hr (wQ_ok e0 R9 O9) dL_cancel_16
theorem t_L_cancel {l : Launch} (hst : l.stackTraces = false) {D : va_G} {cA : Nat → ClassId} {N0 : Nat} {Sh : jS} {I : jI} {P : jP} {L : jL} {y : Nat} (S : cS Sh y) {f : sF} {q : Nat} {pst : Nat → sF} {t : Nat} {ch : Nat → Nat} (R : cR I P y f q pst t ch) {o : Nat} (hO : Sh o = some (11, 1)) {num : Int32} : jWM l D cA N0 8 yL_cancel cL_cancel 4 (some .int) [(0, 9, 12, 13)] [.ref y, .int num, .ref o] Sh I P L (wQ I P L y o (scancel f num).1 (scancel f num).2.1 (fun I' P' => cR I' P' y (scancel f num).2.2 (min q 5 + 1) (spush f q pst) t ch) (fun I' P' => cR I' P' y f q pst t ch)) := jWM_of (by decide) (Nat.le_of_ble_eq_true rfl) (fun _ _ _ _ _ _ _ _ C hnc hr htab => b_L_cancel C hnc hst htab hr S R hO)
set_option maxHeartbeats 4000000 in
theorem b_L_set {p : Program} {l : Launch} {e : Env} {s : State} {m : MethodId} {args : Array Value} {below : List Frame} {meth : Method} {c : Code} {D : va_G} {cA : Nat → ClassId} {N0 : Nat} {Sh : jS} {I : jI} {P : jP} {L : jL} (C : jC p (jRm 8 1 6) s m args meth c D cA N0 cL_set 5 RL 8) (hnc : jNc s) (hst : l.stackTraces = false) (htab : c.exceptionTable.toList = tableOf [(0, 10, 13, 13), (0, 10, 17, 15)]) (hr : meth.sig.returnType = (some .int)) {y : Nat} (S : cS Sh y) {f : sF} {q : Nat} {pst : Nat → sF} {t : Nat} {ch : Nat → Nat} (R : cR I P y f q pst t ch) {o : Nat} (hO : Sh o = some (11, 1)) {sv v : Int32} : jJ p l e (jRm 8 1 6) s m args below meth c D cA N0 5 (MQ below (jQn D cA N0 Sh (wQ I P L y o (sset f sv v).1 (sset f sv v).2.1 (fun I' P' => cR I' P' y (sset f sv v).2.2 (min q 5 + 1) (spush f q pst) t ch) (fun I' P' => cR I' P' y f q pst t ch))) args s 1 6 (fun q => N0 ≤ q)) (fun _ => True) Sh I P L 0 0 0 [some (.ref y), some (.int sv), some (.int v), some (.ref o), none] [] := by
  refine jx_aload_n (pc := 0) C dL_set_0 rfl ?_
  refine jx_iconst (pc := 1) C dL_set_1 nc_0 ?_
  refine jx_aload_n (pc := 2) C dL_set_2 rfl ?_
  refine jx_iload_n (pc := 3) C dL_set_3 rfl ?_
  refine jx_iload_n (pc := 4) C dL_set_4 rfl ?_
  refine jx_callX (pc := 5) C hnc (As := [.int sv, .int v]) (rest := [.int (nI 0), .ref o]) ky_X5_set rfl kc_X5_set (jWS_in 724 (by decide +kernel) rfl) kn_X5_set kl_X5_set ki_X5_set S.obj rfl (Nat.le_of_ble_eq_true rfl) dL_set_5 (t_X5_set hst S R) (by decide) (by decide) ⟨Nat.le_refl 1, Nat.le_refl 6⟩ ?_ ?_
  · intro E9 I9 P9 L9 q9
    obtain ⟨e0, eE, R9, O9⟩ := q9
    have hle := le_set (f := f) (q := q) (t := t) (ch := ch) (sv := sv) (v := v)
    generalize hn9 : (sset f sv v).1 = n9 at e0 eE hle
    rcases (by omega : n9 = 1 ∨ n9 = 2) with h9 | h9
    · subst h9
      subst eE
      refine jx_catch (E := eI) C [] (⟨0, 10, 13, 13⟩ : ExceptionTableEntry) [(⟨0, 10, 17, 15⟩ : ExceptionTableEntry)] htab (fun z hz => absurd hz List.not_mem_nil) (by decide) (by decide) hnc (jWS_in 543 (by decide +kernel) rfl) (by unfold jXL; simp) (fun q => ?_)
      refine jx_astore (pc := 13) C dL_set_13 (jset_4 jc_r) (by decide) ?_
      refine jx_iconst (pc := 15) C dL_set_15 nc_1 ?_
      exact jn_iret (pc := 16) C hr (wQ_no (k := 1) rfl (by decide) R9 O9) dL_set_16
    · subst h9
      subst eE
      refine jx_catch (E := eA) C [(⟨0, 10, 13, 13⟩ : ExceptionTableEntry)] (⟨0, 10, 17, 15⟩ : ExceptionTableEntry) [] htab (List.forall_mem_cons.mpr ⟨Or.inr ⟨by decide, eI, C.2.2.2.2.1 _ (jWS_in 543 (by decide +kernel) rfl), hnc.1.1⟩, (fun z hz => absurd hz List.not_mem_nil)⟩) (by decide) (by decide) hnc (jWS_in 544 (by decide +kernel) rfl) (by unfold jXL; simp) (fun q => ?_)
      refine jx_astore (pc := 17) C dL_set_17 (jset_4 jc_r) (by decide) ?_
      refine jx_iconst (pc := 19) C dL_set_19 nc_2 ?_
      exact jn_iret (pc := 20) C hr (wQ_no (k := 2) rfl (by decide) R9 O9) dL_set_20
  · intro v9 I9 P9 L9 q9
    obtain ⟨e0, rfl, R9, O9⟩ := q9
    refine jx_i2l (pc := 8) C dL_set_8 ?_
    refine jx_last (pc := 9) (j := 0) C hO (by decide) (by decide) dL_set_9 ?_
    refine jx_goto (pc := 10) C (tgt := 21) dL_set_10 (by decide) ?_
    refine jx_iconst (pc := 21) C dL_set_21 nc_0 ?_
    exact jn_iret (pc := 22) C hr (wQ_ok e0 R9 O9) dL_set_22
theorem t_L_set {l : Launch} (hst : l.stackTraces = false) {D : va_G} {cA : Nat → ClassId} {N0 : Nat} {Sh : jS} {I : jI} {P : jP} {L : jL} {y : Nat} (S : cS Sh y) {f : sF} {q : Nat} {pst : Nat → sF} {t : Nat} {ch : Nat → Nat} (R : cR I P y f q pst t ch) {o : Nat} (hO : Sh o = some (11, 1)) {sv v : Int32} : jWM l D cA N0 8 yL_set cL_set 5 (some .int) [(0, 10, 13, 13), (0, 10, 17, 15)] [.ref y, .int sv, .int v, .ref o] Sh I P L (wQ I P L y o (sset f sv v).1 (sset f sv v).2.1 (fun I' P' => cR I' P' y (sset f sv v).2.2 (min q 5 + 1) (spush f q pst) t ch) (fun I' P' => cR I' P' y f q pst t ch)) := jWM_of (by decide) (Nat.le_of_ble_eq_true rfl) (fun _ _ _ _ _ _ _ _ C hnc hr htab => b_L_set C hnc hst htab hr S R hO)
set_option maxHeartbeats 4000000 in
theorem b_L_pass {p : Program} {l : Launch} {e : Env} {s : State} {m : MethodId} {args : Array Value} {below : List Frame} {meth : Method} {c : Code} {D : va_G} {cA : Nat → ClassId} {N0 : Nat} {Sh : jS} {I : jI} {P : jP} {L : jL} (C : jC p (jRm 8 1 6) s m args meth c D cA N0 cL_pass 4 RL 8) (hnc : jNc s) (hst : l.stackTraces = false) (htab : c.exceptionTable.toList = tableOf [(0, 9, 12, 15), (0, 9, 15, 21)]) (hr : meth.sig.returnType = (some .int)) {y : Nat} (S : cS Sh y) {f : sF} {q : Nat} {pst : Nat → sF} {t : Nat} {ch : Nat → Nat} (R : cR I P y f q pst t ch) {o : Nat} (hO : Sh o = some (11, 1)) {hv : Int32} : jJ p l e (jRm 8 1 6) s m args below meth c D cA N0 4 (MQ below (jQn D cA N0 Sh (wQ I P L y o (spass f hv).1 (spass f hv).2.1 (fun I' P' => cR I' P' y (spass f hv).2.2 (min q 5 + 1) (spush f q pst) t ch) (fun I' P' => cR I' P' y f q pst t ch))) args s 1 6 (fun q => N0 ≤ q)) (fun _ => True) Sh I P L 0 0 0 [some (.ref y), some (.int hv), some (.ref o), none] [] := by
  refine jx_aload_n (pc := 0) C dL_pass_0 rfl ?_
  refine jx_iconst (pc := 1) C dL_pass_1 nc_0 ?_
  refine jx_aload_n (pc := 2) C dL_pass_2 rfl ?_
  refine jx_iload_n (pc := 3) C dL_pass_3 rfl ?_
  refine jx_callX (pc := 4) C hnc (As := [.int hv]) (rest := [.int (nI 0), .ref o]) ky_X5_pass rfl kc_X5_pass (jWS_in 733 (by decide +kernel) rfl) kn_X5_pass kl_X5_pass ki_X5_pass S.obj rfl (Nat.le_of_ble_eq_true rfl) dL_pass_4 (t_X5_pass hst S R) (by decide) (by decide) ⟨Nat.le_refl 1, Nat.le_refl 6⟩ ?_ ?_
  · intro E9 I9 P9 L9 q9
    obtain ⟨e0, eE, R9, O9⟩ := q9
    have hle := le_pass (f := f) (q := q) (t := t) (ch := ch) (hv := hv)
    generalize hn9 : (spass f hv).1 = n9 at e0 eE hle
    rcases (by omega : n9 = 1 ∨ n9 = 2) with h9 | h9
    · subst h9
      subst eE
      refine jx_catch (E := eA) C [] (⟨0, 9, 12, 15⟩ : ExceptionTableEntry) [(⟨0, 9, 15, 21⟩ : ExceptionTableEntry)] htab (fun z hz => absurd hz List.not_mem_nil) (by decide) (by decide) hnc (jWS_in 544 (by decide +kernel) rfl) (by unfold jXL; simp) (fun q => ?_)
      refine jx_astore_n (pc := 12) C dL_pass_12 (jset_3 jc_r) (by decide) ?_
      refine jx_iconst (pc := 13) C dL_pass_13 nc_1 ?_
      exact jn_iret (pc := 14) C hr (wQ_no (k := 1) rfl (by decide) R9 O9) dL_pass_14
    · subst h9
      subst eE
      refine jx_catch (E := eS) C [(⟨0, 9, 12, 15⟩ : ExceptionTableEntry)] (⟨0, 9, 15, 21⟩ : ExceptionTableEntry) [] htab (List.forall_mem_cons.mpr ⟨Or.inr ⟨by decide, eA, C.2.2.2.2.1 _ (jWS_in 544 (by decide +kernel) rfl), hnc.1.2.2.2.1⟩, (fun z hz => absurd hz List.not_mem_nil)⟩) (by decide) (by decide) hnc (jWS_in 648 (by decide +kernel) rfl) (by unfold jXL; simp) (fun q => ?_)
      refine jx_astore_n (pc := 15) C dL_pass_15 (jset_3 jc_r) (by decide) ?_
      refine jx_iconst (pc := 16) C dL_pass_16 nc_2 ?_
      exact jn_iret (pc := 17) C hr (wQ_no (k := 2) rfl (by decide) R9 O9) dL_pass_17
  · intro v9 I9 P9 L9 q9
    obtain ⟨e0, rfl, R9, O9⟩ := q9
    refine jx_i2l (pc := 7) C dL_pass_7 ?_
    refine jx_last (pc := 8) (j := 0) C hO (by decide) (by decide) dL_pass_8 ?_
    refine jx_goto (pc := 9) C (tgt := 18) dL_pass_9 (by decide) ?_
    refine jx_iconst (pc := 18) C dL_pass_18 nc_0 ?_
    exact jn_iret (pc := 19) C hr (wQ_ok e0 R9 O9) dL_pass_19
theorem t_L_pass {l : Launch} (hst : l.stackTraces = false) {D : va_G} {cA : Nat → ClassId} {N0 : Nat} {Sh : jS} {I : jI} {P : jP} {L : jL} {y : Nat} (S : cS Sh y) {f : sF} {q : Nat} {pst : Nat → sF} {t : Nat} {ch : Nat → Nat} (R : cR I P y f q pst t ch) {o : Nat} (hO : Sh o = some (11, 1)) {hv : Int32} : jWM l D cA N0 8 yL_pass cL_pass 4 (some .int) [(0, 9, 12, 15), (0, 9, 15, 21)] [.ref y, .int hv, .ref o] Sh I P L (wQ I P L y o (spass f hv).1 (spass f hv).2.1 (fun I' P' => cR I' P' y (spass f hv).2.2 (min q 5 + 1) (spush f q pst) t ch) (fun I' P' => cR I' P' y f q pst t ch)) := jWM_of (by decide) (Nat.le_of_ble_eq_true rfl) (fun _ _ _ _ _ _ _ _ C hnc hr htab => b_L_pass C hnc hst htab hr S R hO)
set_option maxHeartbeats 4000000 in
theorem b_L_append {p : Program} {l : Launch} {e : Env} {s : State} {m : MethodId} {args : Array Value} {below : List Frame} {meth : Method} {c : Code} {D : va_G} {cA : Nat → ClassId} {N0 : Nat} {Sh : jS} {I : jI} {P : jP} {L : jL} (C : jC p (jRm 8 1 6) s m args meth c D cA N0 cL_append 4 RL 8) (hnc : jNc s) (hst : l.stackTraces = false) (htab : c.exceptionTable.toList = tableOf [(0, 9, 12, 15), (0, 9, 15, 21)]) (hr : meth.sig.returnType = (some .int)) {y : Nat} (S : cS Sh y) {f : sF} {q : Nat} {pst : Nat → sF} {t : Nat} {ch : Nat → Nat} (R : cR I P y f q pst t ch) {o : Nat} (hO : Sh o = some (11, 1)) {cv : Int32} : jJ p l e (jRm 8 1 6) s m args below meth c D cA N0 4 (MQ below (jQn D cA N0 Sh (wQ I P L y o (sapp t cv).1 (sapp t cv).2 (fun I' P' => cR I' P' y f q pst (t + 1) (fun j => if j = t then sW cv else ch j)) (fun I' P' => cR I' P' y f q pst t ch))) args s 1 6 (fun q => N0 ≤ q)) (fun _ => True) Sh I P L 0 0 0 [some (.ref y), some (.int cv), some (.ref o), none] [] := by
  refine jx_aload_n (pc := 0) C dL_append_0 rfl ?_
  refine jx_iconst (pc := 1) C dL_append_1 nc_0 ?_
  refine jx_aload_n (pc := 2) C dL_append_2 rfl ?_
  refine jx_iload_n (pc := 3) C dL_append_3 rfl ?_
  refine jx_callX (pc := 4) C hnc (As := [.int cv]) (rest := [.int (nI 0), .ref o]) ky_X5_append rfl kc_X5_append (jWS_in 742 (by decide +kernel) rfl) kn_X5_append kl_X5_append ki_X5_append S.obj rfl (Nat.le_of_ble_eq_true rfl) dL_append_4 (t_X5_append hst S R) (by decide) (by decide) ⟨Nat.le_refl 1, Nat.le_refl 6⟩ ?_ ?_
  · intro E9 I9 P9 L9 q9
    obtain ⟨e0, eE, R9, O9⟩ := q9
    have hle := le_append (f := f) (q := q) (t := t) (ch := ch) (cv := cv)
    generalize hn9 : (sapp t cv).1 = n9 at e0 eE hle
    rcases (by omega : n9 = 1 ∨ n9 = 2) with h9 | h9
    · subst h9
      subst eE
      refine jx_catch (E := eA) C [] (⟨0, 9, 12, 15⟩ : ExceptionTableEntry) [(⟨0, 9, 15, 21⟩ : ExceptionTableEntry)] htab (fun z hz => absurd hz List.not_mem_nil) (by decide) (by decide) hnc (jWS_in 544 (by decide +kernel) rfl) (by unfold jXL; simp) (fun q => ?_)
      refine jx_astore_n (pc := 12) C dL_append_12 (jset_3 jc_r) (by decide) ?_
      refine jx_iconst (pc := 13) C dL_append_13 nc_1 ?_
      exact jn_iret (pc := 14) C hr (wQ_no (k := 1) rfl (by decide) R9 O9) dL_append_14
    · subst h9
      subst eE
      refine jx_catch (E := eS) C [(⟨0, 9, 12, 15⟩ : ExceptionTableEntry)] (⟨0, 9, 15, 21⟩ : ExceptionTableEntry) [] htab (List.forall_mem_cons.mpr ⟨Or.inr ⟨by decide, eA, C.2.2.2.2.1 _ (jWS_in 544 (by decide +kernel) rfl), hnc.1.2.2.2.1⟩, (fun z hz => absurd hz List.not_mem_nil)⟩) (by decide) (by decide) hnc (jWS_in 648 (by decide +kernel) rfl) (by unfold jXL; simp) (fun q => ?_)
      refine jx_astore_n (pc := 15) C dL_append_15 (jset_3 jc_r) (by decide) ?_
      refine jx_iconst (pc := 16) C dL_append_16 nc_2 ?_
      exact jn_iret (pc := 17) C hr (wQ_no (k := 2) rfl (by decide) R9 O9) dL_append_17
  · intro v9 I9 P9 L9 q9
    obtain ⟨e0, rfl, R9, O9⟩ := q9
    refine jx_i2l (pc := 7) C dL_append_7 ?_
    refine jx_last (pc := 8) (j := 0) C hO (by decide) (by decide) dL_append_8 ?_
    refine jx_goto (pc := 9) C (tgt := 18) dL_append_9 (by decide) ?_
    refine jx_iconst (pc := 18) C dL_append_18 nc_0 ?_
    exact jn_iret (pc := 19) C hr (wQ_ok e0 R9 O9) dL_append_19
theorem t_L_append {l : Launch} (hst : l.stackTraces = false) {D : va_G} {cA : Nat → ClassId} {N0 : Nat} {Sh : jS} {I : jI} {P : jP} {L : jL} {y : Nat} (S : cS Sh y) {f : sF} {q : Nat} {pst : Nat → sF} {t : Nat} {ch : Nat → Nat} (R : cR I P y f q pst t ch) {o : Nat} (hO : Sh o = some (11, 1)) {cv : Int32} : jWM l D cA N0 8 yL_append cL_append 4 (some .int) [(0, 9, 12, 15), (0, 9, 15, 21)] [.ref y, .int cv, .ref o] Sh I P L (wQ I P L y o (sapp t cv).1 (sapp t cv).2 (fun I' P' => cR I' P' y f q pst (t + 1) (fun j => if j = t then sW cv else ch j)) (fun I' P' => cR I' P' y f q pst t ch)) := jWM_of (by decide) (Nat.le_of_ble_eq_true rfl) (fun _ _ _ _ _ _ _ _ C hnc hr htab => b_L_append C hnc hst htab hr S R hO)
set_option maxHeartbeats 4000000 in
theorem b_L_takeAll {p : Program} {l : Launch} {e : Env} {s : State} {m : MethodId} {args : Array Value} {below : List Frame} {meth : Method} {c : Code} {D : va_G} {cA : Nat → ClassId} {N0 : Nat} {Sh : jS} {I : jI} {P : jP} {L : jL} (C : jC p (jRm 8 1 6) s m args meth c D cA N0 cL_takeAll 3 RL 8) (hnc : jNc s) (hst : l.stackTraces = false) (htab : c.exceptionTable.toList = tableOf [(0, 8, 11, 15), (0, 8, 14, 21)]) (hr : meth.sig.returnType = (some .int)) {y : Nat} (S : cS Sh y) {f : sF} {q : Nat} {pst : Nat → sF} {t : Nat} {ch : Nat → Nat} (R : cR I P y f q pst t ch) {o : Nat} (hO : Sh o = some (11, 1)) : jJ p l e (jRm 8 1 6) s m args below meth c D cA N0 3 (MQ below (jQn D cA N0 Sh (wQ I P L y o (sall f ch t).1 (sall f ch t).2.1 (fun I' P' => cR I' P' y (sall f ch t).2.2 (min q 5 + 1) (spush f q pst) 0 ch) (fun I' P' => cR I' P' y f q pst t ch))) args s 1 6 (fun q => N0 ≤ q)) (fun _ => True) Sh I P L 0 0 0 [some (.ref y), some (.ref o), none] [] := by
  refine jx_aload_n (pc := 0) C dL_takeAll_0 rfl ?_
  refine jx_iconst (pc := 1) C dL_takeAll_1 nc_0 ?_
  refine jx_aload_n (pc := 2) C dL_takeAll_2 rfl ?_
  refine jx_callX (pc := 3) C hnc (As := []) (rest := [.int (nI 0), .ref o]) ky_X5_takeAll rfl kc_X5_takeAll (jWS_in 751 (by decide +kernel) rfl) kn_X5_takeAll kl_X5_takeAll ki_X5_takeAll S.obj rfl (Nat.le_of_ble_eq_true rfl) dL_takeAll_3 (t_X5_takeAll hst S R) (by decide) (by decide) ⟨Nat.le_refl 1, Nat.le_refl 6⟩ ?_ ?_
  · intro E9 I9 P9 L9 q9
    obtain ⟨e0, eE, R9, O9⟩ := q9
    have hle := le_takeAll (f := f) (q := q) (t := t) (ch := ch)
    generalize hn9 : (sall f ch t).1 = n9 at e0 eE hle
    rcases (by omega : n9 = 1 ∨ n9 = 2) with h9 | h9
    · subst h9
      subst eE
      refine jx_catch (E := eA) C [] (⟨0, 8, 11, 15⟩ : ExceptionTableEntry) [(⟨0, 8, 14, 21⟩ : ExceptionTableEntry)] htab (fun z hz => absurd hz List.not_mem_nil) (by decide) (by decide) hnc (jWS_in 544 (by decide +kernel) rfl) (by unfold jXL; simp) (fun q => ?_)
      refine jx_astore_n (pc := 11) C dL_takeAll_11 (jset_2 jc_r) (by decide) ?_
      refine jx_iconst (pc := 12) C dL_takeAll_12 nc_1 ?_
      exact jn_iret (pc := 13) C hr (wQ_no (k := 1) rfl (by decide) R9 O9) dL_takeAll_13
    · subst h9
      subst eE
      refine jx_catch (E := eS) C [(⟨0, 8, 11, 15⟩ : ExceptionTableEntry)] (⟨0, 8, 14, 21⟩ : ExceptionTableEntry) [] htab (List.forall_mem_cons.mpr ⟨Or.inr ⟨by decide, eA, C.2.2.2.2.1 _ (jWS_in 544 (by decide +kernel) rfl), hnc.1.2.2.2.1⟩, (fun z hz => absurd hz List.not_mem_nil)⟩) (by decide) (by decide) hnc (jWS_in 648 (by decide +kernel) rfl) (by unfold jXL; simp) (fun q => ?_)
      refine jx_astore_n (pc := 14) C dL_takeAll_14 (jset_2 jc_r) (by decide) ?_
      refine jx_iconst (pc := 15) C dL_takeAll_15 nc_2 ?_
      exact jn_iret (pc := 16) C hr (wQ_no (k := 2) rfl (by decide) R9 O9) dL_takeAll_16
  · intro v9 I9 P9 L9 q9
    obtain ⟨e0, rfl, R9, O9⟩ := q9
    refine jx_i2l (pc := 6) C dL_takeAll_6 ?_
    refine jx_last (pc := 7) (j := 0) C hO (by decide) (by decide) dL_takeAll_7 ?_
    refine jx_goto (pc := 8) C (tgt := 17) dL_takeAll_8 (by decide) ?_
    refine jx_iconst (pc := 17) C dL_takeAll_17 nc_0 ?_
    exact jn_iret (pc := 18) C hr (wQ_ok e0 R9 O9) dL_takeAll_18
theorem t_L_takeAll {l : Launch} (hst : l.stackTraces = false) {D : va_G} {cA : Nat → ClassId} {N0 : Nat} {Sh : jS} {I : jI} {P : jP} {L : jL} {y : Nat} (S : cS Sh y) {f : sF} {q : Nat} {pst : Nat → sF} {t : Nat} {ch : Nat → Nat} (R : cR I P y f q pst t ch) {o : Nat} (hO : Sh o = some (11, 1)) : jWM l D cA N0 8 yL_takeAll cL_takeAll 3 (some .int) [(0, 8, 11, 15), (0, 8, 14, 21)] [.ref y, .ref o] Sh I P L (wQ I P L y o (sall f ch t).1 (sall f ch t).2.1 (fun I' P' => cR I' P' y (sall f ch t).2.2 (min q 5 + 1) (spush f q pst) 0 ch) (fun I' P' => cR I' P' y f q pst t ch)) := jWM_of (by decide) (Nat.le_of_ble_eq_true rfl) (fun _ _ _ _ _ _ _ _ C hnc hr htab => b_L_takeAll C hnc hst htab hr S R hO)
set_option maxHeartbeats 4000000 in
theorem b_L_undo {p : Program} {l : Launch} {e : Env} {s : State} {m : MethodId} {args : Array Value} {below : List Frame} {meth : Method} {c : Code} {D : va_G} {cA : Nat → ClassId} {N0 : Nat} {Sh : jS} {I : jI} {P : jP} {L : jL} (C : jC p (jRm 8 1 6) s m args meth c D cA N0 cL_undo 3 RL 8) (hnc : jNc s) (hst : l.stackTraces = false) (htab : c.exceptionTable.toList = tableOf [(0, 8, 11, 21)]) (hr : meth.sig.returnType = (some .int)) {y : Nat} (S : cS Sh y) {f : sF} {q : Nat} {pst : Nat → sF} {t : Nat} {ch : Nat → Nat} (R : cR I P y f q pst t ch) {o : Nat} (hO : Sh o = some (11, 1)) : jJ p l e (jRm 8 1 6) s m args below meth c D cA N0 3 (MQ below (jQn D cA N0 Sh (wQ I P L y o (if q = 0 then 1 else 0) (nI (q - 1)) (fun I' P' => cR I' P' y (pst (q - 1)) (q - 1) pst t ch) (fun I' P' => cR I' P' y f q pst t ch))) args s 1 6 (fun q => N0 ≤ q)) (fun _ => True) Sh I P L 0 0 0 [some (.ref y), some (.ref o), none] [] := by
  refine jx_aload_n (pc := 0) C dL_undo_0 rfl ?_
  refine jx_iconst (pc := 1) C dL_undo_1 nc_0 ?_
  refine jx_aload_n (pc := 2) C dL_undo_2 rfl ?_
  refine jx_callX (pc := 3) C hnc (As := []) (rest := [.int (nI 0), .ref o]) ky_X5_undo rfl kc_X5_undo (jWS_in 771 (by decide +kernel) rfl) kn_X5_undo kl_X5_undo ki_X5_undo S.obj rfl (Nat.le_of_ble_eq_true rfl) dL_undo_3 (t_X5_undo hst S R) (by decide) (by decide) ⟨Nat.le_refl 1, Nat.le_refl 6⟩ ?_ ?_
  · intro E9 I9 P9 L9 q9
    obtain ⟨e0, rfl, R9, O9⟩ := q9
    refine jx_catch (E := eS) C [] (⟨0, 8, 11, 21⟩ : ExceptionTableEntry) [] htab (fun z hz => absurd hz List.not_mem_nil) (by decide) (by decide) hnc (jWS_in 648 (by decide +kernel) rfl) (by unfold jXL; simp) (fun q => ?_)
    refine jx_astore_n (pc := 11) C dL_undo_11 (jset_2 jc_r) (by decide) ?_
    refine jx_iconst (pc := 12) C dL_undo_12 nc_1 ?_
    exact jn_iret (pc := 13) C hr (wQ_no (k := 1) (if_pos e0) (by decide) R9 O9) dL_undo_13
  · intro v9 I9 P9 L9 q9
    obtain ⟨e0, rfl, R9, O9⟩ := q9
    refine jx_i2l (pc := 6) C dL_undo_6 ?_
    refine jx_last (pc := 7) (j := 0) C hO (by decide) (by decide) dL_undo_7 ?_
    refine jx_goto (pc := 8) C (tgt := 14) dL_undo_8 (by decide) ?_
    refine jx_iconst (pc := 14) C dL_undo_14 nc_0 ?_
    exact jn_iret (pc := 15) C hr (wQ_ok (if_neg e0) R9 O9) dL_undo_15
theorem t_L_undo {l : Launch} (hst : l.stackTraces = false) {D : va_G} {cA : Nat → ClassId} {N0 : Nat} {Sh : jS} {I : jI} {P : jP} {L : jL} {y : Nat} (S : cS Sh y) {f : sF} {q : Nat} {pst : Nat → sF} {t : Nat} {ch : Nat → Nat} (R : cR I P y f q pst t ch) {o : Nat} (hO : Sh o = some (11, 1)) : jWM l D cA N0 8 yL_undo cL_undo 3 (some .int) [(0, 8, 11, 21)] [.ref y, .ref o] Sh I P L (wQ I P L y o (if q = 0 then 1 else 0) (nI (q - 1)) (fun I' P' => cR I' P' y (pst (q - 1)) (q - 1) pst t ch) (fun I' P' => cR I' P' y f q pst t ch)) := jWM_of (by decide) (Nat.le_of_ble_eq_true rfl) (fun _ _ _ _ _ _ _ _ C hnc hr htab => b_L_undo C hnc hst htab hr S R hO)
set_option maxHeartbeats 4000000 in
theorem b_L_weaver {p : Program} {l : Launch} {e : Env} {s : State} {m : MethodId} {args : Array Value} {below : List Frame} {meth : Method} {c : Code} {D : va_G} {cA : Nat → ClassId} {N0 : Nat} {Sh : jS} {I : jI} {P : jP} {L : jL} (C : jC p (jRm 8 1 6) s m args meth c D cA N0 cL_weaver 5 RL 8) (hnc : jNc s) (hst : l.stackTraces = false) (htab : c.exceptionTable.toList = tableOf [(0, 10, 13, 13), (0, 10, 17, 15)]) (hr : meth.sig.returnType = (some .int)) {y : Nat} (S : cS Sh y) {f : sF} {q : Nat} {pst : Nat → sF} {t : Nat} {ch : Nat → Nat} (R : cR I P y f q pst t ch) {o : Nat} (hO : Sh o = some (11, 1)) {wv kv : Int32} : jJ p l e (jRm 8 1 6) s m args below meth c D cA N0 5 (MQ below (jQn D cA N0 Sh (wQ I P L y o (sweaver f wv kv).1 (sweaver f wv kv).2 (fun I' P' => cR I' P' y f q pst t ch) (fun I' P' => cR I' P' y f q pst t ch))) args s 1 6 (fun q => N0 ≤ q)) (fun _ => True) Sh I P L 0 0 0 [some (.ref y), some (.int wv), some (.int kv), some (.ref o), none] [] := by
  refine jx_aload_n (pc := 0) C dL_weaver_0 rfl ?_
  refine jx_iconst (pc := 1) C dL_weaver_1 nc_0 ?_
  refine jx_aload_n (pc := 2) C dL_weaver_2 rfl ?_
  refine jx_iload_n (pc := 3) C dL_weaver_3 rfl ?_
  refine jx_iload_n (pc := 4) C dL_weaver_4 rfl ?_
  refine jx_callX (pc := 5) C hnc (As := [.int wv, .int kv]) (rest := [.int (nI 0), .ref o]) ky_X5_weaver rfl kc_X5_weaver (jWS_in 779 (by decide +kernel) rfl) kn_X5_weaver kl_X5_weaver ki_X5_weaver S.obj rfl (Nat.le_of_ble_eq_true rfl) dL_weaver_5 (t_X5_weaver hst S R) (by decide) (by decide) ⟨Nat.le_refl 1, Nat.le_refl 6⟩ ?_ ?_
  · intro E9 I9 P9 L9 q9
    obtain ⟨e0, eE, R9, O9⟩ := q9
    have hle := le_weaver (f := f) (q := q) (t := t) (ch := ch) (wv := wv) (kv := kv)
    generalize hn9 : (sweaver f wv kv).1 = n9 at e0 eE hle
    rcases (by omega : n9 = 1 ∨ n9 = 2) with h9 | h9
    · subst h9
      subst eE
      refine jx_catch (E := eI) C [] (⟨0, 10, 13, 13⟩ : ExceptionTableEntry) [(⟨0, 10, 17, 15⟩ : ExceptionTableEntry)] htab (fun z hz => absurd hz List.not_mem_nil) (by decide) (by decide) hnc (jWS_in 543 (by decide +kernel) rfl) (by unfold jXL; simp) (fun q => ?_)
      refine jx_astore (pc := 13) C dL_weaver_13 (jset_4 jc_r) (by decide) ?_
      refine jx_iconst (pc := 15) C dL_weaver_15 nc_1 ?_
      exact jn_iret (pc := 16) C hr (wQ_no (k := 1) rfl (by decide) R9 O9) dL_weaver_16
    · subst h9
      subst eE
      refine jx_catch (E := eA) C [(⟨0, 10, 13, 13⟩ : ExceptionTableEntry)] (⟨0, 10, 17, 15⟩ : ExceptionTableEntry) [] htab (List.forall_mem_cons.mpr ⟨Or.inr ⟨by decide, eI, C.2.2.2.2.1 _ (jWS_in 543 (by decide +kernel) rfl), hnc.1.1⟩, (fun z hz => absurd hz List.not_mem_nil)⟩) (by decide) (by decide) hnc (jWS_in 544 (by decide +kernel) rfl) (by unfold jXL; simp) (fun q => ?_)
      refine jx_astore (pc := 17) C dL_weaver_17 (jset_4 jc_r) (by decide) ?_
      refine jx_iconst (pc := 19) C dL_weaver_19 nc_2 ?_
      exact jn_iret (pc := 20) C hr (wQ_no (k := 2) rfl (by decide) R9 O9) dL_weaver_20
  · intro v9 I9 P9 L9 q9
    obtain ⟨e0, rfl, R9, O9⟩ := q9
    refine jx_i2l (pc := 8) C dL_weaver_8 ?_
    refine jx_last (pc := 9) (j := 0) C hO (by decide) (by decide) dL_weaver_9 ?_
    refine jx_goto (pc := 10) C (tgt := 21) dL_weaver_10 (by decide) ?_
    refine jx_iconst (pc := 21) C dL_weaver_21 nc_0 ?_
    exact jn_iret (pc := 22) C hr (wQ_ok e0 R9 O9) dL_weaver_22
theorem t_L_weaver {l : Launch} (hst : l.stackTraces = false) {D : va_G} {cA : Nat → ClassId} {N0 : Nat} {Sh : jS} {I : jI} {P : jP} {L : jL} {y : Nat} (S : cS Sh y) {f : sF} {q : Nat} {pst : Nat → sF} {t : Nat} {ch : Nat → Nat} (R : cR I P y f q pst t ch) {o : Nat} (hO : Sh o = some (11, 1)) {wv kv : Int32} : jWM l D cA N0 8 yL_weaver cL_weaver 5 (some .int) [(0, 10, 13, 13), (0, 10, 17, 15)] [.ref y, .int wv, .int kv, .ref o] Sh I P L (wQ I P L y o (sweaver f wv kv).1 (sweaver f wv kv).2 (fun I' P' => cR I' P' y f q pst t ch) (fun I' P' => cR I' P' y f q pst t ch)) := jWM_of (by decide) (Nat.le_of_ble_eq_true rfl) (fun _ _ _ _ _ _ _ _ C hnc hr htab => b_L_weaver C hnc hst htab hr S R hO)
set_option maxHeartbeats 4000000 in
theorem b_L_share {p : Program} {l : Launch} {e : Env} {s : State} {m : MethodId} {args : Array Value} {below : List Frame} {meth : Method} {c : Code} {D : va_G} {cA : Nat → ClassId} {N0 : Nat} {Sh : jS} {I : jI} {P : jP} {L : jL} (C : jC p (jRm 8 1 6) s m args meth c D cA N0 cL_share 5 RL 8) (hnc : jNc s) (hst : l.stackTraces = false) (htab : c.exceptionTable.toList = tableOf [(0, 10, 13, 13)]) (hr : meth.sig.returnType = (some .int)) {y : Nat} (S : cS Sh y) {f : sF} {q : Nat} {pst : Nat → sF} {t : Nat} {ch : Nat → Nat} (R : cR I P y f q pst t ch) {o : Nat} (hO : Sh o = some (11, 1)) {wv cv : Int32} : jJ p l e (jRm 8 1 6) s m args below meth c D cA N0 5 (MQ below (jQn D cA N0 Sh (wQ I P L y o (sshare f wv cv).1 (sshare f wv cv).2 (fun I' P' => cR I' P' y f q pst t ch) (fun I' P' => cR I' P' y f q pst t ch))) args s 1 6 (fun q => N0 ≤ q)) (fun _ => True) Sh I P L 0 0 0 [some (.ref y), some (.int wv), some (.int cv), some (.ref o), none] [] := by
  refine jx_aload_n (pc := 0) C dL_share_0 rfl ?_
  refine jx_iconst (pc := 1) C dL_share_1 nc_0 ?_
  refine jx_aload_n (pc := 2) C dL_share_2 rfl ?_
  refine jx_iload_n (pc := 3) C dL_share_3 rfl ?_
  refine jx_iload_n (pc := 4) C dL_share_4 rfl ?_
  refine jx_callX (pc := 5) C hnc (As := [.int wv, .int cv]) (rest := [.int (nI 0), .ref o]) ky_X5_share rfl kc_X5_share (jWS_in 787 (by decide +kernel) rfl) kn_X5_share kl_X5_share ki_X5_share S.obj rfl (Nat.le_of_ble_eq_true rfl) dL_share_5 (t_X5_share hst S R) (by decide) (by decide) ⟨Nat.le_refl 1, Nat.le_refl 6⟩ ?_ ?_
  · intro E9 I9 P9 L9 q9
    obtain ⟨e0, eE, R9, O9⟩ := q9
    have hle := le_share (f := f) (q := q) (t := t) (ch := ch) (wv := wv) (cv := cv)
    generalize hn9 : (sshare f wv cv).1 = n9 at e0 eE hle
    rcases (by omega : n9 = 1) with h9
    subst h9
    subst eE
    refine jx_catch (E := eI) C [] (⟨0, 10, 13, 13⟩ : ExceptionTableEntry) [] htab (fun z hz => absurd hz List.not_mem_nil) (by decide) (by decide) hnc (jWS_in 543 (by decide +kernel) rfl) (by unfold jXL; simp) (fun q => ?_)
    refine jx_astore (pc := 13) C dL_share_13 (jset_4 jc_r) (by decide) ?_
    refine jx_iconst (pc := 15) C dL_share_15 nc_1 ?_
    exact jn_iret (pc := 16) C hr (wQ_no (k := 1) rfl (by decide) R9 O9) dL_share_16
  · intro v9 I9 P9 L9 q9
    obtain ⟨e0, rfl, R9, O9⟩ := q9
    refine jx_i2l (pc := 8) C dL_share_8 ?_
    refine jx_last (pc := 9) (j := 0) C hO (by decide) (by decide) dL_share_9 ?_
    refine jx_goto (pc := 10) C (tgt := 17) dL_share_10 (by decide) ?_
    refine jx_iconst (pc := 17) C dL_share_17 nc_0 ?_
    exact jn_iret (pc := 18) C hr (wQ_ok e0 R9 O9) dL_share_18
theorem t_L_share {l : Launch} (hst : l.stackTraces = false) {D : va_G} {cA : Nat → ClassId} {N0 : Nat} {Sh : jS} {I : jI} {P : jP} {L : jL} {y : Nat} (S : cS Sh y) {f : sF} {q : Nat} {pst : Nat → sF} {t : Nat} {ch : Nat → Nat} (R : cR I P y f q pst t ch) {o : Nat} (hO : Sh o = some (11, 1)) {wv cv : Int32} : jWM l D cA N0 8 yL_share cL_share 5 (some .int) [(0, 10, 13, 13)] [.ref y, .int wv, .int cv, .ref o] Sh I P L (wQ I P L y o (sshare f wv cv).1 (sshare f wv cv).2 (fun I' P' => cR I' P' y f q pst t ch) (fun I' P' => cR I' P' y f q pst t ch)) := jWM_of (by decide) (Nat.le_of_ble_eq_true rfl) (fun _ _ _ _ _ _ _ _ C hnc hr htab => b_L_share C hnc hst htab hr S R hO)
set_option maxHeartbeats 4000000 in
theorem b_L_orderOf {p : Program} {l : Launch} {e : Env} {s : State} {m : MethodId} {args : Array Value} {below : List Frame} {meth : Method} {c : Code} {D : va_G} {cA : Nat → ClassId} {N0 : Nat} {Sh : jS} {I : jI} {P : jP} {L : jL} (C : jC p (jRm 8 1 6) s m args meth c D cA N0 cL_orderOf 5 RL 8) (hnc : jNc s) (hst : l.stackTraces = false) (htab : c.exceptionTable.toList = tableOf [(0, 10, 13, 15)]) (hr : meth.sig.returnType = (some .int)) {y : Nat} (S : cS Sh y) {f : sF} {q : Nat} {pst : Nat → sF} {t : Nat} {ch : Nat → Nat} (R : cR I P y f q pst t ch) {o : Nat} (hO : Sh o = some (11, 1)) {pv kv : Int32} : jJ p l e (jRm 8 1 6) s m args below meth c D cA N0 5 (MQ below (jQn D cA N0 Sh (wQ I P L y o (sorderOf f pv kv).1 (sorderOf f pv kv).2 (fun I' P' => cR I' P' y f q pst t ch) (fun I' P' => cR I' P' y f q pst t ch))) args s 1 6 (fun q => N0 ≤ q)) (fun _ => True) Sh I P L 0 0 0 [some (.ref y), some (.int pv), some (.int kv), some (.ref o), none] [] := by
  refine jx_aload_n (pc := 0) C dL_orderOf_0 rfl ?_
  refine jx_iconst (pc := 1) C dL_orderOf_1 nc_0 ?_
  refine jx_aload_n (pc := 2) C dL_orderOf_2 rfl ?_
  refine jx_iload_n (pc := 3) C dL_orderOf_3 rfl ?_
  refine jx_iload_n (pc := 4) C dL_orderOf_4 rfl ?_
  refine jx_callX (pc := 5) C hnc (As := [.int pv, .int kv]) (rest := [.int (nI 0), .ref o]) ky_X5_orderOf rfl kc_X5_orderOf (jWS_in 794 (by decide +kernel) rfl) kn_X5_orderOf kl_X5_orderOf ki_X5_orderOf S.obj rfl (Nat.le_of_ble_eq_true rfl) dL_orderOf_5 (t_X5_orderOf hst S R) (by decide) (by decide) ⟨Nat.le_refl 1, Nat.le_refl 6⟩ ?_ ?_
  · intro E9 I9 P9 L9 q9
    obtain ⟨e0, eE, R9, O9⟩ := q9
    have hle := le_orderOf (f := f) (q := q) (t := t) (ch := ch) (pv := pv) (kv := kv)
    generalize hn9 : (sorderOf f pv kv).1 = n9 at e0 eE hle
    rcases (by omega : n9 = 1) with h9
    subst h9
    subst eE
    refine jx_catch (E := eA) C [] (⟨0, 10, 13, 15⟩ : ExceptionTableEntry) [] htab (fun z hz => absurd hz List.not_mem_nil) (by decide) (by decide) hnc (jWS_in 544 (by decide +kernel) rfl) (by unfold jXL; simp) (fun q => ?_)
    refine jx_astore (pc := 13) C dL_orderOf_13 (jset_4 jc_r) (by decide) ?_
    refine jx_iconst (pc := 15) C dL_orderOf_15 nc_1 ?_
    exact jn_iret (pc := 16) C hr (wQ_no (k := 1) rfl (by decide) R9 O9) dL_orderOf_16
  · intro v9 I9 P9 L9 q9
    obtain ⟨e0, rfl, R9, O9⟩ := q9
    refine jx_i2l (pc := 8) C dL_orderOf_8 ?_
    refine jx_last (pc := 9) (j := 0) C hO (by decide) (by decide) dL_orderOf_9 ?_
    refine jx_goto (pc := 10) C (tgt := 17) dL_orderOf_10 (by decide) ?_
    refine jx_iconst (pc := 17) C dL_orderOf_17 nc_0 ?_
    exact jn_iret (pc := 18) C hr (wQ_ok e0 R9 O9) dL_orderOf_18
theorem t_L_orderOf {l : Launch} (hst : l.stackTraces = false) {D : va_G} {cA : Nat → ClassId} {N0 : Nat} {Sh : jS} {I : jI} {P : jP} {L : jL} {y : Nat} (S : cS Sh y) {f : sF} {q : Nat} {pst : Nat → sF} {t : Nat} {ch : Nat → Nat} (R : cR I P y f q pst t ch) {o : Nat} (hO : Sh o = some (11, 1)) {pv kv : Int32} : jWM l D cA N0 8 yL_orderOf cL_orderOf 5 (some .int) [(0, 10, 13, 15)] [.ref y, .int pv, .int kv, .ref o] Sh I P L (wQ I P L y o (sorderOf f pv kv).1 (sorderOf f pv kv).2 (fun I' P' => cR I' P' y f q pst t ch) (fun I' P' => cR I' P' y f q pst t ch)) := jWM_of (by decide) (Nat.le_of_ble_eq_true rfl) (fun _ _ _ _ _ _ _ _ C hnc hr htab => b_L_orderOf C hnc hst htab hr S R hO)
set_option maxHeartbeats 4000000 in
theorem b_L_wovenBy {p : Program} {l : Launch} {e : Env} {s : State} {m : MethodId} {args : Array Value} {below : List Frame} {meth : Method} {c : Code} {D : va_G} {cA : Nat → ClassId} {N0 : Nat} {Sh : jS} {I : jI} {P : jP} {L : jL} (C : jC p (jRm 8 1 6) s m args meth c D cA N0 cL_wovenBy 5 RL 8) (hnc : jNc s) (hst : l.stackTraces = false) (htab : c.exceptionTable.toList = tableOf [(0, 10, 13, 15), (0, 10, 17, 13)]) (hr : meth.sig.returnType = (some .int)) {y : Nat} (S : cS Sh y) {f : sF} {q : Nat} {pst : Nat → sF} {t : Nat} {ch : Nat → Nat} (R : cR I P y f q pst t ch) {o : Nat} (hO : Sh o = some (11, 1)) {pv wv : Int32} : jJ p l e (jRm 8 1 6) s m args below meth c D cA N0 5 (MQ below (jQn D cA N0 Sh (wQ I P L y o (swovenBy f pv wv).1 (swovenBy f pv wv).2 (fun I' P' => cR I' P' y f q pst t ch) (fun I' P' => cR I' P' y f q pst t ch))) args s 1 6 (fun q => N0 ≤ q)) (fun _ => True) Sh I P L 0 0 0 [some (.ref y), some (.int pv), some (.int wv), some (.ref o), none] [] := by
  refine jx_aload_n (pc := 0) C dL_wovenBy_0 rfl ?_
  refine jx_iconst (pc := 1) C dL_wovenBy_1 nc_0 ?_
  refine jx_aload_n (pc := 2) C dL_wovenBy_2 rfl ?_
  refine jx_iload_n (pc := 3) C dL_wovenBy_3 rfl ?_
  refine jx_iload_n (pc := 4) C dL_wovenBy_4 rfl ?_
  refine jx_callX (pc := 5) C hnc (As := [.int pv, .int wv]) (rest := [.int (nI 0), .ref o]) ky_X5_wovenBy rfl kc_X5_wovenBy (jWS_in 802 (by decide +kernel) rfl) kn_X5_wovenBy kl_X5_wovenBy ki_X5_wovenBy S.obj rfl (Nat.le_of_ble_eq_true rfl) dL_wovenBy_5 (t_X5_wovenBy hst S R) (by decide) (by decide) ⟨Nat.le_refl 1, Nat.le_refl 6⟩ ?_ ?_
  · intro E9 I9 P9 L9 q9
    obtain ⟨e0, eE, R9, O9⟩ := q9
    have hle := le_wovenBy (f := f) (q := q) (t := t) (ch := ch) (pv := pv) (wv := wv)
    generalize hn9 : (swovenBy f pv wv).1 = n9 at e0 eE hle
    rcases (by omega : n9 = 1 ∨ n9 = 2) with h9 | h9
    · subst h9
      subst eE
      refine jx_catch (E := eA) C [] (⟨0, 10, 13, 15⟩ : ExceptionTableEntry) [(⟨0, 10, 17, 13⟩ : ExceptionTableEntry)] htab (fun z hz => absurd hz List.not_mem_nil) (by decide) (by decide) hnc (jWS_in 544 (by decide +kernel) rfl) (by unfold jXL; simp) (fun q => ?_)
      refine jx_astore (pc := 13) C dL_wovenBy_13 (jset_4 jc_r) (by decide) ?_
      refine jx_iconst (pc := 15) C dL_wovenBy_15 nc_1 ?_
      exact jn_iret (pc := 16) C hr (wQ_no (k := 1) rfl (by decide) R9 O9) dL_wovenBy_16
    · subst h9
      subst eE
      refine jx_catch (E := eI) C [(⟨0, 10, 13, 15⟩ : ExceptionTableEntry)] (⟨0, 10, 17, 13⟩ : ExceptionTableEntry) [] htab (List.forall_mem_cons.mpr ⟨Or.inr ⟨by decide, eA, C.2.2.2.2.1 _ (jWS_in 544 (by decide +kernel) rfl), hnc.1.2.2.1⟩, (fun z hz => absurd hz List.not_mem_nil)⟩) (by decide) (by decide) hnc (jWS_in 543 (by decide +kernel) rfl) (by unfold jXL; simp) (fun q => ?_)
      refine jx_astore (pc := 17) C dL_wovenBy_17 (jset_4 jc_r) (by decide) ?_
      refine jx_iconst (pc := 19) C dL_wovenBy_19 nc_2 ?_
      exact jn_iret (pc := 20) C hr (wQ_no (k := 2) rfl (by decide) R9 O9) dL_wovenBy_20
  · intro v9 I9 P9 L9 q9
    obtain ⟨e0, rfl, R9, O9⟩ := q9
    refine jx_i2l (pc := 8) C dL_wovenBy_8 ?_
    refine jx_last (pc := 9) (j := 0) C hO (by decide) (by decide) dL_wovenBy_9 ?_
    refine jx_goto (pc := 10) C (tgt := 21) dL_wovenBy_10 (by decide) ?_
    refine jx_iconst (pc := 21) C dL_wovenBy_21 nc_0 ?_
    exact jn_iret (pc := 22) C hr (wQ_ok e0 R9 O9) dL_wovenBy_22
theorem t_L_wovenBy {l : Launch} (hst : l.stackTraces = false) {D : va_G} {cA : Nat → ClassId} {N0 : Nat} {Sh : jS} {I : jI} {P : jP} {L : jL} {y : Nat} (S : cS Sh y) {f : sF} {q : Nat} {pst : Nat → sF} {t : Nat} {ch : Nat → Nat} (R : cR I P y f q pst t ch) {o : Nat} (hO : Sh o = some (11, 1)) {pv wv : Int32} : jWM l D cA N0 8 yL_wovenBy cL_wovenBy 5 (some .int) [(0, 10, 13, 15), (0, 10, 17, 13)] [.ref y, .int pv, .int wv, .ref o] Sh I P L (wQ I P L y o (swovenBy f pv wv).1 (swovenBy f pv wv).2 (fun I' P' => cR I' P' y f q pst t ch) (fun I' P' => cR I' P' y f q pst t ch)) := jWM_of (by decide) (Nat.le_of_ble_eq_true rfl) (fun _ _ _ _ _ _ _ _ C hnc hr htab => b_L_wovenBy C hnc hst htab hr S R hO)
set_option maxHeartbeats 4000000 in
theorem b_L_next {p : Program} {l : Launch} {e : Env} {s : State} {m : MethodId} {args : Array Value} {below : List Frame} {meth : Method} {c : Code} {D : va_G} {cA : Nat → ClassId} {N0 : Nat} {Sh : jS} {I : jI} {P : jP} {L : jL} (C : jC p (jRm 8 1 6) s m args meth c D cA N0 cL_next 5 RL 8) (hnc : jNc s) (hst : l.stackTraces = false) (htab : c.exceptionTable.toList = tableOf [(0, 10, 13, 13), (0, 10, 17, 15)]) (hr : meth.sig.returnType = (some .int)) {y : Nat} (S : cS Sh y) {f : sF} {q : Nat} {pst : Nat → sF} {t : Nat} {ch : Nat → Nat} (R : cR I P y f q pst t ch) {o : Nat} (hO : Sh o = some (11, 1)) {wv kv : Int32} : jJ p l e (jRm 8 1 6) s m args below meth c D cA N0 5 (MQ below (jQn D cA N0 Sh (wQ I P L y o (snext f wv kv).1 (snext f wv kv).2 (fun I' P' => cR I' P' y f q pst t ch) (fun I' P' => cR I' P' y f q pst t ch))) args s 1 6 (fun q => N0 ≤ q)) (fun _ => True) Sh I P L 0 0 0 [some (.ref y), some (.int wv), some (.int kv), some (.ref o), none] [] := by
  refine jx_aload_n (pc := 0) C dL_next_0 rfl ?_
  refine jx_iconst (pc := 1) C dL_next_1 nc_0 ?_
  refine jx_aload_n (pc := 2) C dL_next_2 rfl ?_
  refine jx_iload_n (pc := 3) C dL_next_3 rfl ?_
  refine jx_iload_n (pc := 4) C dL_next_4 rfl ?_
  refine jx_callX (pc := 5) C hnc (As := [.int wv, .int kv]) (rest := [.int (nI 0), .ref o]) ky_X5_next rfl kc_X5_next (jWS_in 810 (by decide +kernel) rfl) kn_X5_next kl_X5_next ki_X5_next S.obj rfl (Nat.le_of_ble_eq_true rfl) dL_next_5 (t_X5_next hst S R) (by decide) (by decide) ⟨Nat.le_refl 1, Nat.le_refl 6⟩ ?_ ?_
  · intro E9 I9 P9 L9 q9
    obtain ⟨e0, eE, R9, O9⟩ := q9
    have hle := le_next (f := f) (q := q) (t := t) (ch := ch) (wv := wv) (kv := kv)
    generalize hn9 : (snext f wv kv).1 = n9 at e0 eE hle
    rcases (by omega : n9 = 1 ∨ n9 = 2) with h9 | h9
    · subst h9
      subst eE
      refine jx_catch (E := eI) C [] (⟨0, 10, 13, 13⟩ : ExceptionTableEntry) [(⟨0, 10, 17, 15⟩ : ExceptionTableEntry)] htab (fun z hz => absurd hz List.not_mem_nil) (by decide) (by decide) hnc (jWS_in 543 (by decide +kernel) rfl) (by unfold jXL; simp) (fun q => ?_)
      refine jx_astore (pc := 13) C dL_next_13 (jset_4 jc_r) (by decide) ?_
      refine jx_iconst (pc := 15) C dL_next_15 nc_1 ?_
      exact jn_iret (pc := 16) C hr (wQ_no (k := 1) rfl (by decide) R9 O9) dL_next_16
    · subst h9
      subst eE
      refine jx_catch (E := eA) C [(⟨0, 10, 13, 13⟩ : ExceptionTableEntry)] (⟨0, 10, 17, 15⟩ : ExceptionTableEntry) [] htab (List.forall_mem_cons.mpr ⟨Or.inr ⟨by decide, eI, C.2.2.2.2.1 _ (jWS_in 543 (by decide +kernel) rfl), hnc.1.1⟩, (fun z hz => absurd hz List.not_mem_nil)⟩) (by decide) (by decide) hnc (jWS_in 544 (by decide +kernel) rfl) (by unfold jXL; simp) (fun q => ?_)
      refine jx_astore (pc := 17) C dL_next_17 (jset_4 jc_r) (by decide) ?_
      refine jx_iconst (pc := 19) C dL_next_19 nc_2 ?_
      exact jn_iret (pc := 20) C hr (wQ_no (k := 2) rfl (by decide) R9 O9) dL_next_20
  · intro v9 I9 P9 L9 q9
    obtain ⟨e0, rfl, R9, O9⟩ := q9
    refine jx_i2l (pc := 8) C dL_next_8 ?_
    refine jx_last (pc := 9) (j := 0) C hO (by decide) (by decide) dL_next_9 ?_
    refine jx_goto (pc := 10) C (tgt := 21) dL_next_10 (by decide) ?_
    refine jx_iconst (pc := 21) C dL_next_21 nc_0 ?_
    exact jn_iret (pc := 22) C hr (wQ_ok e0 R9 O9) dL_next_22
theorem t_L_next {l : Launch} (hst : l.stackTraces = false) {D : va_G} {cA : Nat → ClassId} {N0 : Nat} {Sh : jS} {I : jI} {P : jP} {L : jL} {y : Nat} (S : cS Sh y) {f : sF} {q : Nat} {pst : Nat → sF} {t : Nat} {ch : Nat → Nat} (R : cR I P y f q pst t ch) {o : Nat} (hO : Sh o = some (11, 1)) {wv kv : Int32} : jWM l D cA N0 8 yL_next cL_next 5 (some .int) [(0, 10, 13, 13), (0, 10, 17, 15)] [.ref y, .int wv, .int kv, .ref o] Sh I P L (wQ I P L y o (snext f wv kv).1 (snext f wv kv).2 (fun I' P' => cR I' P' y f q pst t ch) (fun I' P' => cR I' P' y f q pst t ch)) := jWM_of (by decide) (Nat.le_of_ble_eq_true rfl) (fun _ _ _ _ _ _ _ _ C hnc hr htab => b_L_next C hnc hst htab hr S R hO)
set_option maxHeartbeats 4000000 in
theorem b_L_count {p : Program} {l : Launch} {e : Env} {s : State} {m : MethodId} {args : Array Value} {below : List Frame} {meth : Method} {c : Code} {D : va_G} {cA : Nat → ClassId} {N0 : Nat} {Sh : jS} {I : jI} {P : jP} {L : jL} (C : jC p (jRm 8 1 6) s m args meth c D cA N0 cL_count 4 RL 8) (hnc : jNc s) (hst : l.stackTraces = false) (htab : c.exceptionTable.toList = tableOf [(0, 9, 12, 15)]) (hr : meth.sig.returnType = (some .int)) {y : Nat} (S : cS Sh y) {f : sF} {q : Nat} {pst : Nat → sF} {t : Nat} {ch : Nat → Nat} (R : cR I P y f q pst t ch) {o : Nat} (hO : Sh o = some (11, 1)) {kv : Int32} : jJ p l e (jRm 8 1 6) s m args below meth c D cA N0 4 (MQ below (jQn D cA N0 Sh (wQ I P L y o (scount f (nI q) kv).1 (scount f (nI q) kv).2 (fun I' P' => cR I' P' y f q pst t ch) (fun I' P' => cR I' P' y f q pst t ch))) args s 1 6 (fun q => N0 ≤ q)) (fun _ => True) Sh I P L 0 0 0 [some (.ref y), some (.int kv), some (.ref o), none] [] := by
  refine jx_aload_n (pc := 0) C dL_count_0 rfl ?_
  refine jx_iconst (pc := 1) C dL_count_1 nc_0 ?_
  refine jx_aload_n (pc := 2) C dL_count_2 rfl ?_
  refine jx_iload_n (pc := 3) C dL_count_3 rfl ?_
  refine jx_callX (pc := 4) C hnc (As := [.int kv]) (rest := [.int (nI 0), .ref o]) ky_X5_count rfl kc_X5_count (jWS_in 818 (by decide +kernel) rfl) kn_X5_count kl_X5_count ki_X5_count S.obj rfl (Nat.le_of_ble_eq_true rfl) dL_count_4 (t_X5_count hst S R) (by decide) (by decide) ⟨Nat.le_refl 1, Nat.le_refl 6⟩ ?_ ?_
  · intro E9 I9 P9 L9 q9
    obtain ⟨e0, eE, R9, O9⟩ := q9
    have hle := le_count (f := f) (q := q) (t := t) (ch := ch) (kv := kv)
    generalize hn9 : (scount f (nI q) kv).1 = n9 at e0 eE hle
    rcases (by omega : n9 = 1) with h9
    subst h9
    subst eE
    refine jx_catch (E := eA) C [] (⟨0, 9, 12, 15⟩ : ExceptionTableEntry) [] htab (fun z hz => absurd hz List.not_mem_nil) (by decide) (by decide) hnc (jWS_in 544 (by decide +kernel) rfl) (by unfold jXL; simp) (fun q => ?_)
    refine jx_astore_n (pc := 12) C dL_count_12 (jset_3 jc_r) (by decide) ?_
    refine jx_iconst (pc := 13) C dL_count_13 nc_1 ?_
    exact jn_iret (pc := 14) C hr (wQ_no (k := 1) rfl (by decide) R9 O9) dL_count_14
  · intro v9 I9 P9 L9 q9
    obtain ⟨e0, rfl, R9, O9⟩ := q9
    refine jx_i2l (pc := 7) C dL_count_7 ?_
    refine jx_last (pc := 8) (j := 0) C hO (by decide) (by decide) dL_count_8 ?_
    refine jx_goto (pc := 9) C (tgt := 15) dL_count_9 (by decide) ?_
    refine jx_iconst (pc := 15) C dL_count_15 nc_0 ?_
    exact jn_iret (pc := 16) C hr (wQ_ok e0 R9 O9) dL_count_16
theorem t_L_count {l : Launch} (hst : l.stackTraces = false) {D : va_G} {cA : Nat → ClassId} {N0 : Nat} {Sh : jS} {I : jI} {P : jP} {L : jL} {y : Nat} (S : cS Sh y) {f : sF} {q : Nat} {pst : Nat → sF} {t : Nat} {ch : Nat → Nat} (R : cR I P y f q pst t ch) {o : Nat} (hO : Sh o = some (11, 1)) {kv : Int32} : jWM l D cA N0 8 yL_count cL_count 4 (some .int) [(0, 9, 12, 15)] [.ref y, .int kv, .ref o] Sh I P L (wQ I P L y o (scount f (nI q) kv).1 (scount f (nI q) kv).2 (fun I' P' => cR I' P' y f q pst t ch) (fun I' P' => cR I' P' y f q pst t ch)) := jWM_of (by decide) (Nat.le_of_ble_eq_true rfl) (fun _ _ _ _ _ _ _ _ C hnc hr htab => b_L_count C hnc hst htab hr S R hO)
set_option maxHeartbeats 4000000 in
theorem b_L_setting {p : Program} {l : Launch} {e : Env} {s : State} {m : MethodId} {args : Array Value} {below : List Frame} {meth : Method} {c : Code} {D : va_G} {cA : Nat → ClassId} {N0 : Nat} {Sh : jS} {I : jI} {P : jP} {L : jL} (C : jC p (jRm 8 1 6) s m args meth c D cA N0 cL_setting 4 RL 8) (hnc : jNc s) (hst : l.stackTraces = false) (htab : c.exceptionTable.toList = tableOf [(0, 9, 12, 13)]) (hr : meth.sig.returnType = (some .int)) {y : Nat} (S : cS Sh y) {f : sF} {q : Nat} {pst : Nat → sF} {t : Nat} {ch : Nat → Nat} (R : cR I P y f q pst t ch) {o : Nat} (hO : Sh o = some (11, 1)) {sv : Int32} : jJ p l e (jRm 8 1 6) s m args below meth c D cA N0 4 (MQ below (jQn D cA N0 Sh (wQ I P L y o (ssetting f sv).1 (ssetting f sv).2 (fun I' P' => cR I' P' y f q pst t ch) (fun I' P' => cR I' P' y f q pst t ch))) args s 1 6 (fun q => N0 ≤ q)) (fun _ => True) Sh I P L 0 0 0 [some (.ref y), some (.int sv), some (.ref o), none] [] := by
  refine jx_aload_n (pc := 0) C dL_setting_0 rfl ?_
  refine jx_iconst (pc := 1) C dL_setting_1 nc_0 ?_
  refine jx_aload_n (pc := 2) C dL_setting_2 rfl ?_
  refine jx_iload_n (pc := 3) C dL_setting_3 rfl ?_
  refine jx_callX (pc := 4) C hnc (As := [.int sv]) (rest := [.int (nI 0), .ref o]) ky_X5_setting rfl kc_X5_setting (jWS_in 826 (by decide +kernel) rfl) kn_X5_setting kl_X5_setting ki_X5_setting S.obj rfl (Nat.le_of_ble_eq_true rfl) dL_setting_4 (t_X5_setting hst S R) (by decide) (by decide) ⟨Nat.le_refl 1, Nat.le_refl 6⟩ ?_ ?_
  · intro E9 I9 P9 L9 q9
    obtain ⟨e0, eE, R9, O9⟩ := q9
    have hle := le_setting (f := f) (q := q) (t := t) (ch := ch) (sv := sv)
    generalize hn9 : (ssetting f sv).1 = n9 at e0 eE hle
    rcases (by omega : n9 = 1) with h9
    subst h9
    subst eE
    refine jx_catch (E := eI) C [] (⟨0, 9, 12, 13⟩ : ExceptionTableEntry) [] htab (fun z hz => absurd hz List.not_mem_nil) (by decide) (by decide) hnc (jWS_in 543 (by decide +kernel) rfl) (by unfold jXL; simp) (fun q => ?_)
    refine jx_astore_n (pc := 12) C dL_setting_12 (jset_3 jc_r) (by decide) ?_
    refine jx_iconst (pc := 13) C dL_setting_13 nc_1 ?_
    exact jn_iret (pc := 14) C hr (wQ_no (k := 1) rfl (by decide) R9 O9) dL_setting_14
  · intro v9 I9 P9 L9 q9
    obtain ⟨e0, rfl, R9, O9⟩ := q9
    refine jx_i2l (pc := 7) C dL_setting_7 ?_
    refine jx_last (pc := 8) (j := 0) C hO (by decide) (by decide) dL_setting_8 ?_
    refine jx_goto (pc := 9) C (tgt := 15) dL_setting_9 (by decide) ?_
    refine jx_iconst (pc := 15) C dL_setting_15 nc_0 ?_
    exact jn_iret (pc := 16) C hr (wQ_ok e0 R9 O9) dL_setting_16
theorem t_L_setting {l : Launch} (hst : l.stackTraces = false) {D : va_G} {cA : Nat → ClassId} {N0 : Nat} {Sh : jS} {I : jI} {P : jP} {L : jL} {y : Nat} (S : cS Sh y) {f : sF} {q : Nat} {pst : Nat → sF} {t : Nat} {ch : Nat → Nat} (R : cR I P y f q pst t ch) {o : Nat} (hO : Sh o = some (11, 1)) {sv : Int32} : jWM l D cA N0 8 yL_setting cL_setting 4 (some .int) [(0, 9, 12, 13)] [.ref y, .int sv, .ref o] Sh I P L (wQ I P L y o (ssetting f sv).1 (ssetting f sv).2 (fun I' P' => cR I' P' y f q pst t ch) (fun I' P' => cR I' P' y f q pst t ch)) := jWM_of (by decide) (Nat.le_of_ble_eq_true rfl) (fun _ _ _ _ _ _ _ _ C hnc hr htab => b_L_setting C hnc hst htab hr S R hO)
set_option maxHeartbeats 4000000 in
theorem b_L_ifPassed {p : Program} {l : Launch} {e : Env} {s : State} {m : MethodId} {args : Array Value} {below : List Frame} {meth : Method} {c : Code} {D : va_G} {cA : Nat → ClassId} {N0 : Nat} {Sh : jS} {I : jI} {P : jP} {L : jL} (C : jC p (jRm 8 1 6) s m args meth c D cA N0 cL_ifPassed 5 RL 8) (hnc : jNc s) (hst : l.stackTraces = false) (htab : c.exceptionTable.toList = tableOf [(0, 10, 13, 15)]) (hr : meth.sig.returnType = (some .int)) {y : Nat} (S : cS Sh y) {f : sF} {q : Nat} {pst : Nat → sF} {t : Nat} {ch : Nat → Nat} (R : cR I P y f q pst t ch) {o : Nat} (hO : Sh o = some (11, 1)) {hv kv : Int32} : jJ p l e (jRm 8 1 6) s m args below meth c D cA N0 5 (MQ below (jQn D cA N0 Sh (wQ I P L y o (sifP f hv kv).1 (sifP f hv kv).2 (fun I' P' => cR I' P' y f q pst t ch) (fun I' P' => cR I' P' y f q pst t ch))) args s 1 6 (fun q => N0 ≤ q)) (fun _ => True) Sh I P L 0 0 0 [some (.ref y), some (.int hv), some (.int kv), some (.ref o), none] [] := by
  refine jx_aload_n (pc := 0) C dL_ifPassed_0 rfl ?_
  refine jx_iconst (pc := 1) C dL_ifPassed_1 nc_0 ?_
  refine jx_aload_n (pc := 2) C dL_ifPassed_2 rfl ?_
  refine jx_iload_n (pc := 3) C dL_ifPassed_3 rfl ?_
  refine jx_iload_n (pc := 4) C dL_ifPassed_4 rfl ?_
  refine jx_callX (pc := 5) C hnc (As := [.int hv, .int kv]) (rest := [.int (nI 0), .ref o]) ky_X5_ifPassed rfl kc_X5_ifPassed (jWS_in 833 (by decide +kernel) rfl) kn_X5_ifPassed kl_X5_ifPassed ki_X5_ifPassed S.obj rfl (Nat.le_of_ble_eq_true rfl) dL_ifPassed_5 (t_X5_ifPassed hst S R) (by decide) (by decide) ⟨Nat.le_refl 1, Nat.le_refl 6⟩ ?_ ?_
  · intro E9 I9 P9 L9 q9
    obtain ⟨e0, eE, R9, O9⟩ := q9
    have hle := le_ifPassed (f := f) (q := q) (t := t) (ch := ch) (hv := hv) (kv := kv)
    generalize hn9 : (sifP f hv kv).1 = n9 at e0 eE hle
    rcases (by omega : n9 = 1) with h9
    subst h9
    subst eE
    refine jx_catch (E := eA) C [] (⟨0, 10, 13, 15⟩ : ExceptionTableEntry) [] htab (fun z hz => absurd hz List.not_mem_nil) (by decide) (by decide) hnc (jWS_in 544 (by decide +kernel) rfl) (by unfold jXL; simp) (fun q => ?_)
    refine jx_astore (pc := 13) C dL_ifPassed_13 (jset_4 jc_r) (by decide) ?_
    refine jx_iconst (pc := 15) C dL_ifPassed_15 nc_1 ?_
    exact jn_iret (pc := 16) C hr (wQ_no (k := 1) rfl (by decide) R9 O9) dL_ifPassed_16
  · intro v9 I9 P9 L9 q9
    obtain ⟨e0, rfl, R9, O9⟩ := q9
    refine jx_i2l (pc := 8) C dL_ifPassed_8 ?_
    refine jx_last (pc := 9) (j := 0) C hO (by decide) (by decide) dL_ifPassed_9 ?_
    refine jx_goto (pc := 10) C (tgt := 17) dL_ifPassed_10 (by decide) ?_
    refine jx_iconst (pc := 17) C dL_ifPassed_17 nc_0 ?_
    exact jn_iret (pc := 18) C hr (wQ_ok e0 R9 O9) dL_ifPassed_18
theorem t_L_ifPassed {l : Launch} (hst : l.stackTraces = false) {D : va_G} {cA : Nat → ClassId} {N0 : Nat} {Sh : jS} {I : jI} {P : jP} {L : jL} {y : Nat} (S : cS Sh y) {f : sF} {q : Nat} {pst : Nat → sF} {t : Nat} {ch : Nat → Nat} (R : cR I P y f q pst t ch) {o : Nat} (hO : Sh o = some (11, 1)) {hv kv : Int32} : jWM l D cA N0 8 yL_ifPassed cL_ifPassed 5 (some .int) [(0, 10, 13, 15)] [.ref y, .int hv, .int kv, .ref o] Sh I P L (wQ I P L y o (sifP f hv kv).1 (sifP f hv kv).2 (fun I' P' => cR I' P' y f q pst t ch) (fun I' P' => cR I' P' y f q pst t ch)) := jWM_of (by decide) (Nat.le_of_ble_eq_true rfl) (fun _ _ _ _ _ _ _ _ C hnc hr htab => b_L_ifPassed C hnc hst htab hr S R hO)
set_option maxHeartbeats 4000000 in
theorem b_L_doneIn {p : Program} {l : Launch} {e : Env} {s : State} {m : MethodId} {args : Array Value} {below : List Frame} {meth : Method} {c : Code} {D : va_G} {cA : Nat → ClassId} {N0 : Nat} {Sh : jS} {I : jI} {P : jP} {L : jL} (C : jC p (jRm 8 1 6) s m args meth c D cA N0 cL_doneIn 4 RL 8) (hnc : jNc s) (hst : l.stackTraces = false) (htab : c.exceptionTable.toList = tableOf [(0, 9, 12, 13)]) (hr : meth.sig.returnType = (some .int)) {y : Nat} (S : cS Sh y) {f : sF} {q : Nat} {pst : Nat → sF} {t : Nat} {ch : Nat → Nat} (R : cR I P y f q pst t ch) {o : Nat} (hO : Sh o = some (11, 1)) {num : Int32} : jJ p l e (jRm 8 1 6) s m args below meth c D cA N0 4 (MQ below (jQn D cA N0 Sh (wQ I P L y o (sdoneIn f num).1 (sdoneIn f num).2 (fun I' P' => cR I' P' y f q pst t ch) (fun I' P' => cR I' P' y f q pst t ch))) args s 1 6 (fun q => N0 ≤ q)) (fun _ => True) Sh I P L 0 0 0 [some (.ref y), some (.int num), some (.ref o), none] [] := by
  refine jx_aload_n (pc := 0) C dL_doneIn_0 rfl ?_
  refine jx_iconst (pc := 1) C dL_doneIn_1 nc_0 ?_
  refine jx_aload_n (pc := 2) C dL_doneIn_2 rfl ?_
  refine jx_iload_n (pc := 3) C dL_doneIn_3 rfl ?_
  refine jx_callX (pc := 4) C hnc (As := [.int num]) (rest := [.int (nI 0), .ref o]) ky_X5_doneIn rfl kc_X5_doneIn (jWS_in 841 (by decide +kernel) rfl) kn_X5_doneIn kl_X5_doneIn ki_X5_doneIn S.obj rfl (Nat.le_of_ble_eq_true rfl) dL_doneIn_4 (t_X5_doneIn hst S R) (by decide) (by decide) ⟨Nat.le_refl 1, Nat.le_refl 6⟩ ?_ ?_
  · intro E9 I9 P9 L9 q9
    obtain ⟨e0, eE, R9, O9⟩ := q9
    have hle := le_doneIn (f := f) (q := q) (t := t) (ch := ch) (num := num)
    generalize hn9 : (sdoneIn f num).1 = n9 at e0 eE hle
    rcases (by omega : n9 = 1) with h9
    subst h9
    subst eE
    refine jx_catch (E := eI) C [] (⟨0, 9, 12, 13⟩ : ExceptionTableEntry) [] htab (fun z hz => absurd hz List.not_mem_nil) (by decide) (by decide) hnc (jWS_in 543 (by decide +kernel) rfl) (by unfold jXL; simp) (fun q => ?_)
    refine jx_astore_n (pc := 12) C dL_doneIn_12 (jset_3 jc_r) (by decide) ?_
    refine jx_iconst (pc := 13) C dL_doneIn_13 nc_1 ?_
    exact jn_iret (pc := 14) C hr (wQ_no (k := 1) rfl (by decide) R9 O9) dL_doneIn_14
  · intro v9 I9 P9 L9 q9
    obtain ⟨e0, rfl, R9, O9⟩ := q9
    refine jx_i2l (pc := 7) C dL_doneIn_7 ?_
    refine jx_last (pc := 8) (j := 0) C hO (by decide) (by decide) dL_doneIn_8 ?_
    refine jx_goto (pc := 9) C (tgt := 15) dL_doneIn_9 (by decide) ?_
    refine jx_iconst (pc := 15) C dL_doneIn_15 nc_0 ?_
    exact jn_iret (pc := 16) C hr (wQ_ok e0 R9 O9) dL_doneIn_16
theorem t_L_doneIn {l : Launch} (hst : l.stackTraces = false) {D : va_G} {cA : Nat → ClassId} {N0 : Nat} {Sh : jS} {I : jI} {P : jP} {L : jL} {y : Nat} (S : cS Sh y) {f : sF} {q : Nat} {pst : Nat → sF} {t : Nat} {ch : Nat → Nat} (R : cR I P y f q pst t ch) {o : Nat} (hO : Sh o = some (11, 1)) {num : Int32} : jWM l D cA N0 8 yL_doneIn cL_doneIn 4 (some .int) [(0, 9, 12, 13)] [.ref y, .int num, .ref o] Sh I P L (wQ I P L y o (sdoneIn f num).1 (sdoneIn f num).2 (fun I' P' => cR I' P' y f q pst t ch) (fun I' P' => cR I' P' y f q pst t ch)) := jWM_of (by decide) (Nat.le_of_ble_eq_true rfl) (fun _ _ _ _ _ _ _ _ C hnc hr htab => b_L_doneIn C hnc hst htab hr S R hO)
set_option maxHeartbeats 4000000 in
theorem b_L_bestRule {p : Program} {l : Launch} {e : Env} {s : State} {m : MethodId} {args : Array Value} {below : List Frame} {meth : Method} {c : Code} {D : va_G} {cA : Nat → ClassId} {N0 : Nat} {Sh : jS} {I : jI} {P : jP} {L : jL} (C : jC p (jRm 8 1 6) s m args meth c D cA N0 cL_bestRule 4 RL 8) (hnc : jNc s) (hst : l.stackTraces = false) (htab : c.exceptionTable.toList = tableOf [(0, 9, 12, 15)]) (hr : meth.sig.returnType = (some .int)) {y : Nat} (S : cS Sh y) {f : sF} {q : Nat} {pst : Nat → sF} {t : Nat} {ch : Nat → Nat} (R : cR I P y f q pst t ch) {o : Nat} (hO : Sh o = some (11, 1)) {hv : Int32} : jJ p l e (jRm 8 1 6) s m args below meth c D cA N0 4 (MQ below (jQn D cA N0 Sh (wQ I P L y o (sbestRule f hv).1 (sbestRule f hv).2 (fun I' P' => cR I' P' y f q pst t ch) (fun I' P' => cR I' P' y f q pst t ch))) args s 1 6 (fun q => N0 ≤ q)) (fun _ => True) Sh I P L 0 0 0 [some (.ref y), some (.int hv), some (.ref o), none] [] := by
  refine jx_aload_n (pc := 0) C dL_bestRule_0 rfl ?_
  refine jx_iconst (pc := 1) C dL_bestRule_1 nc_0 ?_
  refine jx_aload_n (pc := 2) C dL_bestRule_2 rfl ?_
  refine jx_iload_n (pc := 3) C dL_bestRule_3 rfl ?_
  refine jx_callX (pc := 4) C hnc (As := [.int hv]) (rest := [.int (nI 0), .ref o]) ky_X5_bestRule rfl kc_X5_bestRule (jWS_in 848 (by decide +kernel) rfl) kn_X5_bestRule kl_X5_bestRule ki_X5_bestRule S.obj rfl (Nat.le_of_ble_eq_true rfl) dL_bestRule_4 (t_X5_bestRule hst S R) (by decide) (by decide) ⟨Nat.le_refl 1, Nat.le_refl 6⟩ ?_ ?_
  · intro E9 I9 P9 L9 q9
    obtain ⟨e0, eE, R9, O9⟩ := q9
    have hle := le_bestRule (f := f) (q := q) (t := t) (ch := ch) (hv := hv)
    generalize hn9 : (sbestRule f hv).1 = n9 at e0 eE hle
    rcases (by omega : n9 = 1) with h9
    subst h9
    subst eE
    refine jx_catch (E := eA) C [] (⟨0, 9, 12, 15⟩ : ExceptionTableEntry) [] htab (fun z hz => absurd hz List.not_mem_nil) (by decide) (by decide) hnc (jWS_in 544 (by decide +kernel) rfl) (by unfold jXL; simp) (fun q => ?_)
    refine jx_astore_n (pc := 12) C dL_bestRule_12 (jset_3 jc_r) (by decide) ?_
    refine jx_iconst (pc := 13) C dL_bestRule_13 nc_1 ?_
    exact jn_iret (pc := 14) C hr (wQ_no (k := 1) rfl (by decide) R9 O9) dL_bestRule_14
  · intro v9 I9 P9 L9 q9
    obtain ⟨e0, rfl, R9, O9⟩ := q9
    refine jx_i2l (pc := 7) C dL_bestRule_7 ?_
    refine jx_last (pc := 8) (j := 0) C hO (by decide) (by decide) dL_bestRule_8 ?_
    refine jx_goto (pc := 9) C (tgt := 15) dL_bestRule_9 (by decide) ?_
    refine jx_iconst (pc := 15) C dL_bestRule_15 nc_0 ?_
    exact jn_iret (pc := 16) C hr (wQ_ok e0 R9 O9) dL_bestRule_16
theorem t_L_bestRule {l : Launch} (hst : l.stackTraces = false) {D : va_G} {cA : Nat → ClassId} {N0 : Nat} {Sh : jS} {I : jI} {P : jP} {L : jL} {y : Nat} (S : cS Sh y) {f : sF} {q : Nat} {pst : Nat → sF} {t : Nat} {ch : Nat → Nat} (R : cR I P y f q pst t ch) {o : Nat} (hO : Sh o = some (11, 1)) {hv : Int32} : jWM l D cA N0 8 yL_bestRule cL_bestRule 4 (some .int) [(0, 9, 12, 15)] [.ref y, .int hv, .ref o] Sh I P L (wQ I P L y o (sbestRule f hv).1 (sbestRule f hv).2 (fun I' P' => cR I' P' y f q pst t ch) (fun I' P' => cR I' P' y f q pst t ch)) := jWM_of (by decide) (Nat.le_of_ble_eq_true rfl) (fun _ _ _ _ _ _ _ _ C hnc hr htab => b_L_bestRule C hnc hst htab hr S R hO)
set_option maxHeartbeats 4000000 in
theorem b_L_dueNow {p : Program} {l : Launch} {e : Env} {s : State} {m : MethodId} {args : Array Value} {below : List Frame} {meth : Method} {c : Code} {D : va_G} {cA : Nat → ClassId} {N0 : Nat} {Sh : jS} {I : jI} {P : jP} {L : jL} (C : jC p (jRm 8 1 6) s m args meth c D cA N0 cL_dueNow 5 RL 8) (hnc : jNc s) (hst : l.stackTraces = false) (htab : c.exceptionTable.toList = tableOf [(0, 10, 13, 13)]) (hr : meth.sig.returnType = (some .int)) {y : Nat} (S : cS Sh y) {f : sF} {q : Nat} {pst : Nat → sF} {t : Nat} {ch : Nat → Nat} (R : cR I P y f q pst t ch) {o : Nat} (hO : Sh o = some (11, 1)) {num wv : Int32} : jJ p l e (jRm 8 1 6) s m args below meth c D cA N0 5 (MQ below (jQn D cA N0 Sh (wQ I P L y o (sdueNow f num wv).1 (sdueNow f num wv).2 (fun I' P' => cR I' P' y f q pst t ch) (fun I' P' => cR I' P' y f q pst t ch))) args s 1 6 (fun q => N0 ≤ q)) (fun _ => True) Sh I P L 0 0 0 [some (.ref y), some (.int num), some (.int wv), some (.ref o), none] [] := by
  refine jx_aload_n (pc := 0) C dL_dueNow_0 rfl ?_
  refine jx_iconst (pc := 1) C dL_dueNow_1 nc_0 ?_
  refine jx_aload_n (pc := 2) C dL_dueNow_2 rfl ?_
  refine jx_iload_n (pc := 3) C dL_dueNow_3 rfl ?_
  refine jx_iload_n (pc := 4) C dL_dueNow_4 rfl ?_
  refine jx_callX (pc := 5) C hnc (As := [.int num, .int wv]) (rest := [.int (nI 0), .ref o]) ky_X5_dueNow rfl kc_X5_dueNow (jWS_in 855 (by decide +kernel) rfl) kn_X5_dueNow kl_X5_dueNow ki_X5_dueNow S.obj rfl (Nat.le_of_ble_eq_true rfl) dL_dueNow_5 (t_X5_dueNow hst S R) (by decide) (by decide) ⟨Nat.le_refl 1, Nat.le_refl 6⟩ ?_ ?_
  · intro E9 I9 P9 L9 q9
    obtain ⟨e0, eE, R9, O9⟩ := q9
    have hle := le_dueNow (f := f) (q := q) (t := t) (ch := ch) (num := num) (wv := wv)
    generalize hn9 : (sdueNow f num wv).1 = n9 at e0 eE hle
    rcases (by omega : n9 = 1) with h9
    subst h9
    subst eE
    refine jx_catch (E := eI) C [] (⟨0, 10, 13, 13⟩ : ExceptionTableEntry) [] htab (fun z hz => absurd hz List.not_mem_nil) (by decide) (by decide) hnc (jWS_in 543 (by decide +kernel) rfl) (by unfold jXL; simp) (fun q => ?_)
    refine jx_astore (pc := 13) C dL_dueNow_13 (jset_4 jc_r) (by decide) ?_
    refine jx_iconst (pc := 15) C dL_dueNow_15 nc_1 ?_
    exact jn_iret (pc := 16) C hr (wQ_no (k := 1) rfl (by decide) R9 O9) dL_dueNow_16
  · intro v9 I9 P9 L9 q9
    obtain ⟨e0, rfl, R9, O9⟩ := q9
    refine jx_i2l (pc := 8) C dL_dueNow_8 ?_
    refine jx_last (pc := 9) (j := 0) C hO (by decide) (by decide) dL_dueNow_9 ?_
    refine jx_goto (pc := 10) C (tgt := 17) dL_dueNow_10 (by decide) ?_
    refine jx_iconst (pc := 17) C dL_dueNow_17 nc_0 ?_
    exact jn_iret (pc := 18) C hr (wQ_ok e0 R9 O9) dL_dueNow_18
theorem t_L_dueNow {l : Launch} (hst : l.stackTraces = false) {D : va_G} {cA : Nat → ClassId} {N0 : Nat} {Sh : jS} {I : jI} {P : jP} {L : jL} {y : Nat} (S : cS Sh y) {f : sF} {q : Nat} {pst : Nat → sF} {t : Nat} {ch : Nat → Nat} (R : cR I P y f q pst t ch) {o : Nat} (hO : Sh o = some (11, 1)) {num wv : Int32} : jWM l D cA N0 8 yL_dueNow cL_dueNow 5 (some .int) [(0, 10, 13, 13)] [.ref y, .int num, .int wv, .ref o] Sh I P L (wQ I P L y o (sdueNow f num wv).1 (sdueNow f num wv).2 (fun I' P' => cR I' P' y f q pst t ch) (fun I' P' => cR I' P' y f q pst t ch)) := jWM_of (by decide) (Nat.le_of_ble_eq_true rfl) (fun _ _ _ _ _ _ _ _ C hnc hr htab => b_L_dueNow C hnc hst htab hr S R hO)
