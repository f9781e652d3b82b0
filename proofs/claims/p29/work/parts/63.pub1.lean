/-! THE CLASS'S STATE as the spec sees it; its questions -/
def cR (I : jI) (P : jP) (y : Nat) (f : sF) (q : Nat) (pst : Nat → sF) (t : Nat) (ch : Nat → Nat) : Prop := (cP P y) ∧ (cM I P y f) ∧ (sI f) ∧ (cT P y) ∧ (cV I P y q pst) ∧ (∀ i, i < q → sI (pst i)) ∧ (I y 6 = nI q) ∧ (q ≤ 6) ∧ (cB I y t ch)
theorem cR.T {I : jI} {P : jP} {y : Nat} {f : sF} {q : Nat} {pst : Nat → sF} {t : Nat} {ch : Nat → Nat} (R : cR I P y f q pst t ch) : cP P y := R.1
theorem cR.M {I : jI} {P : jP} {y : Nat} {f : sF} {q : Nat} {pst : Nat → sF} {t : Nat} {ch : Nat → Nat} (R : cR I P y f q pst t ch) : cM I P y f := R.2.1
theorem cR.V {I : jI} {P : jP} {y : Nat} {f : sF} {q : Nat} {pst : Nat → sF} {t : Nat} {ch : Nat → Nat} (R : cR I P y f q pst t ch) : sI f := R.2.2.1
theorem cR.U {I : jI} {P : jP} {y : Nat} {f : sF} {q : Nat} {pst : Nat → sF} {t : Nat} {ch : Nat → Nat} (R : cR I P y f q pst t ch) : cT P y := R.2.2.2.1
theorem cR.W {I : jI} {P : jP} {y : Nat} {f : sF} {q : Nat} {pst : Nat → sF} {t : Nat} {ch : Nat → Nat} (R : cR I P y f q pst t ch) : cV I P y q pst := R.2.2.2.2.1
theorem cR.K {I : jI} {P : jP} {y : Nat} {f : sF} {q : Nat} {pst : Nat → sF} {t : Nat} {ch : Nat → Nat} (R : cR I P y f q pst t ch) : ∀ i, i < q → sI (pst i) := R.2.2.2.2.2.1
theorem cR.hq {I : jI} {P : jP} {y : Nat} {f : sF} {q : Nat} {pst : Nat → sF} {t : Nat} {ch : Nat → Nat} (R : cR I P y f q pst t ch) : I y 6 = nI q := R.2.2.2.2.2.2.1
theorem cR.q6 {I : jI} {P : jP} {y : Nat} {f : sF} {q : Nat} {pst : Nat → sF} {t : Nat} {ch : Nat → Nat} (R : cR I P y f q pst t ch) : q ≤ 6 := R.2.2.2.2.2.2.2.1
theorem cR.B {I : jI} {P : jP} {y : Nat} {f : sF} {q : Nat} {pst : Nat → sF} {t : Nat} {ch : Nat → Nat} (R : cR I P y f q pst t ch) : cB I y t ch := R.2.2.2.2.2.2.2.2
def cOut (I : jI) (P : jP) (L : jL) (y : Nat) (I' : jI) (P' : jP) (L' : jL) : Prop := (∀ b, (b < y ∨ y + 366 ≤ b) → I' b = I b) ∧ (∀ b, (b < y ∨ y + 366 ≤ b) → P' b = P b) ∧ L' = L
theorem cOut.rf {I : jI} {P : jP} {L : jL} {y : Nat} : cOut I P L y I P L := ⟨fun _ _ => rfl, fun _ _ => rfl, rfl⟩
theorem cOut.tr {I I1 I2 : jI} {P P1 P2 : jP} {L L1 L2 : jL} {y : Nat} (a : cOut I P L y I1 P1 L1) (b : cOut I1 P1 L1 y I2 P2 L2) : cOut I P L y I2 P2 L2 := ⟨fun q hq => (b.1 q hq).trans (a.1 q hq), fun q hq => (b.2.1 q hq).trans (a.2.1 q hq), b.2.2.trans a.2.2⟩
/-- the end of a method: its answer and the state -/
def cQ (I : jI) (P : jP) (L : jL) (y : Nat) (S : Nat × Int32) (f : sF) (q : Nat) (pst : Nat → sF) (t : Nat) (ch : Nat → Nat) : Option Value → jI → jP → jL → Prop := fun v I' P' L' => S.1 = 0 ∧ v = some (.int S.2) ∧ cR I' P' y f q pst t ch ∧ cOut I P L y I' P' L'
/-- .. and by an exception, en: which for which fault -/
def cX (I : jI) (P : jP) (L : jL) (y : Nat) (en : Nat → String) (n : Nat) (f : sF) (q : Nat) (pst : Nat → sF) (t : Nat) (ch : Nat → Nat) : String → jI → jP → jL → Prop := fun E I' P' L' => n ≠ 0 ∧ E = en n ∧ cR I' P' y f q pst t ch ∧ cOut I P L y I' P' L'
def en3 : Nat → String | 1 => eI | 2 => eA | _ => eS
def enA : Nat → String | 1 => eA | _ => eS
def enW : Nat → String | 1 => eA | _ => eI
theorem cQ_id {I : jI} {P : jP} {L : jL} {y : Nat} {S : Nat × Int32} {r : Int32} {f : sF} {q : Nat} {pst : Nat → sF} {t : Nat} {ch : Nat → Nat} (e : S = (0, r)) (R : cR I P y f q pst t ch) : cQ I P L y S f q pst t ch (some (.int r)) I P L := by
  subst e
  exact ⟨rfl, rfl, R, cOut.rf⟩
theorem cQ_ok {I I' : jI} {P P' : jP} {L L' : jL} {y : Nat} {S : Nat × Int32} {r : Int32} {f : sF} {q : Nat} {pst : Nat → sF} {t : Nat} {ch : Nat → Nat} (e : S = (0, r)) (R : cR I' P' y f q pst t ch) (F : cOut I P L y I' P' L') : cQ I P L y S f q pst t ch (some (.int r)) I' P' L' := by
  subst e
  exact ⟨rfl, rfl, R, F⟩
theorem cX_of {I : jI} {P : jP} {L : jL} {y : Nat} {en : Nat → String} {n k : Nat} {E : String} {f : sF} {q : Nat} {pst : Nat → sF} {t : Nat} {ch : Nat → Nat} (e : n = k) (hk : k ≠ 0) (he : E = en k) (R : cR I P y f q pst t ch) : cX I P L y en n f q pst t ch E I P L := by
  subst e
  exact ⟨hk, he, R, cOut.rf⟩
theorem sI.m {f : sF} (V : sI f) : smany f ≤ 10 := V.1.2.1
/-- the hall at work changes -/
theorem cR.hall {I I' : jI} {P P' : jP} {y : Nat} {f g : sF} {q : Nat} {pst : Nat → sF} {t : Nat} {ch : Nat → Nat} (R : cR I P y f q pst t ch) (F : hF I (y + 1) I') (G : hFP P (y + 1) P') (M : cM I' P' y g) (V : sI g) : cR I' P' y g q pst t ch :=
  ⟨R.T.ag (cE.hall G),
   M,
   V,
   R.U.ag (G _ (by omega)),
   R.W.ag (fun i hi => (R.K i hi).m) (fun b b1 b2 => F b (by omega)) (fun b b1 b2 => G b (by omega)),
   R.K,
   (congrFun (F y (by omega)) 6).trans R.hq,
   R.q6,
   R.B.ag (congrFun (F y (by omega)) 7) (F _ (by omega))⟩
theorem cOut.hall {I I' : jI} {P P' : jP} {L : jL} {y : Nat} (F : hF I (y + 1) I') (G : hFP P (y + 1) P') : cOut I P L y I' P' L := ⟨fun b hb => F b (by omega), fun b hb => G b (by omega), rfl⟩
/-- the dues of the hall at work change -/
theorem cR.dues {I I' : jI} {P : jP} {y : Nat} {f : sF} {q : Nat} {pst : Nat → sF} {t : Nat} {ch : Nat → Nat} (R : cR I P y f q pst t ch) (F : ∀ b, b ≠ y + 1 + 6 → I' b = I b) : cR I' P y f q pst t ch := by
  refine R.hall (fun b hb => F b (by omega)) hFP.rf ?_ R.V
  obtain ⟨og, H, G⟩ := R.M
  exact ⟨og, H.keep R.V.m G.lt (fun b b1 b2 b3 => F b b3), G⟩
/-- a state saved -/
theorem cR.save {I I' : jI} {P P' : jP} {y : Nat} {f : sF} {q : Nat} {pst : Nat → sF} {t : Nat} {ch : Nat → Nat} (R : cR I P y f q pst t ch) (W : cV I' P' y (min q 5 + 1) (spush f q pst)) (e : I' y = upd (I y) 6 (nI (min q 5 + 1))) (F : ∀ b, b ≠ y → (b < y + 96 ∨ y + 366 ≤ b) → I' b = I b) (G : ∀ b, b ≠ y + 91 → P' b = P b) : cR I' P' y f (min q 5 + 1) (spush f q pst) t ch :=
  ⟨R.T.ag (fun b h1 h2 h3 h4 => G b h1),
   R.M.ag R.V.m (fun b b1 b2 => F b (by omega) (by omega)) (G _ (by omega)),
   R.V,
   R.U.ag (G _ (by omega)),
   W,
   fun i hi => by
     unfold spush
     split
     · exact R.V
     · exact R.K _ (by omega),
   by rw [e, upd_s],
   by omega,
   R.B.ag (by rw [e, upd_n (by decide)]) (F _ (by omega) (by omega))⟩
theorem cOut.save {I I' : jI} {P P' : jP} {L : jL} {y : Nat} (F : ∀ b, b ≠ y → (b < y + 96 ∨ y + 366 ≤ b) → I' b = I b) (G : ∀ b, b ≠ y + 91 → P' b = P b) : cOut I P L y I' P' L := ⟨fun b hb => F b (by omega) (by omega), fun b hb => G b (by omega), rfl⟩
theorem sm1 {v : Int32} (h : (-1 : Int32) ≤ v ∧ v ≤ nI 5) (hn : ¬ v = -1) : nI 0 ≤ v ∧ v ≤ nI 5 := by
  refine ⟨?_, h.2⟩
  have h1 := Int32.le_iff_toInt_le.mp h.1
  refine Int32.le_iff_toInt_le.mpr ?_
  have h2 : v.toInt ≠ (-1 : Int32).toInt := fun z => hn (Int32.toInt_inj.mp z)
  have h3 : (-1 : Int32).toInt = -1 := by decide
  have h4 : (nI 0).toInt = 0 := by decide
  omega
theorem sm2 {v : Int32} (h : v = -1 ∨ (nI 0 ≤ v ∧ v ≤ nI 5)) : (-1 : Int32) ≤ v ∧ v ≤ nI 5 := by
  rcases h with rfl | h
  · decide
  · exact ⟨Int32.le_trans (by decide : (-1 : Int32) ≤ nI 0) h.1, h.2⟩
set_option maxHeartbeats 4000000 in
theorem b_X5_isLoom {p : Program} {l : Launch} {e : Env} {s : State} {m : MethodId} {args : Array Value} {below : List Frame} {meth : Method} {c : Code} {D : va_G} {cA : Nat → ClassId} {N0 : Nat} {Sh : jS} {I : jI} {P : jP} {L : jL} (C : jC p (jRm 1 0 0) s m args meth c D cA N0 cX5_isLoom 3 RX5 1) (hr : meth.sig.returnType = (some .boolean)) {wd sp ca : Int32} : jJ p l e (jRm 1 0 0) s m args below meth c D cA N0 3 (MQ below (jQn D cA N0 Sh (jD (some (.int (bI (decide ((nI 40 ≤ wd ∧ wd ≤ nI 200) ∧ (nI 1 ≤ sp ∧ sp ≤ nI 9) ∧ (nI 0 ≤ ca ∧ ca ≤ nI 99)))))) I P L)) args s 0 0 (fun q => N0 ≤ q)) (fun _ => True) Sh I P L 0 0 0 [some (.int wd), some (.int sp), some (.int ca)] [] := by
  refine jx_iload_n (pc := 0) C dX5_isLoom_0 rfl ?_
  refine jx_bipush (pc := 1) C dX5_isLoom_1 nb_40 ?_
  refine jx_sipush (pc := 3) C dX5_isLoom_3 ns_200 ?_
  refine jx_callD (pc := 6) C (go_X5_37 C  (Nat.le_of_ble_eq_true rfl) dX5_isLoom_6) t_X5_isWithin (by decide) (by decide) ⟨Nat.zero_le _, Nat.zero_le _⟩ ?_
  refine jx_if_eq (pc := 9) C (tgt := 36) dX5_isLoom_9 (by decide) (fun c9 => ?_) (fun c9 => ?_)
  · rw [bI_0, decide_eq_false_iff_not] at c9
    refine jx_iconst (pc := 36) C dX5_isLoom_36 nc_0 ?_
    exact jn_zret (pc := 37) C hr (rfl) (by first | exact jD_i (bI_dec ⟨c9, c19, c29⟩) | exact jD_i (bI_decn (fun z => by first | exact c9 z.1 | exact c19 z.2.1 | exact c29 z.2.2))) dX5_isLoom_37
  · rw [bI_0, decide_eq_false_iff_not, Decidable.not_not] at c9
    refine jx_iload_n (pc := 12) C dX5_isLoom_12 rfl ?_
    refine jx_iconst (pc := 13) C dX5_isLoom_13 nc_1 ?_
    refine jx_bipush (pc := 14) C dX5_isLoom_14 nb_9 ?_
    refine jx_callD (pc := 16) C (go_X5_37 C  (Nat.le_of_ble_eq_true rfl) dX5_isLoom_16) t_X5_isWithin (by decide) (by decide) ⟨Nat.zero_le _, Nat.zero_le _⟩ ?_
    refine jx_if_eq (pc := 19) C (tgt := 36) dX5_isLoom_19 (by decide) (fun c19 => ?_) (fun c19 => ?_)
    · rw [bI_0, decide_eq_false_iff_not] at c19
      refine jx_iconst (pc := 36) C dX5_isLoom_36 nc_0 ?_
      exact jn_zret (pc := 37) C hr (rfl) (by first | exact jD_i (bI_dec ⟨c9, c19, c29⟩) | exact jD_i (bI_decn (fun z => by first | exact c9 z.1 | exact c19 z.2.1 | exact c29 z.2.2))) dX5_isLoom_37
    · rw [bI_0, decide_eq_false_iff_not, Decidable.not_not] at c19
      refine jx_iload_n (pc := 22) C dX5_isLoom_22 rfl ?_
      refine jx_iconst (pc := 23) C dX5_isLoom_23 nc_0 ?_
      refine jx_bipush (pc := 24) C dX5_isLoom_24 nb_99 ?_
      refine jx_callD (pc := 26) C (go_X5_37 C  (Nat.le_of_ble_eq_true rfl) dX5_isLoom_26) t_X5_isWithin (by decide) (by decide) ⟨Nat.zero_le _, Nat.zero_le _⟩ ?_
      refine jx_if_eq (pc := 29) C (tgt := 36) dX5_isLoom_29 (by decide) (fun c29 => ?_) (fun c29 => ?_)
      · rw [bI_0, decide_eq_false_iff_not] at c29
        refine jx_iconst (pc := 36) C dX5_isLoom_36 nc_0 ?_
        exact jn_zret (pc := 37) C hr (rfl) (by first | exact jD_i (bI_dec ⟨c9, c19, c29⟩) | exact jD_i (bI_decn (fun z => by first | exact c9 z.1 | exact c19 z.2.1 | exact c29 z.2.2))) dX5_isLoom_37
      · rw [bI_0, decide_eq_false_iff_not, Decidable.not_not] at c29
        refine jx_iconst (pc := 32) C dX5_isLoom_32 nc_1 ?_
        refine jx_goto (pc := 33) C (tgt := 37) dX5_isLoom_33 (by decide) ?_
        exact jn_zret (pc := 37) C hr (rfl) (by first | exact jD_i (bI_dec ⟨c9, c19, c29⟩) | exact jD_i (bI_decn (fun z => by first | exact c9 z.1 | exact c19 z.2.1 | exact c29 z.2.2))) dX5_isLoom_37
theorem t_X5_isLoom {l : Launch} {D : va_G} {cA : Nat → ClassId} {N0 : Nat} {Sh : jS} {I : jI} {P : jP} {L : jL} {wd sp ca : Int32} : jN l D cA N0 1 yX5_isLoom cX5_isLoom 3 (some .boolean) [.int wd, .int sp, .int ca] Sh I P L (jD (some (.int (bI (decide ((nI 40 ≤ wd ∧ wd ≤ nI 200) ∧ (nI 1 ≤ sp ∧ sp ≤ nI 9) ∧ (nI 0 ≤ ca ∧ ca ≤ nI 99)))))) I P L) := jN_of (by decide) (Nat.le_of_ble_eq_true rfl) (fun _ _ _ _ _ _ _ _ C hr => b_X5_isLoom C hr )
set_option maxHeartbeats 4000000 in
theorem b_X5_weaver {p : Program} {l : Launch} {e : Env} {s : State} {m : MethodId} {args : Array Value} {below : List Frame} {meth : Method} {c : Code} {D : va_G} {cA : Nat → ClassId} {N0 : Nat} {Sh : jS} {I : jI} {P : jP} {L : jL} (C : jC p (jRm 7 1 6) s m args meth c D cA N0 cX5_weaver 3 RX5 7) (hnc : jNc s) (hst : l.stackTraces = false) (htb : ∀ x ∈ c.exceptionTable.toList, False) (hr : meth.sig.returnType = (some .int)) {y : Nat} (S : cS Sh y) {f : sF} {q : Nat} {pst : Nat → sF} {t : Nat} {ch : Nat → Nat} (R : cR I P y f q pst t ch) {wv kv : Int32} : jJ p l e (jRm 7 1 6) s m args below meth c D cA N0 3 (vx_MQ below (jQn D cA N0 Sh (cQ I P L y (sweaver f wv kv) f q pst t ch)) (jXC D cA N0 Sh (cX I P L y en3 (sweaver f wv kv).1 f q pst t ch)) args s 1 6 (fun q => N0 ≤ q)) (fun _ => True) Sh I P L 0 0 0 [some (.ref y), some (.int wv), some (.int kv)] [] := by
  obtain ⟨og, H, G⟩ := R.M
  refine jx_iload_n (pc := 0) C dX5_weaver_0 rfl ?_
  refine jx_iconst (pc := 1) C dX5_weaver_1 nc_0 ?_
  refine jx_iconst (pc := 2) C dX5_weaver_2 nc_5 ?_
  refine jx_callD (pc := 3) C (go_X5_37 C  (Nat.le_of_ble_eq_true rfl) dX5_weaver_3) t_X5_isWithin (by decide) (by decide) ⟨Nat.zero_le _, Nat.zero_le _⟩ ?_
  refine jx_if_ne (pc := 6) C (tgt := 19) dX5_weaver_6 (by decide) (fun c6 => ?_) (fun c6 => ?_)
  · rw [bI_0, decide_eq_false_iff_not, Decidable.not_not] at c6
    refine jx_iload_n (pc := 19) C dX5_weaver_19 rfl ?_
    refine jx_iconst (pc := 20) C dX5_weaver_20 nc_0 ?_
    refine jx_bipush (pc := 21) C dX5_weaver_21 nb_7 ?_
    refine jx_callD (pc := 23) C (go_X5_37 C  (Nat.le_of_ble_eq_true rfl) dX5_weaver_23) t_X5_isWithin (by decide) (by decide) ⟨Nat.zero_le _, Nat.zero_le _⟩ ?_
    refine jx_if_ne (pc := 26) C (tgt := 39) dX5_weaver_26 (by decide) (fun c26 => ?_) (fun c26 => ?_)
    · rw [bI_0, decide_eq_false_iff_not, Decidable.not_not] at c26
      obtain ⟨w, hw5, rfl⟩ := in_N (by decide) c6
      obtain ⟨k, hk7, rfl⟩ := in_N (by decide) c26
      have hw : w < 6 := by omega
      refine jx_aload_n (pc := 39) C dX5_weaver_39 rfl ?_
      refine jx_getP (pc := 40) C kf_X5_10 rfl S.obj R.T.hall dX5_weaver_40 ?_
      refine jx_getP (pc := 43) C kf_X5_59 rfl S.h.hall R.T.h.wa dX5_weaver_43 ?_
      refine jx_iload_n (pc := 46) C dX5_weaver_46 rfl ?_
      refine jx_aald12 (pc := 47) C S.h.wa (by omega) (by decide) (R.T.h.wv hw) dX5_weaver_47 ?_
      refine jx_iload_n (pc := 48) C dX5_weaver_48 rfl ?_
      refine jx_callD (pc := 49) C (go_X5_191 C (S.h.wv hw) (Nat.le_of_ble_eq_true rfl) dX5_weaver_49) (t_X3_property (S.h.wv hw) (by omega)) (by decide) (by decide) ⟨Nat.zero_le _, Nat.zero_le _⟩ ?_
      exact jx_end (jx_roomy (Nat.zero_le 1) (Nat.zero_le 6) (jn_iret (pc := 52) C hr (cQ_id (by unfold sweaver; rw [if_pos c6, if_pos c26, sW_N (by omega), sW_N (by omega), ← H.wv hw (by omega)]) R) dX5_weaver_52))
    · rw [bI_0, decide_eq_false_iff_not] at c26
      exact jx_thA (pc := 29) C hnc hst (by decide) htb (List.mem_of_getElem? (i := 16) rfl) (cX_of (k := 2) (by unfold sweaver; rw [if_pos c6, if_neg c26]) (by decide) rfl R) dX5_weaver_29 dX5_weaver_32 dX5_weaver_33 dX5_weaver_35 dX5_weaver_38
  · rw [bI_0, decide_eq_false_iff_not] at c6
    exact jx_thI (pc := 9) C hnc hst (by decide) htb (List.mem_of_getElem? (i := 0) rfl) (cX_of (k := 1) (by unfold sweaver; rw [if_neg c6]) (by decide) rfl R) dX5_weaver_9 dX5_weaver_12 dX5_weaver_13 dX5_weaver_15 dX5_weaver_18
theorem t_X5_weaver {l : Launch} (hst : l.stackTraces = false) {D : va_G} {cA : Nat → ClassId} {N0 : Nat} {Sh : jS} {I : jI} {P : jP} {L : jL} {y : Nat} (S : cS Sh y) {f : sF} {q : Nat} {pst : Nat → sF} {t : Nat} {ch : Nat → Nat} (R : cR I P y f q pst t ch) {wv kv : Int32} : jXM l D cA N0 7 yX5_weaver cX5_weaver 3 (some .int) [.ref y, .int wv, .int kv] Sh I P L (cQ I P L y (sweaver f wv kv) f q pst t ch) (cX I P L y en3 (sweaver f wv kv).1 f q pst t ch) := jXM_of (by decide) (Nat.le_of_ble_eq_true rfl) (fun _ _ _ _ _ _ _ _ C hnc hr htb => b_X5_weaver C hnc hst htb hr S R)
set_option maxHeartbeats 4000000 in
theorem b_X5_share {p : Program} {l : Launch} {e : Env} {s : State} {m : MethodId} {args : Array Value} {below : List Frame} {meth : Method} {c : Code} {D : va_G} {cA : Nat → ClassId} {N0 : Nat} {Sh : jS} {I : jI} {P : jP} {L : jL} (C : jC p (jRm 7 1 6) s m args meth c D cA N0 cX5_share 3 RX5 7) (hnc : jNc s) (hst : l.stackTraces = false) (htb : ∀ x ∈ c.exceptionTable.toList, False) (hr : meth.sig.returnType = (some .int)) {y : Nat} (S : cS Sh y) {f : sF} {q : Nat} {pst : Nat → sF} {t : Nat} {ch : Nat → Nat} (R : cR I P y f q pst t ch) {wv cv : Int32} : jJ p l e (jRm 7 1 6) s m args below meth c D cA N0 3 (vx_MQ below (jQn D cA N0 Sh (cQ I P L y (sshare f wv cv) f q pst t ch)) (jXC D cA N0 Sh (cX I P L y en3 (sshare f wv cv).1 f q pst t ch)) args s 1 6 (fun q => N0 ≤ q)) (fun _ => True) Sh I P L 0 0 0 [some (.ref y), some (.int wv), some (.int cv)] [] := by
  obtain ⟨og, H, G⟩ := R.M
  refine jx_iload_n (pc := 0) C dX5_share_0 rfl ?_
  refine jx_iconst (pc := 1) C dX5_share_1 nc_m1 ?_
  refine jx_iconst (pc := 2) C dX5_share_2 nc_5 ?_
  refine jx_callD (pc := 3) C (go_X5_37 C  (Nat.le_of_ble_eq_true rfl) dX5_share_3) t_X5_isWithin (by decide) (by decide) ⟨Nat.zero_le _, Nat.zero_le _⟩ ?_
  refine jx_if_eq (pc := 6) C (tgt := 18) dX5_share_6 (by decide) (fun c6 => ?_) (fun c6 => ?_)
  · rw [bI_0, decide_eq_false_iff_not] at c6
    exact jx_thI (pc := 18) C hnc hst (by decide) htb (List.mem_of_getElem? (i := 2) rfl) (by first | exact cX_of (k := 1) (by unfold sshare; rw [if_neg (fun z => c6 (sm2 z.1))]) (by decide) rfl R | exact cX_of (k := 1) (by unfold sshare; rw [if_neg (fun z => c15 z.2)]) (by decide) rfl R) dX5_share_18 dX5_share_21 dX5_share_22 dX5_share_24 dX5_share_27
  · rw [bI_0, decide_eq_false_iff_not, Decidable.not_not] at c6
    refine jx_iload_n (pc := 9) C dX5_share_9 rfl ?_
    refine jx_iconst (pc := 10) C dX5_share_10 nc_0 ?_
    refine jx_iconst (pc := 11) C dX5_share_11 nc_3 ?_
    refine jx_callD (pc := 12) C (go_X5_37 C  (Nat.le_of_ble_eq_true rfl) dX5_share_12) t_X5_isWithin (by decide) (by decide) ⟨Nat.zero_le _, Nat.zero_le _⟩ ?_
    refine jx_if_ne (pc := 15) C (tgt := 28) dX5_share_15 (by decide) (fun c15 => ?_) (fun c15 => ?_)
    · rw [bI_0, decide_eq_false_iff_not, Decidable.not_not] at c15
      obtain ⟨k, hk3, rfl⟩ := in_N (by decide) c15
      refine jx_iload_n (pc := 28) C dX5_share_28 rfl ?_
      refine jx_iconst (pc := 29) C dX5_share_29 nc_m1 ?_
      refine jx_icmp_ne (pc := 30) C (tgt := 47) dX5_share_30 (by decide) (fun c30 => ?_) (fun c30 => ?_)
      · have c6b : nI 0 ≤ wv ∧ wv ≤ nI 5 := sm1 c6 c30
        obtain ⟨w, hw5, rfl⟩ := in_N (by decide) c6b
        have hw : w < 6 := by omega
        refine jx_aload_n (pc := 47) C dX5_share_47 rfl ?_
        refine jx_getP (pc := 48) C kf_X5_10 rfl S.obj R.T.hall dX5_share_48 ?_
        refine jx_getP (pc := 51) C kf_X5_59 rfl S.h.hall R.T.h.wa dX5_share_51 ?_
        refine jx_iload_n (pc := 54) C dX5_share_54 rfl ?_
        refine jx_aald12 (pc := 55) C S.h.wa (by omega) (by decide) (R.T.h.wv hw) dX5_share_55 ?_
        refine jx_getP (pc := 56) C kf_X5_79 rfl (S.h.wv hw) (R.T.h.wy hw) dX5_share_56 ?_
        refine jx_iload_n (pc := 59) C dX5_share_59 rfl ?_
        refine jx_callD (pc := 60) C (go_X5_83 C (S.h.wy hw) (Nat.le_of_ble_eq_true rfl) dX5_share_60) (t_X4_of (S.h.wy hw) (S.h.wg hw) (R.T.h.wg hw) (by omega)) (by decide) (by decide) ⟨Nat.zero_le _, Nat.zero_le _⟩ ?_
        exact jx_end (jx_roomy (Nat.zero_le 1) (Nat.zero_le 6) (jn_iret (pc := 63) C hr (by
          first
            | exact cQ_id (by unfold sshare; rw [if_pos ⟨Or.inl c30, c15⟩, if_pos c30, sW_N (by omega), ← H.st (by omega)]) R
            | exact cQ_id (by unfold sshare; rw [if_pos ⟨Or.inr c6b, c15⟩, if_neg c30, sW_N (by omega), sW_N (by omega), ← H.sh hw (by omega)]) R) dX5_share_63))
      · refine jx_aload_n (pc := 33) C dX5_share_33 rfl ?_
        refine jx_getP (pc := 34) C kf_X5_10 rfl S.obj R.T.hall dX5_share_34 ?_
        refine jx_getP (pc := 37) C kf_X5_100 rfl S.h.hall R.T.h.sk dX5_share_37 ?_
        refine jx_iload_n (pc := 40) C dX5_share_40 rfl ?_
        refine jx_callD (pc := 41) C (go_X5_83 C S.h.sk (Nat.le_of_ble_eq_true rfl) dX5_share_41) (t_X4_of S.h.sk S.h.sg R.T.h.sg (by omega)) (by decide) (by decide) ⟨Nat.zero_le _, Nat.zero_le _⟩ ?_
        refine jx_goto (pc := 44) C (tgt := 63) dX5_share_44 (by decide) ?_
        exact jx_end (jx_roomy (Nat.zero_le 1) (Nat.zero_le 6) (jn_iret (pc := 63) C hr (by
          first
            | exact cQ_id (by unfold sshare; rw [if_pos ⟨Or.inl c30, c15⟩, if_pos c30, sW_N (by omega), ← H.st (by omega)]) R
            | exact cQ_id (by unfold sshare; rw [if_pos ⟨Or.inr c6b, c15⟩, if_neg c30, sW_N (by omega), sW_N (by omega), ← H.sh hw (by omega)]) R) dX5_share_63))
    · rw [bI_0, decide_eq_false_iff_not] at c15
      exact jx_thI (pc := 18) C hnc hst (by decide) htb (List.mem_of_getElem? (i := 2) rfl) (by first | exact cX_of (k := 1) (by unfold sshare; rw [if_neg (fun z => c6 (sm2 z.1))]) (by decide) rfl R | exact cX_of (k := 1) (by unfold sshare; rw [if_neg (fun z => c15 z.2)]) (by decide) rfl R) dX5_share_18 dX5_share_21 dX5_share_22 dX5_share_24 dX5_share_27
theorem t_X5_share {l : Launch} (hst : l.stackTraces = false) {D : va_G} {cA : Nat → ClassId} {N0 : Nat} {Sh : jS} {I : jI} {P : jP} {L : jL} {y : Nat} (S : cS Sh y) {f : sF} {q : Nat} {pst : Nat → sF} {t : Nat} {ch : Nat → Nat} (R : cR I P y f q pst t ch) {wv cv : Int32} : jXM l D cA N0 7 yX5_share cX5_share 3 (some .int) [.ref y, .int wv, .int cv] Sh I P L (cQ I P L y (sshare f wv cv) f q pst t ch) (cX I P L y en3 (sshare f wv cv).1 f q pst t ch) := jXM_of (by decide) (Nat.le_of_ble_eq_true rfl) (fun _ _ _ _ _ _ _ _ C hnc hr htb => b_X5_share C hnc hst htb hr S R)
set_option maxHeartbeats 4000000 in
theorem b_X5_count {p : Program} {l : Launch} {e : Env} {s : State} {m : MethodId} {args : Array Value} {below : List Frame} {meth : Method} {c : Code} {D : va_G} {cA : Nat → ClassId} {N0 : Nat} {Sh : jS} {I : jI} {P : jP} {L : jL} (C : jC p (jRm 7 1 6) s m args meth c D cA N0 cX5_count 2 RX5 7) (hnc : jNc s) (hst : l.stackTraces = false) (htb : ∀ x ∈ c.exceptionTable.toList, False) (hr : meth.sig.returnType = (some .int)) {y : Nat} (S : cS Sh y) {f : sF} {q : Nat} {pst : Nat → sF} {t : Nat} {ch : Nat → Nat} (R : cR I P y f q pst t ch) {kv : Int32} : jJ p l e (jRm 7 1 6) s m args below meth c D cA N0 2 (vx_MQ below (jQn D cA N0 Sh (cQ I P L y (scount f (nI q) kv) f q pst t ch)) (jXC D cA N0 Sh (cX I P L y enA (scount f (nI q) kv).1 f q pst t ch)) args s 1 6 (fun q => N0 ≤ q)) (fun _ => True) Sh I P L 0 0 0 [some (.ref y), some (.int kv)] [] := by
  refine jx_iload_n (pc := 0) C dX5_count_0 rfl ?_
  refine jx_iconst (pc := 1) C dX5_count_1 nc_0 ?_
  refine jx_bipush (pc := 2) C dX5_count_2 nb_11 ?_
  refine jx_callD (pc := 4) C (go_X5_37 C  (Nat.le_of_ble_eq_true rfl) dX5_count_4) t_X5_isWithin (by decide) (by decide) ⟨Nat.zero_le _, Nat.zero_le _⟩ ?_
  refine jx_if_ne (pc := 7) C (tgt := 20) dX5_count_7 (by decide) (fun c7 => ?_) (fun c7 => ?_)
  · rw [bI_0, decide_eq_false_iff_not, Decidable.not_not] at c7
    obtain ⟨k, hk3, rfl⟩ := in_N (by decide) c7
    refine jx_aload_n (pc := 20) C dX5_count_20 rfl ?_
    refine jx_iload_n (pc := 21) C dX5_count_21 rfl ?_
    refine jx_callD (pc := 22) C (go_X5_218 C S.obj (Nat.le_of_ble_eq_true rfl) dX5_count_22) (t_X5_counted S R.T R.M R.V R.hq (by omega)) (by decide) (by decide) ⟨Nat.zero_le _, Nat.zero_le _⟩ ?_
    exact jx_end (jx_roomy (Nat.zero_le 1) (Nat.zero_le 6) (jn_iret (pc := 25) C hr (cQ_id (by unfold scount; rw [if_pos c7, sW_N (by omega)]) R) dX5_count_25))
  · rw [bI_0, decide_eq_false_iff_not] at c7
    exact jx_thA (pc := 10) C hnc hst (by decide) htb (List.mem_of_getElem? (i := 20) rfl) (cX_of (k := 1) (by unfold scount; rw [if_neg c7]) (by decide) rfl R) dX5_count_10 dX5_count_13 dX5_count_14 dX5_count_16 dX5_count_19
theorem t_X5_count {l : Launch} (hst : l.stackTraces = false) {D : va_G} {cA : Nat → ClassId} {N0 : Nat} {Sh : jS} {I : jI} {P : jP} {L : jL} {y : Nat} (S : cS Sh y) {f : sF} {q : Nat} {pst : Nat → sF} {t : Nat} {ch : Nat → Nat} (R : cR I P y f q pst t ch) {kv : Int32} : jXM l D cA N0 7 yX5_count cX5_count 2 (some .int) [.ref y, .int kv] Sh I P L (cQ I P L y (scount f (nI q) kv) f q pst t ch) (cX I P L y enA (scount f (nI q) kv).1 f q pst t ch) := jXM_of (by decide) (Nat.le_of_ble_eq_true rfl) (fun _ _ _ _ _ _ _ _ C hnc hr htb => b_X5_count C hnc hst htb hr S R)
set_option maxHeartbeats 4000000 in
theorem b_X5_orderOf {p : Program} {l : Launch} {e : Env} {s : State} {m : MethodId} {args : Array Value} {below : List Frame} {meth : Method} {c : Code} {D : va_G} {cA : Nat → ClassId} {N0 : Nat} {Sh : jS} {I : jI} {P : jP} {L : jL} (C : jC p (jRm 7 1 6) s m args meth c D cA N0 cX5_orderOf 3 RX5 7) (hnc : jNc s) (hst : l.stackTraces = false) (htb : ∀ x ∈ c.exceptionTable.toList, False) (hr : meth.sig.returnType = (some .int)) {y : Nat} (S : cS Sh y) {f : sF} {q : Nat} {pst : Nat → sF} {t : Nat} {ch : Nat → Nat} (R : cR I P y f q pst t ch) {pv kv : Int32} : jJ p l e (jRm 7 1 6) s m args below meth c D cA N0 3 (vx_MQ below (jQn D cA N0 Sh (cQ I P L y (sorderOf f pv kv) f q pst t ch)) (jXC D cA N0 Sh (cX I P L y enA (sorderOf f pv kv).1 f q pst t ch)) args s 1 6 (fun q => N0 ≤ q)) (fun _ => True) Sh I P L 0 0 0 [some (.ref y), some (.int pv), some (.int kv)] [] := by
  obtain ⟨og, H, G⟩ := R.M
  refine jx_iload_n (pc := 0) C dX5_orderOf_0 rfl ?_
  refine jx_if_lt (pc := 1) C (tgt := 14) dX5_orderOf_1 (by decide) (fun c1 => ?_) (fun c1 => ?_)
  · exact jx_thA (pc := 14) C hnc hst (by decide) htb (List.mem_of_getElem? (i := 17) rfl) (by refine cX_of (k := 1) ?_ (by decide) rfl R; unfold sorderOf; refine congrArg Prod.fst (if_neg ?_); first | exact fun z => z.1 c1 | exact fun z => c11 z.2) dX5_orderOf_14 dX5_orderOf_17 dX5_orderOf_18 dX5_orderOf_20 dX5_orderOf_23
  · refine jx_iload_n (pc := 4) C dX5_orderOf_4 rfl ?_
    refine jx_iconst (pc := 5) C dX5_orderOf_5 nc_0 ?_
    refine jx_bipush (pc := 6) C dX5_orderOf_6 nb_8 ?_
    refine jx_callD (pc := 8) C (go_X5_37 C  (Nat.le_of_ble_eq_true rfl) dX5_orderOf_8) t_X5_isWithin (by decide) (by decide) ⟨Nat.zero_le _, Nat.zero_le _⟩ ?_
    refine jx_if_ne (pc := 11) C (tgt := 24) dX5_orderOf_11 (by decide) (fun c11 => ?_) (fun c11 => ?_)
    · rw [bI_0, decide_eq_false_iff_not, Decidable.not_not] at c11
      by_cases c5 : f 5 ≤ pv
      · refine jx_aload_n (pc := 24) C dX5_orderOf_24 rfl ?_
        refine jx_getP (pc := 25) C kf_X5_10 rfl S.obj R.T.hall dX5_orderOf_25 ?_
        refine jx_iload_n (pc := 28) C dX5_orderOf_28 rfl ?_
        refine jx_iload_n (pc := 29) C dX5_orderOf_29 rfl ?_
        refine jx_callD (pc := 30) C (go_X5_196 C S.h.hall (Nat.le_of_ble_eq_true rfl) dX5_orderOf_30) (t_X0_orderProperty_n S.h R.T.h G H R.V (fun z => by have := R.V.1.1; rw [this] at c5; exact absurd z.2 (i32_nlt.mpr c5))) (by decide) (by decide) ⟨Nat.zero_le _, Nat.zero_le _⟩ ?_
        exact jx_end (jx_roomy (Nat.zero_le 1) (Nat.zero_le 6) (jn_iret (pc := 33) C hr (cQ_id (by unfold sorderOf; rw [if_pos ⟨c1, c11⟩, if_pos c5]) R) dX5_orderOf_33))
      · have cp : 0 ≤ pv ∧ pv < nI (smany f) := ⟨i32_nlt.mp c1, by have := R.V.1.1; rw [this] at c5; exact i32_nle.mp c5⟩
        obtain ⟨o, ho, rfl⟩ := in_No (by have := R.V.m; omega) cp
        obtain ⟨k, hk8, rfl⟩ := in_N (by decide) c11
        refine jx_aload_n (pc := 24) C dX5_orderOf_24 rfl ?_
        refine jx_getP (pc := 25) C kf_X5_10 rfl S.obj R.T.hall dX5_orderOf_25 ?_
        refine jx_iload_n (pc := 28) C dX5_orderOf_28 rfl ?_
        refine jx_iload_n (pc := 29) C dX5_orderOf_29 rfl ?_
        refine jx_callD (pc := 30) C (go_X5_196 C S.h.hall (Nat.le_of_ble_eq_true rfl) dX5_orderOf_30) (t_X0_orderProperty_s S.h R.T.h G H R.V ho (by omega)) (by decide) (by decide) ⟨Nat.zero_le _, Nat.zero_le _⟩ ?_
        exact jx_end (jx_roomy (Nat.zero_le 1) (Nat.zero_le 6) (jn_iret (pc := 33) C hr (cQ_id (by unfold sorderOf; rw [if_pos ⟨c1, c11⟩, if_neg c5, sW_N (by have := R.V.m; omega), sW_N (by omega)]) R) dX5_orderOf_33))
    · rw [bI_0, decide_eq_false_iff_not] at c11
      exact jx_thA (pc := 14) C hnc hst (by decide) htb (List.mem_of_getElem? (i := 17) rfl) (by refine cX_of (k := 1) ?_ (by decide) rfl R; unfold sorderOf; refine congrArg Prod.fst (if_neg ?_); first | exact fun z => z.1 c1 | exact fun z => c11 z.2) dX5_orderOf_14 dX5_orderOf_17 dX5_orderOf_18 dX5_orderOf_20 dX5_orderOf_23
theorem t_X5_orderOf {l : Launch} (hst : l.stackTraces = false) {D : va_G} {cA : Nat → ClassId} {N0 : Nat} {Sh : jS} {I : jI} {P : jP} {L : jL} {y : Nat} (S : cS Sh y) {f : sF} {q : Nat} {pst : Nat → sF} {t : Nat} {ch : Nat → Nat} (R : cR I P y f q pst t ch) {pv kv : Int32} : jXM l D cA N0 7 yX5_orderOf cX5_orderOf 3 (some .int) [.ref y, .int pv, .int kv] Sh I P L (cQ I P L y (sorderOf f pv kv) f q pst t ch) (cX I P L y enA (sorderOf f pv kv).1 f q pst t ch) := jXM_of (by decide) (Nat.le_of_ble_eq_true rfl) (fun _ _ _ _ _ _ _ _ C hnc hr htb => b_X5_orderOf C hnc hst htb hr S R)
