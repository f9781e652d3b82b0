/-! CHANGES of the class's state, 1 -/
theorem cQ_do {I I' : jI} {P P' : jP} {L L' : jL} {y : Nat} {S : Nat × Int32 × sF} {r : Int32} {g : sF} {q : Nat} {pst : Nat → sF} {t : Nat} {ch : Nat → Nat} (e : S = (0, r, g)) (R : cR I' P' y g q pst t ch) (F : cOut I P L y I' P' L') : cQ I P L y (S.1, S.2.1) S.2.2 q pst t ch (some (.int r)) I' P' L' := by
  subst e
  exact ⟨rfl, rfl, R, F⟩
theorem sI_gen {f g : sF} (h : sI f) (e5 : g 5 = f 5) (eo : ∀ q k, q < smany f → k < 12 → g (90 + 12 * q + k) = f (90 + 12 * q + k)) (sp : ∀ w, w < 6 → g (18 + 12 * w + 1) = nI (sspd g w) ∧ sspd g w ≤ 9) (hv : sV g) : sI g := by
  have em : smany g = smany f := by unfold smany; rw [e5]
  refine sI_of h ⟨by rw [e5, em]; exact h.1.1, by rw [em]; exact h.1.2.1, fun o ho => ?_, sp⟩ hv e5 eo
  rw [em] at ho
  have e1 := eo o 1 ho (by decide)
  unfold scol
  rw [e1]
  exact h.1.2.2.1 o ho
theorem sI_sp {f g : sF} (h : sI f) (e : ∀ w, w < 6 → g (18 + 12 * w + 1) = f (18 + 12 * w + 1)) : ∀ w, w < 6 → g (18 + 12 * w + 1) = nI (sspd g w) ∧ sspd g w ≤ 9 := fun w hw => by
  unfold sspd
  rw [e w hw]
  exact h.1.2.2.2 w hw
/-- a place of the weavers' yarn or of the stock -/
theorem sI_yarn {f : sF} {k : Nat} {v : Int32} (h : sI f) (hk : (14 ≤ k ∧ k < 18) ∨ ∃ w c, w < 6 ∧ c < 4 ∧ k = 18 + 12 * w + (8 + c)) : sI (upd f k v) := by
  have n1 : ∀ w i, w < 6 → i < 8 → 18 + 12 * w + i ≠ k := by
    intro w i hw hi
    rcases hk with z | ⟨w2, c2, z1, z2, rfl⟩ <;> omega
  have n2 : ∀ j, j < 14 → j ≠ k := by
    intro j hj
    rcases hk with z | ⟨w2, c2, z1, z2, rfl⟩ <;> omega
  have n3 : ∀ q i, i < 12 → 90 + 12 * q + i ≠ k := by
    intro q i hi
    rcases hk with z | ⟨w2, c2, z1, z2, rfl⟩ <;> omega
  exact sI_gen h (upd_n (n2 5 (by decide))) (fun q i hq hi => upd_n (n3 q i hi)) (sI_sp h (fun w hw => upd_n (n1 w 1 hw (by decide)))) (sV_of h.2.1 (upd_n (n2 0 (by decide))) (upd_n (n2 3 (by decide))) (fun w hw => upd_n (n1 w 0 hw (by decide))) ⟨upd_n (n2 10 (by decide)), upd_n (n2 11 (by decide)), fun w hw => ⟨upd_n (n1 w 5 hw (by decide)), upd_n (n1 w 6 hw (by decide))⟩⟩)
theorem sI_loom {f : sF} {w : Nat} {wd sp ca : Int32} (h : sI f) (hw : w < 6) (hd : wd = nI 0 ∨ nI 40 ≤ wd) (hs : nI 0 ≤ sp ∧ sp ≤ nI 9) : sI (upd (upd (upd f (18 + 12 * w + 0) wd) (18 + 12 * w + 1) sp) (18 + 12 * w + 2) ca) := by
  have n3 : ∀ j, (j < 18 ∨ 90 ≤ j) → upd (upd (upd f (18 + 12 * w + 0) wd) (18 + 12 * w + 1) sp) (18 + 12 * w + 2) ca j = f j := fun j hj => by rw [upd_n (by omega), upd_n (by omega), upd_n (by omega)]
  have n5 : ∀ v i, v < 6 → 3 ≤ i → i < 12 → upd (upd (upd f (18 + 12 * w + 0) wd) (18 + 12 * w + 1) sp) (18 + 12 * w + 2) ca (18 + 12 * v + i) = f (18 + 12 * v + i) := fun v i hv h3 h9 => by rw [upd_n (by omega), upd_n (by omega), upd_n (by omega)]
  refine sI_gen h (n3 _ (by decide)) (fun q k hq hk => n3 _ (by omega)) (fun v hv => ?_) ?_
  · unfold sspd
    rw [upd_n (by omega)]
    by_cases e : v = w
    · subst e
      rw [upd_s]
      obtain ⟨k, hk, rfl⟩ := in_N (by decide) hs
      rw [nI_clamp (by omega)]
      exact ⟨rfl, hk⟩
    · rw [upd_n (by omega), upd_n (by omega)]
      exact h.1.2.2.2 v hv
  · obtain ⟨a1, a2, a3, a4, a5⟩ := h.2.1
    refine ⟨by rw [n3 0 (by decide)]; exact a1, by rw [n3 3 (by decide)]; exact a2, fun v hv => ?_, by rw [n3 10 (by decide), a4]; exact (ssum_c (fun v hv => n5 v 5 hv (by decide) (by decide))).symm, by rw [n3 11 (by decide), a5]; exact (ssum_c (fun v hv => n5 v 6 hv (by decide) (by decide))).symm⟩
    rw [upd_n (by omega), upd_n (by omega)]
    by_cases e : v = w
    · subst e
      rw [upd_s]; exact hd
    · rw [upd_n (by omega)]; exact a3 v hv
theorem loom_fin {I I1 : jI} {P P1 : jP} {L L1 : jL} {y : Nat} {f : sF} {q : Nat} {pst : Nat → sF} {t : Nat} {ch : Nat → Nat} (R1 : cR I1 P1 y f q pst t ch) (O1 : cOut I P L y I1 P1 L1) {w : Nat} (hw : w < 6) {wd sp ca s1 c1 : Int32} (c6 : nI 0 ≤ nI w ∧ nI w ≤ nI 5) (cL : wd = 0 ∨ ((nI 40 ≤ wd ∧ wd ≤ nI 200) ∧ (nI 1 ≤ sp ∧ sp ≤ nI 9) ∧ (nI 0 ≤ ca ∧ ca ≤ nI 99))) (hs : s1 = if wd = 0 then nI 0 else sp) (hc : c1 = if wd = 0 then nI 0 else ca) :
    cQ I P L y ((sloom f (nI w) wd sp ca).1, (sloom f (nI w) wd sp ca).2.1) (sloom f (nI w) wd sp ca).2.2 q pst t ch (some (.int (I1 (y + 1 + 7 + 3 * w) 1))) (jst (jst (jst I1 (y + 1 + 7 + 3 * w) 1 wd) (y + 1 + 7 + 3 * w) 2 s1) (y + 1 + 7 + 3 * w) 3 c1) P1 L1 := by
  obtain ⟨og, H, G⟩ := R1.M
  have hm := R1.V.m
  have F : hF I1 (y + 1) (jst (jst (jst I1 (y + 1 + 7 + 3 * w) 1 wd) (y + 1 + 7 + 3 * w) 2 s1) (y + 1 + 7 + 3 * w) 3 c1) := ((hF.rf.st (by omega)).st (by omega)).st (by omega)
  have H3 := ((H.pw hm G.lt hw (k := 0) (by decide) (v := wd)).pw (by rw [smany_u (by omega)]; exact hm) G.lt hw (k := 1) (by decide) (v := s1)).pw (by rw [smany_u (by omega), smany_u (by omega)]; exact hm) G.lt hw (k := 2) (by decide) (v := c1)
  refine cQ_do (g := upd (upd (upd f (18 + 12 * w + 0) wd) (18 + 12 * w + 1) s1) (18 + 12 * w + 2) c1) ?_ (R1.hall F hFP.rf ⟨og, H3, G⟩ (sI_loom R1.V hw ?_ ?_)) (O1.tr (cOut.hall F hFP.rf))
  · unfold sloom
    rw [if_pos c6, if_pos cL, sW_N (by omega), ← hs, ← hc, H.wv hw (by decide : 0 < 8)]
  · rcases cL with z | z
    · exact Or.inl z
    · exact Or.inr z.1.1
  · rw [hs]
    split
    · decide
    · rename_i z
      have z2 := cL.resolve_left z
      exact ⟨Int32.le_trans (by decide : nI 0 ≤ nI 1) z2.2.1.1, z2.2.1.2⟩
theorem yarn_hall {I1 : jI} {P1 : jP} {y : Nat} {f : sF} {q : Nat} {pst : Nat → sF} {t : Nat} {ch : Nat → Nat} (R1 : cR I1 P1 y f q pst t ch) {w k : Nat} (hw : w < 6) (hk : k < 4) {v : Int32} : cR (jst I1 (y + 1 + 9 + 3 * w) k v) P1 y (upd f (18 + 12 * w + (8 + k)) v) q pst t ch ∧ hF I1 (y + 1) (jst I1 (y + 1 + 9 + 3 * w) k v) := by
  obtain ⟨og, H, G⟩ := R1.M
  have F : hF I1 (y + 1) (jst I1 (y + 1 + 9 + 3 * w) k v) := hF.rf.st (by omega)
  exact ⟨R1.hall F hFP.rf ⟨og, H.ps R1.V.m G.lt hw hk, G⟩ (sI_yarn R1.V (Or.inr ⟨w, k, hw, hk, rfl⟩)), F⟩
theorem cR.sh {I1 : jI} {P1 : jP} {y : Nat} {f : sF} {q : Nat} {pst : Nat → sF} {t : Nat} {ch : Nat → Nat} (R1 : cR I1 P1 y f q pst t ch) {w k : Nat} (hw : w < 6) (hk : k < 4) : I1 (y + 1 + 9 + 3 * w) k = f (18 + 12 * w + (8 + k)) := by
  obtain ⟨og, H, G⟩ := R1.M
  exact H.sh hw hk
theorem yarn_fin {I I1 : jI} {P P1 : jP} {L L1 : jL} {y : Nat} {f : sF} {q : Nat} {pst : Nat → sF} {t : Nat} {ch : Nat → Nat} (R1 : cR I1 P1 y f q pst t ch) (O1 : cOut I P L y I1 P1 L1) {w k : Nat} (hw : w < 6) (hk : k < 4) {g : Int32} (c6 : (nI 0 ≤ nI w ∧ nI w ≤ nI 5) ∧ (nI 0 ≤ nI k ∧ nI k ≤ nI 3)) (c2 : -9999 ≤ g ∧ g ≤ nI 9999) (c3 : nI 0 ≤ f (18 + 12 * w + (8 + k)) + g ∧ f (18 + 12 * w + (8 + k)) + g ≤ nI 9999) :
    cQ I P L y ((syarn f (nI w) (nI k) g).1, (syarn f (nI w) (nI k) g).2.1) (syarn f (nI w) (nI k) g).2.2 q pst t ch (some (.int (I1 (y + 1 + 9 + 3 * w) k + g))) (jst I1 (y + 1 + 9 + 3 * w) k (I1 (y + 1 + 9 + 3 * w) k + g)) P1 L1 := by
  rw [R1.sh hw hk]
  obtain ⟨R2, F⟩ := yarn_hall R1 hw hk (v := f (18 + 12 * w + (8 + k)) + g)
  exact cQ_do (by unfold syarn; rw [if_pos c6, if_pos c2, sW_N (by omega), sW_N (by omega), if_pos c3]) R2 (O1.tr (cOut.hall F hFP.rf))
theorem store_fin {I I1 : jI} {P P1 : jP} {L L1 : jL} {y : Nat} {f : sF} {q : Nat} {pst : Nat → sF} {t : Nat} {ch : Nat → Nat} (R1 : cR I1 P1 y f q pst t ch) (O1 : cOut I P L y I1 P1 L1) {k : Nat} (hk : k < 4) {g : Int32} (c6 : nI 0 ≤ nI k ∧ nI k ≤ nI 3) (c2 : nI 1 ≤ g ∧ g ≤ nI 9999) (c3 : f (14 + k) + g ≤ 99999) :
    cQ I P L y ((sstore f (nI k) g).1, (sstore f (nI k) g).2.1) (sstore f (nI k) g).2.2 q pst t ch (some (.int (I1 (y + 1 + 4) k + g))) (jst I1 (y + 1 + 4) k (I1 (y + 1 + 4) k + g)) P1 L1 := by
  obtain ⟨og, H, G⟩ := R1.M
  rw [H.st hk]
  have F : hF I1 (y + 1) (jst I1 (y + 1 + 4) k (f (14 + k) + g)) := hF.rf.st (by omega)
  exact cQ_do (by unfold sstore; rw [if_pos c6, if_pos c2, sW_N (by omega), if_pos c3]) (R1.hall F hFP.rf ⟨og, H.pt R1.V.m G.lt hk, G⟩ (sI_yarn R1.V (Or.inl (by omega)))) (O1.tr (cOut.hall F hFP.rf))
theorem give_fin {I I1 : jI} {P P1 : jP} {L L1 : jL} {y : Nat} {f : sF} {q : Nat} {pst : Nat → sF} {t : Nat} {ch : Nat → Nat} (R1 : cR I1 P1 y f q pst t ch) (O1 : cOut I P L y I1 P1 L1) {w v k : Nat} (hw : w < 6) (hv : v < 6) (hk : k < 4) (hwv : w ≠ v) {g : Int32} (c6 : (nI 0 ≤ nI w ∧ nI w ≤ nI 5) ∧ (nI 0 ≤ nI v ∧ nI v ≤ nI 5) ∧ (nI 0 ≤ nI k ∧ nI k ≤ nI 3)) (c2 : ¬ nI w = nI v ∧ (nI 1 ≤ g ∧ g ≤ nI 9999)) (c3 : g ≤ f (18 + 12 * w + (8 + k)) ∧ f (18 + 12 * v + (8 + k)) + g ≤ nI 9999) :
    cQ I P L y ((sgive f (nI w) (nI v) (nI k) g).1, (sgive f (nI w) (nI v) (nI k) g).2.1) (sgive f (nI w) (nI v) (nI k) g).2.2 q pst t ch (some (.int ((jst I1 (y + 1 + 9 + 3 * w) k (I1 (y + 1 + 9 + 3 * w) k + -g)) (y + 1 + 9 + 3 * v) k + g))) (jst (jst I1 (y + 1 + 9 + 3 * w) k (I1 (y + 1 + 9 + 3 * w) k + -g)) (y + 1 + 9 + 3 * v) k ((jst I1 (y + 1 + 9 + 3 * w) k (I1 (y + 1 + 9 + 3 * w) k + -g)) (y + 1 + 9 + 3 * v) k + g)) P1 L1 := by
  rw [R1.sh hw hk]
  obtain ⟨R2, F2⟩ := yarn_hall R1 hw hk (v := f (18 + 12 * w + (8 + k)) + -g)
  rw [R2.sh hv hk, upd_n (by omega)]
  obtain ⟨R3, F3⟩ := yarn_hall R2 hv hk (v := f (18 + 12 * v + (8 + k)) + g)
  exact cQ_do (by unfold sgive; rw [if_pos c6, if_pos c2, sW_N (by omega), sW_N (by omega), sW_N (by omega), if_pos c3]) R3 ((O1.tr (cOut.hall F2 hFP.rf)).tr (cOut.hall F3 hFP.rf))
set_option maxHeartbeats 4000000 in
theorem b_X5_evenness {p : Program} {l : Launch} {e : Env} {s : State} {m : MethodId} {args : Array Value} {below : List Frame} {meth : Method} {c : Code} {D : va_G} {cA : Nat → ClassId} {N0 : Nat} {Sh : jS} {I : jI} {P : jP} {L : jL} (C : jC p (jRm 2 0 0) s m args meth c D cA N0 cX5_evenness 1 RX5 2) (hr : meth.sig.returnType = (some .double)) {y : Nat} (S : cS Sh y) {f : sF} {q : Nat} {pst : Nat → sF} {t : Nat} {ch : Nat → Nat} (R : cR I P y f q pst t ch) (he : ∀ w, w < 6 → 0 ≤ f (18 + 12 * w + 4)) : jJ p l e (jRm 2 0 0) s m args below meth c D cA N0 1 (MQ below (jQn D cA N0 Sh (jD (some (.double (seven f))) I P L)) args s 0 0 (fun q => N0 ≤ q)) (fun _ => True) Sh I P L 0 0 0 [some (.ref y)] [] := by
  obtain ⟨og, H, G⟩ := R.M
  refine jx_aload_n (pc := 0) C dX5_evenness_0 rfl ?_
  refine jx_getP (pc := 1) C kf_X5_10 rfl S.obj R.T.hall dX5_evenness_1 ?_
  refine jx_callD (pc := 4) C (go_X5_241 C S.h.hall (Nat.le_of_ble_eq_true rfl) dX5_evenness_4) (t_X0_earnedRatio S.h R.T.h G H R.V he) (by decide) (by decide) ⟨Nat.zero_le _, Nat.zero_le _⟩ ?_
  exact jn_dret (pc := 7) C hr (jD_r) dX5_evenness_7
theorem t_X5_evenness {l : Launch} {D : va_G} {cA : Nat → ClassId} {N0 : Nat} {Sh : jS} {I : jI} {P : jP} {L : jL} {y : Nat} (S : cS Sh y) {f : sF} {q : Nat} {pst : Nat → sF} {t : Nat} {ch : Nat → Nat} (R : cR I P y f q pst t ch) (he : ∀ w, w < 6 → 0 ≤ f (18 + 12 * w + 4)) : jN l D cA N0 2 yX5_evenness cX5_evenness 1 (some .double) [.ref y] Sh I P L (jD (some (.double (seven f))) I P L) := jN_of (by decide) (Nat.le_of_ble_eq_true rfl) (fun _ _ _ _ _ _ _ _ C hr => b_X5_evenness C hr S R he)
set_option maxHeartbeats 4000000 in
theorem b_X5_loom {p : Program} {l : Launch} {e : Env} {s : State} {m : MethodId} {args : Array Value} {below : List Frame} {meth : Method} {c : Code} {D : va_G} {cA : Nat → ClassId} {N0 : Nat} {Sh : jS} {I : jI} {P : jP} {L : jL} (C : jC p (jRm 7 1 6) s m args meth c D cA N0 cX5_loom 7 RX5 7) (hnc : jNc s) (hst : l.stackTraces = false) (htb : ∀ x ∈ c.exceptionTable.toList, False) (hr : meth.sig.returnType = (some .int)) {y : Nat} (S : cS Sh y) {f : sF} {q : Nat} {pst : Nat → sF} {t : Nat} {ch : Nat → Nat} (R : cR I P y f q pst t ch) {wv wd sp ca : Int32} : jJ p l e (jRm 7 1 6) s m args below meth c D cA N0 7 (vx_MQ below (jQn D cA N0 Sh (cQ I P L y ((sloom f wv wd sp ca).1, (sloom f wv wd sp ca).2.1) (sloom f wv wd sp ca).2.2 (min q 5 + 1) (spush f q pst) t ch)) (jXC D cA N0 Sh (cX I P L y en3 (sloom f wv wd sp ca).1 f q pst t ch)) args s 1 6 (fun q => N0 ≤ q)) (fun _ => True) Sh I P L 0 0 0 [some (.ref y), some (.int wv), some (.int wd), some (.int sp), some (.int ca), none, none] [] := by
  obtain ⟨og, H, G⟩ := R.M
  refine jx_iload_n (pc := 0) C dX5_loom_0 rfl ?_
  refine jx_iconst (pc := 1) C dX5_loom_1 nc_0 ?_
  refine jx_iconst (pc := 2) C dX5_loom_2 nc_5 ?_
  refine jx_callD (pc := 3) C (go_X5_37 C  (Nat.le_of_ble_eq_true rfl) dX5_loom_3) t_X5_isWithin (by decide) (by decide) ⟨Nat.zero_le _, Nat.zero_le _⟩ ?_
  refine jx_if_ne (pc := 6) C (tgt := 19) dX5_loom_6 (by decide) (fun c6 => ?_) (fun c6 => ?_)
  · rw [bI_0, decide_eq_false_iff_not, Decidable.not_not] at c6
    refine jx_iload_n (pc := 19) C dX5_loom_19 rfl ?_
    refine jx_if_eq (pc := 20) C (tgt := 43) dX5_loom_20 (by decide) (fun c20 => ?_) (fun c20 => ?_)
    · have cL : wd = 0 ∨ ((nI 40 ≤ wd ∧ wd ≤ nI 200) ∧ (nI 1 ≤ sp ∧ sp ≤ nI 9) ∧ (nI 0 ≤ ca ∧ ca ≤ nI 99)) := by first | exact Or.inl c20 | exact Or.inr c30
      obtain ⟨w, hw5, rfl⟩ := in_N (by decide) c6
      have hw : w < 6 := by omega
      refine jx_aload_n (pc := 43) C dX5_loom_43 rfl ?_
      refine jx_callv (pc := 44) C (go_X5_56 C S.obj (Nat.le_of_ble_eq_true rfl) dX5_loom_44) (t_X5_saveState S R.T R.M R.V R.W (fun i hi => (R.K i hi).m) R.hq R.q6) (by decide) (by decide) ⟨Nat.zero_le _, Nat.zero_le _⟩ (fun I44 P44 L44 q44 => ?_)
      obtain ⟨W1, e1, F1, G1, rfl⟩ := q44
      have R1 := R.save W1 e1 F1 G1
      have O1 := cOut.save (L := L44) F1 G1
      have H1 := H.ag R.V.m G.lt (fun b b1 b2 => F1 b (by omega) (by omega))
      have Gs := G.ag (G1 (y + 1 + 2) (by omega))
      refine jx_aload_n (pc := 47) C dX5_loom_47 rfl ?_
      refine jx_getP (pc := 48) C kf_X5_10 rfl S.obj R1.T.hall dX5_loom_48 ?_
      refine jx_getP (pc := 51) C kf_X5_59 rfl S.h.hall R1.T.h.wa dX5_loom_51 ?_
      refine jx_iload_n (pc := 54) C dX5_loom_54 rfl ?_
      refine jx_aald12 (pc := 55) C S.h.wa (by omega) (by decide) (R1.T.h.wv hw) dX5_loom_55 ?_
      refine jx_astore (pc := 56) C dX5_loom_56 (jset_5 jc_i) (by decide) ?_
      refine jx_aload (pc := 58) C dX5_loom_58 rfl ?_
      refine jx_getI (pc := 60) C kf_X5_63 rfl (S.h.wv hw) dX5_loom_60 ?_
      refine jx_istore (pc := 63) C dX5_loom_63 (jset_6 jc_r) (by decide) ?_
      refine jx_aload (pc := 65) C dX5_loom_65 rfl ?_
      refine jx_iload_n (pc := 67) C dX5_loom_67 rfl ?_
      refine jx_putI (pc := 68) C kf_X5_63 rfl rfl rfl rfl (S.h.wv hw) dX5_loom_68 ?_
      refine jx_aload (pc := 71) C dX5_loom_71 rfl ?_
      refine jx_iload_n (pc := 73) C dX5_loom_73 rfl ?_
      refine jx_if_ne (pc := 74) C (tgt := 81) dX5_loom_74 (by decide) (fun c74 => ?_) (fun c74 => ?_)
      · refine jx_iload_n (pc := 81) C dX5_loom_81 rfl ?_
        refine jx_putI (pc := 82) C kf_X5_69 rfl rfl rfl rfl (S.h.wv hw) dX5_loom_82 ?_
        refine jx_aload (pc := 85) C dX5_loom_85 rfl ?_
        refine jx_iload_n (pc := 87) C dX5_loom_87 rfl ?_
        refine jx_if_ne (pc := 88) C (tgt := 95) dX5_loom_88 (by decide) (fun c88 => ?_) (fun c88 => ?_)
        · refine jx_iload (pc := 95) C dX5_loom_95 rfl ?_
          refine jx_putI (pc := 97) C kf_X5_72 rfl rfl rfl rfl (S.h.wv hw) dX5_loom_97 ?_
          refine jx_iload (pc := 100) C dX5_loom_100 rfl ?_
          exact jx_end (jx_roomy (Nat.zero_le 1) (Nat.zero_le 6) (jn_iret (pc := 102) C hr (by first | exact absurd c88 c74 | exact absurd c74 c88 | exact loom_fin R1 O1 hw c6 cL (if_pos c74).symm (if_pos c74).symm | exact loom_fin R1 O1 hw c6 cL (if_neg c74).symm (if_neg c74).symm) dX5_loom_102))
        · refine jx_iconst (pc := 91) C dX5_loom_91 nc_0 ?_
          refine jx_goto (pc := 92) C (tgt := 97) dX5_loom_92 (by decide) ?_
          refine jx_putI (pc := 97) C kf_X5_72 rfl rfl rfl rfl (S.h.wv hw) dX5_loom_97 ?_
          refine jx_iload (pc := 100) C dX5_loom_100 rfl ?_
          exact jx_end (jx_roomy (Nat.zero_le 1) (Nat.zero_le 6) (jn_iret (pc := 102) C hr (by first | exact absurd c88 c74 | exact absurd c74 c88 | exact loom_fin R1 O1 hw c6 cL (if_pos c74).symm (if_pos c74).symm | exact loom_fin R1 O1 hw c6 cL (if_neg c74).symm (if_neg c74).symm) dX5_loom_102))
      · refine jx_iconst (pc := 77) C dX5_loom_77 nc_0 ?_
        refine jx_goto (pc := 78) C (tgt := 82) dX5_loom_78 (by decide) ?_
        refine jx_putI (pc := 82) C kf_X5_69 rfl rfl rfl rfl (S.h.wv hw) dX5_loom_82 ?_
        refine jx_aload (pc := 85) C dX5_loom_85 rfl ?_
        refine jx_iload_n (pc := 87) C dX5_loom_87 rfl ?_
        refine jx_if_ne (pc := 88) C (tgt := 95) dX5_loom_88 (by decide) (fun c88 => ?_) (fun c88 => ?_)
        · refine jx_iload (pc := 95) C dX5_loom_95 rfl ?_
          refine jx_putI (pc := 97) C kf_X5_72 rfl rfl rfl rfl (S.h.wv hw) dX5_loom_97 ?_
          refine jx_iload (pc := 100) C dX5_loom_100 rfl ?_
          exact jx_end (jx_roomy (Nat.zero_le 1) (Nat.zero_le 6) (jn_iret (pc := 102) C hr (by first | exact absurd c88 c74 | exact absurd c74 c88 | exact loom_fin R1 O1 hw c6 cL (if_pos c74).symm (if_pos c74).symm | exact loom_fin R1 O1 hw c6 cL (if_neg c74).symm (if_neg c74).symm) dX5_loom_102))
        · refine jx_iconst (pc := 91) C dX5_loom_91 nc_0 ?_
          refine jx_goto (pc := 92) C (tgt := 97) dX5_loom_92 (by decide) ?_
          refine jx_putI (pc := 97) C kf_X5_72 rfl rfl rfl rfl (S.h.wv hw) dX5_loom_97 ?_
          refine jx_iload (pc := 100) C dX5_loom_100 rfl ?_
          exact jx_end (jx_roomy (Nat.zero_le 1) (Nat.zero_le 6) (jn_iret (pc := 102) C hr (by first | exact absurd c88 c74 | exact absurd c74 c88 | exact loom_fin R1 O1 hw c6 cL (if_pos c74).symm (if_pos c74).symm | exact loom_fin R1 O1 hw c6 cL (if_neg c74).symm (if_neg c74).symm) dX5_loom_102))
    · refine jx_iload_n (pc := 23) C dX5_loom_23 rfl ?_
      refine jx_iload_n (pc := 24) C dX5_loom_24 rfl ?_
      refine jx_iload (pc := 25) C dX5_loom_25 rfl ?_
      refine jx_callD (pc := 27) C (go_X5_48 C  (Nat.le_of_ble_eq_true rfl) dX5_loom_27) t_X5_isLoom (by decide) (by decide) ⟨Nat.zero_le _, Nat.zero_le _⟩ ?_
      refine jx_if_ne (pc := 30) C (tgt := 43) dX5_loom_30 (by decide) (fun c30 => ?_) (fun c30 => ?_)
      · rw [bI_0, decide_eq_false_iff_not, Decidable.not_not] at c30
        have cL : wd = 0 ∨ ((nI 40 ≤ wd ∧ wd ≤ nI 200) ∧ (nI 1 ≤ sp ∧ sp ≤ nI 9) ∧ (nI 0 ≤ ca ∧ ca ≤ nI 99)) := by first | exact Or.inl c20 | exact Or.inr c30
        obtain ⟨w, hw5, rfl⟩ := in_N (by decide) c6
        have hw : w < 6 := by omega
        refine jx_aload_n (pc := 43) C dX5_loom_43 rfl ?_
        refine jx_callv (pc := 44) C (go_X5_56 C S.obj (Nat.le_of_ble_eq_true rfl) dX5_loom_44) (t_X5_saveState S R.T R.M R.V R.W (fun i hi => (R.K i hi).m) R.hq R.q6) (by decide) (by decide) ⟨Nat.zero_le _, Nat.zero_le _⟩ (fun I44 P44 L44 q44 => ?_)
        obtain ⟨W1, e1, F1, G1, rfl⟩ := q44
        have R1 := R.save W1 e1 F1 G1
        have O1 := cOut.save (L := L44) F1 G1
        have H1 := H.ag R.V.m G.lt (fun b b1 b2 => F1 b (by omega) (by omega))
        have Gs := G.ag (G1 (y + 1 + 2) (by omega))
        refine jx_aload_n (pc := 47) C dX5_loom_47 rfl ?_
        refine jx_getP (pc := 48) C kf_X5_10 rfl S.obj R1.T.hall dX5_loom_48 ?_
        refine jx_getP (pc := 51) C kf_X5_59 rfl S.h.hall R1.T.h.wa dX5_loom_51 ?_
        refine jx_iload_n (pc := 54) C dX5_loom_54 rfl ?_
        refine jx_aald12 (pc := 55) C S.h.wa (by omega) (by decide) (R1.T.h.wv hw) dX5_loom_55 ?_
        refine jx_astore (pc := 56) C dX5_loom_56 (jset_5 jc_i) (by decide) ?_
        refine jx_aload (pc := 58) C dX5_loom_58 rfl ?_
        refine jx_getI (pc := 60) C kf_X5_63 rfl (S.h.wv hw) dX5_loom_60 ?_
        refine jx_istore (pc := 63) C dX5_loom_63 (jset_6 jc_r) (by decide) ?_
        refine jx_aload (pc := 65) C dX5_loom_65 rfl ?_
        refine jx_iload_n (pc := 67) C dX5_loom_67 rfl ?_
        refine jx_putI (pc := 68) C kf_X5_63 rfl rfl rfl rfl (S.h.wv hw) dX5_loom_68 ?_
        refine jx_aload (pc := 71) C dX5_loom_71 rfl ?_
        refine jx_iload_n (pc := 73) C dX5_loom_73 rfl ?_
        refine jx_if_ne (pc := 74) C (tgt := 81) dX5_loom_74 (by decide) (fun c74 => ?_) (fun c74 => ?_)
        · refine jx_iload_n (pc := 81) C dX5_loom_81 rfl ?_
          refine jx_putI (pc := 82) C kf_X5_69 rfl rfl rfl rfl (S.h.wv hw) dX5_loom_82 ?_
          refine jx_aload (pc := 85) C dX5_loom_85 rfl ?_
          refine jx_iload_n (pc := 87) C dX5_loom_87 rfl ?_
          refine jx_if_ne (pc := 88) C (tgt := 95) dX5_loom_88 (by decide) (fun c88 => ?_) (fun c88 => ?_)
          · refine jx_iload (pc := 95) C dX5_loom_95 rfl ?_
            refine jx_putI (pc := 97) C kf_X5_72 rfl rfl rfl rfl (S.h.wv hw) dX5_loom_97 ?_
            refine jx_iload (pc := 100) C dX5_loom_100 rfl ?_
            exact jx_end (jx_roomy (Nat.zero_le 1) (Nat.zero_le 6) (jn_iret (pc := 102) C hr (by first | exact absurd c88 c74 | exact absurd c74 c88 | exact loom_fin R1 O1 hw c6 cL (if_pos c74).symm (if_pos c74).symm | exact loom_fin R1 O1 hw c6 cL (if_neg c74).symm (if_neg c74).symm) dX5_loom_102))
          · refine jx_iconst (pc := 91) C dX5_loom_91 nc_0 ?_
            refine jx_goto (pc := 92) C (tgt := 97) dX5_loom_92 (by decide) ?_
            refine jx_putI (pc := 97) C kf_X5_72 rfl rfl rfl rfl (S.h.wv hw) dX5_loom_97 ?_
            refine jx_iload (pc := 100) C dX5_loom_100 rfl ?_
            exact jx_end (jx_roomy (Nat.zero_le 1) (Nat.zero_le 6) (jn_iret (pc := 102) C hr (by first | exact absurd c88 c74 | exact absurd c74 c88 | exact loom_fin R1 O1 hw c6 cL (if_pos c74).symm (if_pos c74).symm | exact loom_fin R1 O1 hw c6 cL (if_neg c74).symm (if_neg c74).symm) dX5_loom_102))
        · refine jx_iconst (pc := 77) C dX5_loom_77 nc_0 ?_
          refine jx_goto (pc := 78) C (tgt := 82) dX5_loom_78 (by decide) ?_
          refine jx_putI (pc := 82) C kf_X5_69 rfl rfl rfl rfl (S.h.wv hw) dX5_loom_82 ?_
          refine jx_aload (pc := 85) C dX5_loom_85 rfl ?_
          refine jx_iload_n (pc := 87) C dX5_loom_87 rfl ?_
          refine jx_if_ne (pc := 88) C (tgt := 95) dX5_loom_88 (by decide) (fun c88 => ?_) (fun c88 => ?_)
          · refine jx_iload (pc := 95) C dX5_loom_95 rfl ?_
            refine jx_putI (pc := 97) C kf_X5_72 rfl rfl rfl rfl (S.h.wv hw) dX5_loom_97 ?_
            refine jx_iload (pc := 100) C dX5_loom_100 rfl ?_
            exact jx_end (jx_roomy (Nat.zero_le 1) (Nat.zero_le 6) (jn_iret (pc := 102) C hr (by first | exact absurd c88 c74 | exact absurd c74 c88 | exact loom_fin R1 O1 hw c6 cL (if_pos c74).symm (if_pos c74).symm | exact loom_fin R1 O1 hw c6 cL (if_neg c74).symm (if_neg c74).symm) dX5_loom_102))
          · refine jx_iconst (pc := 91) C dX5_loom_91 nc_0 ?_
            refine jx_goto (pc := 92) C (tgt := 97) dX5_loom_92 (by decide) ?_
            refine jx_putI (pc := 97) C kf_X5_72 rfl rfl rfl rfl (S.h.wv hw) dX5_loom_97 ?_
            refine jx_iload (pc := 100) C dX5_loom_100 rfl ?_
            exact jx_end (jx_roomy (Nat.zero_le 1) (Nat.zero_le 6) (jn_iret (pc := 102) C hr (by first | exact absurd c88 c74 | exact absurd c74 c88 | exact loom_fin R1 O1 hw c6 cL (if_pos c74).symm (if_pos c74).symm | exact loom_fin R1 O1 hw c6 cL (if_neg c74).symm (if_neg c74).symm) dX5_loom_102))
      · rw [bI_0, decide_eq_false_iff_not] at c30
        exact jx_thA (pc := 33) C hnc hst (by decide) htb (List.mem_of_getElem? (i := 1) rfl) (cX_of (k := 2) (by unfold sloom; rw [if_pos c6, if_neg (fun z => z.elim c20 c30)]) (by decide) rfl R) dX5_loom_33 dX5_loom_36 dX5_loom_37 dX5_loom_39 dX5_loom_42
  · rw [bI_0, decide_eq_false_iff_not] at c6
    exact jx_thI (pc := 9) C hnc hst (by decide) htb (List.mem_of_getElem? (i := 0) rfl) (cX_of (k := 1) (by unfold sloom; rw [if_neg c6]) (by decide) rfl R) dX5_loom_9 dX5_loom_12 dX5_loom_13 dX5_loom_15 dX5_loom_18
theorem t_X5_loom {l : Launch} (hst : l.stackTraces = false) {D : va_G} {cA : Nat → ClassId} {N0 : Nat} {Sh : jS} {I : jI} {P : jP} {L : jL} {y : Nat} (S : cS Sh y) {f : sF} {q : Nat} {pst : Nat → sF} {t : Nat} {ch : Nat → Nat} (R : cR I P y f q pst t ch) {wv wd sp ca : Int32} : jXM l D cA N0 7 yX5_loom cX5_loom 7 (some .int) [.ref y, .int wv, .int wd, .int sp, .int ca] Sh I P L (cQ I P L y ((sloom f wv wd sp ca).1, (sloom f wv wd sp ca).2.1) (sloom f wv wd sp ca).2.2 (min q 5 + 1) (spush f q pst) t ch) (cX I P L y en3 (sloom f wv wd sp ca).1 f q pst t ch) := jXM_of (by decide) (Nat.le_of_ble_eq_true rfl) (fun _ _ _ _ _ _ _ _ C hnc hr htb => b_X5_loom C hnc hst htb hr S R)
set_option maxHeartbeats 4000000 in
theorem b_X5_yarn {p : Program} {l : Launch} {e : Env} {s : State} {m : MethodId} {args : Array Value} {below : List Frame} {meth : Method} {c : Code} {D : va_G} {cA : Nat → ClassId} {N0 : Nat} {Sh : jS} {I : jI} {P : jP} {L : jL} (C : jC p (jRm 7 1 6) s m args meth c D cA N0 cX5_yarn 5 RX5 7) (hnc : jNc s) (hst : l.stackTraces = false) (htb : ∀ x ∈ c.exceptionTable.toList, False) (hr : meth.sig.returnType = (some .int)) {y : Nat} (S : cS Sh y) {f : sF} {q : Nat} {pst : Nat → sF} {t : Nat} {ch : Nat → Nat} (R : cR I P y f q pst t ch) {wv cv g : Int32} : jJ p l e (jRm 7 1 6) s m args below meth c D cA N0 5 (vx_MQ below (jQn D cA N0 Sh (cQ I P L y ((syarn f wv cv g).1, (syarn f wv cv g).2.1) (syarn f wv cv g).2.2 (min q 5 + 1) (spush f q pst) t ch)) (jXC D cA N0 Sh (cX I P L y en3 (syarn f wv cv g).1 f q pst t ch)) args s 1 6 (fun q => N0 ≤ q)) (fun _ => True) Sh I P L 0 0 0 [some (.ref y), some (.int wv), some (.int cv), some (.int g), none] [] := by
  obtain ⟨og, H, G⟩ := R.M
  refine jx_iload_n (pc := 0) C dX5_yarn_0 rfl ?_
  refine jx_iconst (pc := 1) C dX5_yarn_1 nc_0 ?_
  refine jx_iconst (pc := 2) C dX5_yarn_2 nc_5 ?_
  refine jx_callD (pc := 3) C (go_X5_37 C  (Nat.le_of_ble_eq_true rfl) dX5_yarn_3) t_X5_isWithin (by decide) (by decide) ⟨Nat.zero_le _, Nat.zero_le _⟩ ?_
  refine jx_if_eq (pc := 6) C (tgt := 18) dX5_yarn_6 (by decide) (fun c6 => ?_) (fun c6 => ?_)
  · rw [bI_0, decide_eq_false_iff_not] at c6
    exact jx_thI (pc := 18) C hnc hst (by decide) htb (List.mem_of_getElem? (i := 2) rfl) (by refine cX_of (k := 1) ?_ (by decide) rfl R; unfold syarn; refine congrArg Prod.fst (if_neg ?_); first | exact fun z => c6 z.1 | exact fun z => c15 z.2) dX5_yarn_18 dX5_yarn_21 dX5_yarn_22 dX5_yarn_24 dX5_yarn_27
  · rw [bI_0, decide_eq_false_iff_not, Decidable.not_not] at c6
    refine jx_iload_n (pc := 9) C dX5_yarn_9 rfl ?_
    refine jx_iconst (pc := 10) C dX5_yarn_10 nc_0 ?_
    refine jx_iconst (pc := 11) C dX5_yarn_11 nc_3 ?_
    refine jx_callD (pc := 12) C (go_X5_37 C  (Nat.le_of_ble_eq_true rfl) dX5_yarn_12) t_X5_isWithin (by decide) (by decide) ⟨Nat.zero_le _, Nat.zero_le _⟩ ?_
    refine jx_if_ne (pc := 15) C (tgt := 28) dX5_yarn_15 (by decide) (fun c15 => ?_) (fun c15 => ?_)
    · rw [bI_0, decide_eq_false_iff_not, Decidable.not_not] at c15
      refine jx_iload_n (pc := 28) C dX5_yarn_28 rfl ?_
      refine jx_sipush (pc := 29) C dX5_yarn_29 ns_m9999 ?_
      refine jx_sipush (pc := 32) C dX5_yarn_32 ns_9999 ?_
      refine jx_callD (pc := 35) C (go_X5_37 C  (Nat.le_of_ble_eq_true rfl) dX5_yarn_35) t_X5_isWithin (by decide) (by decide) ⟨Nat.zero_le _, Nat.zero_le _⟩ ?_
      refine jx_if_ne (pc := 38) C (tgt := 51) dX5_yarn_38 (by decide) (fun c38 => ?_) (fun c38 => ?_)
      · rw [bI_0, decide_eq_false_iff_not, Decidable.not_not] at c38
        obtain ⟨w, hw5, rfl⟩ := in_N (by decide) c6
        obtain ⟨k, hk3, rfl⟩ := in_N (by decide) c15
        have hw : w < 6 := by omega
        refine jx_aload_n (pc := 51) C dX5_yarn_51 rfl ?_
        refine jx_getP (pc := 52) C kf_X5_10 rfl S.obj R.T.hall dX5_yarn_52 ?_
        refine jx_getP (pc := 55) C kf_X5_59 rfl S.h.hall R.T.h.wa dX5_yarn_55 ?_
        refine jx_iload_n (pc := 58) C dX5_yarn_58 rfl ?_
        refine jx_aald12 (pc := 59) C S.h.wa (by omega) (by decide) (R.T.h.wv hw) dX5_yarn_59 ?_
        refine jx_getP (pc := 60) C kf_X5_79 rfl (S.h.wv hw) (R.T.h.wy hw) dX5_yarn_60 ?_
        refine jx_astore (pc := 63) C dX5_yarn_63 (jset_4 jc_i) (by decide) ?_
        refine jx_aload (pc := 65) C dX5_yarn_65 rfl ?_
        refine jx_iload_n (pc := 67) C dX5_yarn_67 rfl ?_
        refine jx_callD (pc := 68) C (go_X5_83 C (S.h.wy hw) (Nat.le_of_ble_eq_true rfl) dX5_yarn_68) (t_X4_of (S.h.wy hw) (S.h.wg hw) (R.T.h.wg hw) (by omega)) (by decide) (by decide) ⟨Nat.zero_le _, Nat.zero_le _⟩ ?_
        refine jx_iload_n (pc := 71) C dX5_yarn_71 rfl ?_
        refine jx_iadd (pc := 72) C dX5_yarn_72 ?_
        refine jx_iconst (pc := 73) C dX5_yarn_73 nc_0 ?_
        refine jx_sipush (pc := 74) C dX5_yarn_74 ns_9999 ?_
        refine jx_callD (pc := 77) C (go_X5_37 C  (Nat.le_of_ble_eq_true rfl) dX5_yarn_77) t_X5_isWithin (by decide) (by decide) ⟨Nat.zero_le _, Nat.zero_le _⟩ ?_
        refine jx_if_ne (pc := 80) C (tgt := 93) dX5_yarn_80 (by decide) (fun c80 => ?_) (fun c80 => ?_)
        · rw [bI_0, decide_eq_false_iff_not, Decidable.not_not] at c80
          rw [H.sh hw (by omega)] at c80
          refine jx_aload_n (pc := 93) C dX5_yarn_93 rfl ?_
          refine jx_callv (pc := 94) C (go_X5_56 C S.obj (Nat.le_of_ble_eq_true rfl) dX5_yarn_94) (t_X5_saveState S R.T R.M R.V R.W (fun i hi => (R.K i hi).m) R.hq R.q6) (by decide) (by decide) ⟨Nat.zero_le _, Nat.zero_le _⟩ (fun I94 P94 L94 q94 => ?_)
          obtain ⟨W1, e1, F1, G1, rfl⟩ := q94
          have R1 := R.save W1 e1 F1 G1
          have O1 := cOut.save (L := L94) F1 G1
          have H1 := H.ag R.V.m G.lt (fun b b1 b2 => F1 b (by omega) (by omega))
          have Gs := G.ag (G1 (y + 1 + 2) (by omega))
          refine jx_aload (pc := 97) C dX5_yarn_97 rfl ?_
          refine jx_iload_n (pc := 99) C dX5_yarn_99 rfl ?_
          refine jx_iload_n (pc := 100) C dX5_yarn_100 rfl ?_
          refine jx_callD (pc := 101) C (go_X5_94 C (S.h.wy hw) (Nat.le_of_ble_eq_true rfl) dX5_yarn_101) (t_X4_add (S.h.wy hw) (S.h.wg hw) (R1.T.h.wg hw) (by omega)) (by decide) (by decide) ⟨Nat.zero_le _, Nat.zero_le _⟩ ?_
          exact jx_end (jx_roomy (Nat.zero_le 1) (Nat.zero_le 6) (jn_iret (pc := 104) C hr (yarn_fin R1 O1 hw (by omega) ⟨c6, c15⟩ c38 c80) dX5_yarn_104))
        · rw [bI_0, decide_eq_false_iff_not] at c80
          rw [H.sh hw (by omega)] at c80
          exact jx_thS (pc := 83) C hnc hst (by decide) htb (List.mem_of_getElem? (i := 4) rfl) (cX_of (k := 3) (by unfold syarn; rw [if_pos ⟨c6, c15⟩, if_pos c38, sW_N (by omega), sW_N (by omega), if_neg c80]) (by decide) rfl R) dX5_yarn_83 dX5_yarn_86 dX5_yarn_87 dX5_yarn_89 dX5_yarn_92
      · rw [bI_0, decide_eq_false_iff_not] at c38
        exact jx_thA (pc := 41) C hnc hst (by decide) htb (List.mem_of_getElem? (i := 3) rfl) (cX_of (k := 2) (by unfold syarn; rw [if_pos ⟨c6, c15⟩, if_neg c38]) (by decide) rfl R) dX5_yarn_41 dX5_yarn_44 dX5_yarn_45 dX5_yarn_47 dX5_yarn_50
    · rw [bI_0, decide_eq_false_iff_not] at c15
      exact jx_thI (pc := 18) C hnc hst (by decide) htb (List.mem_of_getElem? (i := 2) rfl) (by refine cX_of (k := 1) ?_ (by decide) rfl R; unfold syarn; refine congrArg Prod.fst (if_neg ?_); first | exact fun z => c6 z.1 | exact fun z => c15 z.2) dX5_yarn_18 dX5_yarn_21 dX5_yarn_22 dX5_yarn_24 dX5_yarn_27
theorem t_X5_yarn {l : Launch} (hst : l.stackTraces = false) {D : va_G} {cA : Nat → ClassId} {N0 : Nat} {Sh : jS} {I : jI} {P : jP} {L : jL} {y : Nat} (S : cS Sh y) {f : sF} {q : Nat} {pst : Nat → sF} {t : Nat} {ch : Nat → Nat} (R : cR I P y f q pst t ch) {wv cv g : Int32} : jXM l D cA N0 7 yX5_yarn cX5_yarn 5 (some .int) [.ref y, .int wv, .int cv, .int g] Sh I P L (cQ I P L y ((syarn f wv cv g).1, (syarn f wv cv g).2.1) (syarn f wv cv g).2.2 (min q 5 + 1) (spush f q pst) t ch) (cX I P L y en3 (syarn f wv cv g).1 f q pst t ch) := jXM_of (by decide) (Nat.le_of_ble_eq_true rfl) (fun _ _ _ _ _ _ _ _ C hnc hr htb => b_X5_yarn C hnc hst htb hr S R)
set_option maxHeartbeats 4000000 in
theorem b_X5_store {p : Program} {l : Launch} {e : Env} {s : State} {m : MethodId} {args : Array Value} {below : List Frame} {meth : Method} {c : Code} {D : va_G} {cA : Nat → ClassId} {N0 : Nat} {Sh : jS} {I : jI} {P : jP} {L : jL} (C : jC p (jRm 7 1 6) s m args meth c D cA N0 cX5_store 3 RX5 7) (hnc : jNc s) (hst : l.stackTraces = false) (htb : ∀ x ∈ c.exceptionTable.toList, False) (hr : meth.sig.returnType = (some .int)) {y : Nat} (S : cS Sh y) {f : sF} {q : Nat} {pst : Nat → sF} {t : Nat} {ch : Nat → Nat} (R : cR I P y f q pst t ch) {cv g : Int32} : jJ p l e (jRm 7 1 6) s m args below meth c D cA N0 3 (vx_MQ below (jQn D cA N0 Sh (cQ I P L y ((sstore f cv g).1, (sstore f cv g).2.1) (sstore f cv g).2.2 (min q 5 + 1) (spush f q pst) t ch)) (jXC D cA N0 Sh (cX I P L y en3 (sstore f cv g).1 f q pst t ch)) args s 1 6 (fun q => N0 ≤ q)) (fun _ => True) Sh I P L 0 0 0 [some (.ref y), some (.int cv), some (.int g)] [] := by
  obtain ⟨og, H, G⟩ := R.M
  refine jx_iload_n (pc := 0) C dX5_store_0 rfl ?_
  refine jx_iconst (pc := 1) C dX5_store_1 nc_0 ?_
  refine jx_iconst (pc := 2) C dX5_store_2 nc_3 ?_
  refine jx_callD (pc := 3) C (go_X5_37 C  (Nat.le_of_ble_eq_true rfl) dX5_store_3) t_X5_isWithin (by decide) (by decide) ⟨Nat.zero_le _, Nat.zero_le _⟩ ?_
  refine jx_if_ne (pc := 6) C (tgt := 19) dX5_store_6 (by decide) (fun c6 => ?_) (fun c6 => ?_)
  · rw [bI_0, decide_eq_false_iff_not, Decidable.not_not] at c6
    refine jx_iload_n (pc := 19) C dX5_store_19 rfl ?_
    refine jx_iconst (pc := 20) C dX5_store_20 nc_1 ?_
    refine jx_sipush (pc := 21) C dX5_store_21 ns_9999 ?_
    refine jx_callD (pc := 24) C (go_X5_37 C  (Nat.le_of_ble_eq_true rfl) dX5_store_24) t_X5_isWithin (by decide) (by decide) ⟨Nat.zero_le _, Nat.zero_le _⟩ ?_
    refine jx_if_ne (pc := 27) C (tgt := 40) dX5_store_27 (by decide) (fun c27 => ?_) (fun c27 => ?_)
    · rw [bI_0, decide_eq_false_iff_not, Decidable.not_not] at c27
      obtain ⟨k, hk3, rfl⟩ := in_N (by decide) c6
      refine jx_aload_n (pc := 40) C dX5_store_40 rfl ?_
      refine jx_getP (pc := 41) C kf_X5_10 rfl S.obj R.T.hall dX5_store_41 ?_
      refine jx_getP (pc := 44) C kf_X5_100 rfl S.h.hall R.T.h.sk dX5_store_44 ?_
      refine jx_iload_n (pc := 47) C dX5_store_47 rfl ?_
      refine jx_callD (pc := 48) C (go_X5_83 C S.h.sk (Nat.le_of_ble_eq_true rfl) dX5_store_48) (t_X4_of S.h.sk S.h.sg R.T.h.sg (by omega)) (by decide) (by decide) ⟨Nat.zero_le _, Nat.zero_le _⟩ ?_
      refine jx_iload_n (pc := 51) C dX5_store_51 rfl ?_
      refine jx_iadd (pc := 52) C dX5_store_52 ?_
      refine jx_ldc (pc := 53) C kk_X5_103 dX5_store_53 ?_
      refine jx_icmp_le (pc := 55) C (tgt := 68) dX5_store_55 (by decide) (fun c55 => ?_) (fun c55 => ?_)
      · rw [H.st (by omega)] at c55
        refine jx_aload_n (pc := 68) C dX5_store_68 rfl ?_
        refine jx_callv (pc := 69) C (go_X5_56 C S.obj (Nat.le_of_ble_eq_true rfl) dX5_store_69) (t_X5_saveState S R.T R.M R.V R.W (fun i hi => (R.K i hi).m) R.hq R.q6) (by decide) (by decide) ⟨Nat.zero_le _, Nat.zero_le _⟩ (fun I69 P69 L69 q69 => ?_)
        obtain ⟨W1, e1, F1, G1, rfl⟩ := q69
        have R1 := R.save W1 e1 F1 G1
        have O1 := cOut.save (L := L69) F1 G1
        have H1 := H.ag R.V.m G.lt (fun b b1 b2 => F1 b (by omega) (by omega))
        have Gs := G.ag (G1 (y + 1 + 2) (by omega))
        refine jx_aload_n (pc := 72) C dX5_store_72 rfl ?_
        refine jx_getP (pc := 73) C kf_X5_10 rfl S.obj R1.T.hall dX5_store_73 ?_
        refine jx_getP (pc := 76) C kf_X5_100 rfl S.h.hall R1.T.h.sk dX5_store_76 ?_
        refine jx_iload_n (pc := 79) C dX5_store_79 rfl ?_
        refine jx_iload_n (pc := 80) C dX5_store_80 rfl ?_
        refine jx_callD (pc := 81) C (go_X5_94 C S.h.sk (Nat.le_of_ble_eq_true rfl) dX5_store_81) (t_X4_add S.h.sk S.h.sg R1.T.h.sg (by omega)) (by decide) (by decide) ⟨Nat.zero_le _, Nat.zero_le _⟩ ?_
        exact jx_end (jx_roomy (Nat.zero_le 1) (Nat.zero_le 6) (jn_iret (pc := 84) C hr (store_fin R1 O1 (by omega) c6 c27 c55) dX5_store_84))
      · rw [H.st (by omega)] at c55
        exact jx_thS (pc := 58) C hnc hst (by decide) htb (List.mem_of_getElem? (i := 6) rfl) (cX_of (k := 3) (by unfold sstore; rw [if_pos c6, if_pos c27, sW_N (by omega), if_neg c55]) (by decide) rfl R) dX5_store_58 dX5_store_61 dX5_store_62 dX5_store_64 dX5_store_67
    · rw [bI_0, decide_eq_false_iff_not] at c27
      exact jx_thA (pc := 30) C hnc hst (by decide) htb (List.mem_of_getElem? (i := 3) rfl) (cX_of (k := 2) (by unfold sstore; rw [if_pos c6, if_neg c27]) (by decide) rfl R) dX5_store_30 dX5_store_33 dX5_store_34 dX5_store_36 dX5_store_39
  · rw [bI_0, decide_eq_false_iff_not] at c6
    exact jx_thI (pc := 9) C hnc hst (by decide) htb (List.mem_of_getElem? (i := 5) rfl) (cX_of (k := 1) (by unfold sstore; rw [if_neg c6]) (by decide) rfl R) dX5_store_9 dX5_store_12 dX5_store_13 dX5_store_15 dX5_store_18
theorem t_X5_store {l : Launch} (hst : l.stackTraces = false) {D : va_G} {cA : Nat → ClassId} {N0 : Nat} {Sh : jS} {I : jI} {P : jP} {L : jL} {y : Nat} (S : cS Sh y) {f : sF} {q : Nat} {pst : Nat → sF} {t : Nat} {ch : Nat → Nat} (R : cR I P y f q pst t ch) {cv g : Int32} : jXM l D cA N0 7 yX5_store cX5_store 3 (some .int) [.ref y, .int cv, .int g] Sh I P L (cQ I P L y ((sstore f cv g).1, (sstore f cv g).2.1) (sstore f cv g).2.2 (min q 5 + 1) (spush f q pst) t ch) (cX I P L y en3 (sstore f cv g).1 f q pst t ch) := jXM_of (by decide) (Nat.le_of_ble_eq_true rfl) (fun _ _ _ _ _ _ _ _ C hnc hr htb => b_X5_store C hnc hst htb hr S R)
set_option maxHeartbeats 4000000 in
theorem b_X5_give {p : Program} {l : Launch} {e : Env} {s : State} {m : MethodId} {args : Array Value} {below : List Frame} {meth : Method} {c : Code} {D : va_G} {cA : Nat → ClassId} {N0 : Nat} {Sh : jS} {I : jI} {P : jP} {L : jL} (C : jC p (jRm 7 1 6) s m args meth c D cA N0 cX5_give 7 RX5 7) (hnc : jNc s) (hst : l.stackTraces = false) (htb : ∀ x ∈ c.exceptionTable.toList, False) (hr : meth.sig.returnType = (some .int)) {y : Nat} (S : cS Sh y) {f : sF} {q : Nat} {pst : Nat → sF} {t : Nat} {ch : Nat → Nat} (R : cR I P y f q pst t ch) {wv ov cv g : Int32} : jJ p l e (jRm 7 1 6) s m args below meth c D cA N0 7 (vx_MQ below (jQn D cA N0 Sh (cQ I P L y ((sgive f wv ov cv g).1, (sgive f wv ov cv g).2.1) (sgive f wv ov cv g).2.2 (min q 5 + 1) (spush f q pst) t ch)) (jXC D cA N0 Sh (cX I P L y en3 (sgive f wv ov cv g).1 f q pst t ch)) args s 1 6 (fun q => N0 ≤ q)) (fun _ => True) Sh I P L 0 0 0 [some (.ref y), some (.int wv), some (.int ov), some (.int cv), some (.int g), none, none] [] := by
  obtain ⟨og, H, G⟩ := R.M
  refine jx_iload_n (pc := 0) C dX5_give_0 rfl ?_
  refine jx_iconst (pc := 1) C dX5_give_1 nc_0 ?_
  refine jx_iconst (pc := 2) C dX5_give_2 nc_5 ?_
  refine jx_callD (pc := 3) C (go_X5_37 C  (Nat.le_of_ble_eq_true rfl) dX5_give_3) t_X5_isWithin (by decide) (by decide) ⟨Nat.zero_le _, Nat.zero_le _⟩ ?_
  refine jx_if_eq (pc := 6) C (tgt := 27) dX5_give_6 (by decide) (fun c6 => ?_) (fun c6 => ?_)
  · rw [bI_0, decide_eq_false_iff_not] at c6
    exact jx_thI (pc := 27) C hnc hst (by decide) htb (List.mem_of_getElem? (i := 2) rfl) (by refine cX_of (k := 1) ?_ (by decide) rfl R; unfold sgive; refine congrArg Prod.fst (if_neg ?_); first | exact fun z => c6 z.1 | exact fun z => c15 z.2.1 | exact fun z => c24 z.2.2) dX5_give_27 dX5_give_30 dX5_give_31 dX5_give_33 dX5_give_36
  · rw [bI_0, decide_eq_false_iff_not, Decidable.not_not] at c6
    refine jx_iload_n (pc := 9) C dX5_give_9 rfl ?_
    refine jx_iconst (pc := 10) C dX5_give_10 nc_0 ?_
    refine jx_iconst (pc := 11) C dX5_give_11 nc_5 ?_
    refine jx_callD (pc := 12) C (go_X5_37 C  (Nat.le_of_ble_eq_true rfl) dX5_give_12) t_X5_isWithin (by decide) (by decide) ⟨Nat.zero_le _, Nat.zero_le _⟩ ?_
    refine jx_if_eq (pc := 15) C (tgt := 27) dX5_give_15 (by decide) (fun c15 => ?_) (fun c15 => ?_)
    · rw [bI_0, decide_eq_false_iff_not] at c15
      exact jx_thI (pc := 27) C hnc hst (by decide) htb (List.mem_of_getElem? (i := 2) rfl) (by refine cX_of (k := 1) ?_ (by decide) rfl R; unfold sgive; refine congrArg Prod.fst (if_neg ?_); first | exact fun z => c6 z.1 | exact fun z => c15 z.2.1 | exact fun z => c24 z.2.2) dX5_give_27 dX5_give_30 dX5_give_31 dX5_give_33 dX5_give_36
    · rw [bI_0, decide_eq_false_iff_not, Decidable.not_not] at c15
      refine jx_iload_n (pc := 18) C dX5_give_18 rfl ?_
      refine jx_iconst (pc := 19) C dX5_give_19 nc_0 ?_
      refine jx_iconst (pc := 20) C dX5_give_20 nc_3 ?_
      refine jx_callD (pc := 21) C (go_X5_37 C  (Nat.le_of_ble_eq_true rfl) dX5_give_21) t_X5_isWithin (by decide) (by decide) ⟨Nat.zero_le _, Nat.zero_le _⟩ ?_
      refine jx_if_ne (pc := 24) C (tgt := 37) dX5_give_24 (by decide) (fun c24 => ?_) (fun c24 => ?_)
      · rw [bI_0, decide_eq_false_iff_not, Decidable.not_not] at c24
        refine jx_iload_n (pc := 37) C dX5_give_37 rfl ?_
        refine jx_iload_n (pc := 38) C dX5_give_38 rfl ?_
        refine jx_icmp_eq (pc := 39) C (tgt := 54) dX5_give_39 (by decide) (fun c39 => ?_) (fun c39 => ?_)
        · exact jx_thA (pc := 54) C hnc hst (by decide) htb (List.mem_of_getElem? (i := 7) rfl) (by refine cX_of (k := 2) ?_ (by decide) rfl R; unfold sgive; rw [if_pos ⟨c6, c15, c24⟩]; refine congrArg Prod.fst (if_neg ?_); first | exact fun z => z.1 c39 | exact fun z => c51 z.2) dX5_give_54 dX5_give_57 dX5_give_58 dX5_give_60 dX5_give_63
        · refine jx_iload (pc := 42) C dX5_give_42 rfl ?_
          refine jx_iconst (pc := 44) C dX5_give_44 nc_1 ?_
          refine jx_sipush (pc := 45) C dX5_give_45 ns_9999 ?_
          refine jx_callD (pc := 48) C (go_X5_37 C  (Nat.le_of_ble_eq_true rfl) dX5_give_48) t_X5_isWithin (by decide) (by decide) ⟨Nat.zero_le _, Nat.zero_le _⟩ ?_
          refine jx_if_ne (pc := 51) C (tgt := 64) dX5_give_51 (by decide) (fun c51 => ?_) (fun c51 => ?_)
          · rw [bI_0, decide_eq_false_iff_not, Decidable.not_not] at c51
            obtain ⟨w, hw5, rfl⟩ := in_N (by decide) c6
            obtain ⟨v, hv5, rfl⟩ := in_N (by decide) c15
            obtain ⟨k, hk3, rfl⟩ := in_N (by decide) c24
            have hw : w < 6 := by omega
            have hv : v < 6 := by omega
            refine jx_aload_n (pc := 64) C dX5_give_64 rfl ?_
            refine jx_getP (pc := 65) C kf_X5_10 rfl S.obj R.T.hall dX5_give_65 ?_
            refine jx_getP (pc := 68) C kf_X5_59 rfl S.h.hall R.T.h.wa dX5_give_68 ?_
            refine jx_iload_n (pc := 71) C dX5_give_71 rfl ?_
            refine jx_aald12 (pc := 72) C S.h.wa (by omega) (by decide) (R.T.h.wv hw) dX5_give_72 ?_
            refine jx_getP (pc := 73) C kf_X5_79 rfl (S.h.wv hw) (R.T.h.wy hw) dX5_give_73 ?_
            refine jx_astore (pc := 76) C dX5_give_76 (jset_5 jc_i) (by decide) ?_
            refine jx_aload_n (pc := 78) C dX5_give_78 rfl ?_
            refine jx_getP (pc := 79) C kf_X5_10 rfl S.obj R.T.hall dX5_give_79 ?_
            refine jx_getP (pc := 82) C kf_X5_59 rfl S.h.hall R.T.h.wa dX5_give_82 ?_
            refine jx_iload_n (pc := 85) C dX5_give_85 rfl ?_
            refine jx_aald12 (pc := 86) C S.h.wa (by omega) (by decide) (R.T.h.wv hv) dX5_give_86 ?_
            refine jx_getP (pc := 87) C kf_X5_79 rfl (S.h.wv hv) (R.T.h.wy hv) dX5_give_87 ?_
            refine jx_astore (pc := 90) C dX5_give_90 (jset_6 jc_r) (by decide) ?_
            refine jx_aload (pc := 92) C dX5_give_92 rfl ?_
            refine jx_iload_n (pc := 94) C dX5_give_94 rfl ?_
            refine jx_callD (pc := 95) C (go_X5_83 C (S.h.wy hw) (Nat.le_of_ble_eq_true rfl) dX5_give_95) (t_X4_of (S.h.wy hw) (S.h.wg hw) (R.T.h.wg hw) (by omega)) (by decide) (by decide) ⟨Nat.zero_le _, Nat.zero_le _⟩ ?_
            refine jx_iload (pc := 98) C dX5_give_98 rfl ?_
            refine jx_icmp_lt (pc := 100) C (tgt := 118) dX5_give_100 (by decide) (fun c100 => ?_) (fun c100 => ?_)
            · try rw [H.sh hw (by omega)] at c100
              try rw [H.sh hv (by omega)] at c115
              exact jx_thS (pc := 118) C hnc hst (by decide) htb (List.mem_of_getElem? (i := 4) rfl) (by refine cX_of (k := 3) ?_ (by decide) rfl R; unfold sgive; rw [if_pos ⟨c6, c15, c24⟩, if_pos ⟨c39, c51⟩, sW_N (by omega), sW_N (by omega), sW_N (by omega)]; refine congrArg Prod.fst (if_neg ?_); first | exact fun z => c115 z.2 | exact fun z => i32_nlt.mpr z.1 c100) dX5_give_118 dX5_give_121 dX5_give_122 dX5_give_124 dX5_give_127
            · rw [H.sh hw (by omega)] at c100
              have c100 := i32_nlt.mp c100
              refine jx_aload (pc := 103) C dX5_give_103 rfl ?_
              refine jx_iload_n (pc := 105) C dX5_give_105 rfl ?_
              refine jx_callD (pc := 106) C (go_X5_83 C (S.h.wy hv) (Nat.le_of_ble_eq_true rfl) dX5_give_106) (t_X4_of (S.h.wy hv) (S.h.wg hv) (R.T.h.wg hv) (by omega)) (by decide) (by decide) ⟨Nat.zero_le _, Nat.zero_le _⟩ ?_
              refine jx_iload (pc := 109) C dX5_give_109 rfl ?_
              refine jx_iadd (pc := 111) C dX5_give_111 ?_
              refine jx_sipush (pc := 112) C dX5_give_112 ns_9999 ?_
              refine jx_icmp_le (pc := 115) C (tgt := 128) dX5_give_115 (by decide) (fun c115 => ?_) (fun c115 => ?_)
              · rw [H.sh hv (by omega)] at c115
                refine jx_aload_n (pc := 128) C dX5_give_128 rfl ?_
                refine jx_callv (pc := 129) C (go_X5_56 C S.obj (Nat.le_of_ble_eq_true rfl) dX5_give_129) (t_X5_saveState S R.T R.M R.V R.W (fun i hi => (R.K i hi).m) R.hq R.q6) (by decide) (by decide) ⟨Nat.zero_le _, Nat.zero_le _⟩ (fun I129 P129 L129 q129 => ?_)
                obtain ⟨W1, e1, F1, G1, rfl⟩ := q129
                have R1 := R.save W1 e1 F1 G1
                have O1 := cOut.save (L := L129) F1 G1
                have H1 := H.ag R.V.m G.lt (fun b b1 b2 => F1 b (by omega) (by omega))
                have Gs := G.ag (G1 (y + 1 + 2) (by omega))
                refine jx_aload (pc := 132) C dX5_give_132 rfl ?_
                refine jx_iload_n (pc := 134) C dX5_give_134 rfl ?_
                refine jx_iload (pc := 135) C dX5_give_135 rfl ?_
                refine jx_ineg (pc := 137) C dX5_give_137 ?_
                refine jx_callD (pc := 138) C (go_X5_94 C (S.h.wy hw) (Nat.le_of_ble_eq_true rfl) dX5_give_138) (t_X4_add (S.h.wy hw) (S.h.wg hw) (R1.T.h.wg hw) (by omega)) (by decide) (by decide) ⟨Nat.zero_le _, Nat.zero_le _⟩ ?_
                refine jx_pop (pc := 141) C dX5_give_141 rfl ?_
                refine jx_aload (pc := 142) C dX5_give_142 rfl ?_
                refine jx_iload_n (pc := 144) C dX5_give_144 rfl ?_
                refine jx_iload (pc := 145) C dX5_give_145 rfl ?_
                refine jx_callD (pc := 147) C (go_X5_94 C (S.h.wy hv) (Nat.le_of_ble_eq_true rfl) dX5_give_147) (t_X4_add (S.h.wy hv) (S.h.wg hv) (R1.T.h.wg hv) (by omega)) (by decide) (by decide) ⟨Nat.zero_le _, Nat.zero_le _⟩ ?_
                exact jx_end (jx_roomy (Nat.zero_le 1) (Nat.zero_le 6) (jn_iret (pc := 150) C hr (give_fin R1 O1 hw hv (by omega) (fun z => c39 (congrArg nI z)) ⟨c6, c15, c24⟩ ⟨c39, c51⟩ ⟨c100, c115⟩) dX5_give_150))
              · try rw [H.sh hw (by omega)] at c100
                try rw [H.sh hv (by omega)] at c115
                exact jx_thS (pc := 118) C hnc hst (by decide) htb (List.mem_of_getElem? (i := 4) rfl) (by refine cX_of (k := 3) ?_ (by decide) rfl R; unfold sgive; rw [if_pos ⟨c6, c15, c24⟩, if_pos ⟨c39, c51⟩, sW_N (by omega), sW_N (by omega), sW_N (by omega)]; refine congrArg Prod.fst (if_neg ?_); first | exact fun z => c115 z.2 | exact fun z => i32_nlt.mpr z.1 c100) dX5_give_118 dX5_give_121 dX5_give_122 dX5_give_124 dX5_give_127
          · rw [bI_0, decide_eq_false_iff_not] at c51
            exact jx_thA (pc := 54) C hnc hst (by decide) htb (List.mem_of_getElem? (i := 7) rfl) (by refine cX_of (k := 2) ?_ (by decide) rfl R; unfold sgive; rw [if_pos ⟨c6, c15, c24⟩]; refine congrArg Prod.fst (if_neg ?_); first | exact fun z => z.1 c39 | exact fun z => c51 z.2) dX5_give_54 dX5_give_57 dX5_give_58 dX5_give_60 dX5_give_63
      · rw [bI_0, decide_eq_false_iff_not] at c24
        exact jx_thI (pc := 27) C hnc hst (by decide) htb (List.mem_of_getElem? (i := 2) rfl) (by refine cX_of (k := 1) ?_ (by decide) rfl R; unfold sgive; refine congrArg Prod.fst (if_neg ?_); first | exact fun z => c6 z.1 | exact fun z => c15 z.2.1 | exact fun z => c24 z.2.2) dX5_give_27 dX5_give_30 dX5_give_31 dX5_give_33 dX5_give_36
theorem t_X5_give {l : Launch} (hst : l.stackTraces = false) {D : va_G} {cA : Nat → ClassId} {N0 : Nat} {Sh : jS} {I : jI} {P : jP} {L : jL} {y : Nat} (S : cS Sh y) {f : sF} {q : Nat} {pst : Nat → sF} {t : Nat} {ch : Nat → Nat} (R : cR I P y f q pst t ch) {wv ov cv g : Int32} : jXM l D cA N0 7 yX5_give cX5_give 7 (some .int) [.ref y, .int wv, .int ov, .int cv, .int g] Sh I P L (cQ I P L y ((sgive f wv ov cv g).1, (sgive f wv ov cv g).2.1) (sgive f wv ov cv g).2.2 (min q 5 + 1) (spush f q pst) t ch) (cX I P L y en3 (sgive f wv ov cv g).1 f q pst t ch) := jXM_of (by decide) (Nat.le_of_ble_eq_true rfl) (fun _ _ _ _ _ _ _ _ C hnc hr htb => b_X5_give C hnc hst htb hr S R)
