/-! THE CLASS'S CELLS, by the order in which they are made -/
def cS (Sh : jS) (y : Nat) : Prop := Sh y = some (5, 0) ∧ hS Sh (y + 1) ∧ hS Sh (y + 46) ∧ Sh (y + 91) = some (14, 6) ∧ Sh (y + 92) = some (10, 60) ∧ Sh (y + 93) = some (2, 0) ∧ Sh (y + 94) = some (10, 5) ∧ Sh (y + 95) = some (10, 10) ∧ ∀ i, i < 6 → hS Sh (y + 96 + 45 * i)
def cP (P : jP) (y : Nat) : Prop := P y 0 = some (y + 1) ∧ P y 1 = some (y + 46) ∧ P y 2 = some (y + 91) ∧ P y 3 = some (y + 92) ∧ P y 4 = some (y + 93) ∧ P y 5 = some (y + 95) ∧ P (y + 93) 0 = some (y + 94) ∧ hP P (y + 1) ∧ hP P (y + 46) ∧ ∀ i, i < 6 → hP P (y + 96 + 45 * i)
theorem cS.obj {Sh : jS} {y : Nat} (S : cS Sh y) : Sh y = some (5, 0) := S.1
theorem cS.h {Sh : jS} {y : Nat} (S : cS Sh y) : hS Sh (y + 1) := S.2.1
theorem cS.tr {Sh : jS} {y : Nat} (S : cS Sh y) : hS Sh (y + 46) := S.2.2.1
theorem cS.sv {Sh : jS} {y : Nat} (S : cS Sh y) : Sh (y + 91) = some (14, 6) := S.2.2.2.1
theorem cS.sh {Sh : jS} {y i : Nat} (S : cS Sh y) (hi : i < 6) : hS Sh (y + 96 + 45 * i) := S.2.2.2.2.2.2.2.2 i hi
theorem cP.hall {P : jP} {y : Nat} (T : cP P y) : P y 0 = some (y + 1) := T.1
theorem cP.saved {P : jP} {y : Nat} (T : cP P y) : P y 2 = some (y + 91) := T.2.2.1
theorem cP.h {P : jP} {y : Nat} (T : cP P y) : hP P (y + 1) := T.2.2.2.2.2.2.2.1
theorem cP.tr {P : jP} {y : Nat} (T : cP P y) : hP P (y + 46) := T.2.2.2.2.2.2.2.2.1
theorem cP.sh {P : jP} {y i : Nat} (T : cP P y) (hi : i < 6) : hP P (y + 96 + 45 * i) := T.2.2.2.2.2.2.2.2.2 i hi
/-- references change at a hall's row of orders and the row of saved halls alone -/
def cE (P : jP) (y : Nat) (P' : jP) : Prop := ∀ b, b ≠ y + 91 → b ≠ y + 3 → b ≠ y + 48 → (∀ i, i < 6 → b ≠ y + 98 + 45 * i) → P' b = P b
theorem hP.ag {P P' : jP} {h : Nat} (H : hP P h) (F : ∀ b, h ≤ b → b < h + 45 → b ≠ h + 2 → P' b = P b) : hP P' h := by
  obtain ⟨a1, a2, a3, a4, a5, a6, a7, a8⟩ := H
  refine ⟨by rw [F _ (by omega) (by omega) (by omega)]; exact a1, by rw [F _ (by omega) (by omega) (by omega)]; exact a2, by rw [F _ (by omega) (by omega) (by omega)]; exact a3, by rw [F _ (by omega) (by omega) (by omega)]; exact a4, by rw [F _ (by omega) (by omega) (by omega)]; exact a5, by rw [F _ (by omega) (by omega) (by omega)]; exact a6, fun w hw => ⟨by rw [F _ (by omega) (by omega) (by omega)]; exact (a7 w hw).1, by rw [F _ (by omega) (by omega) (by omega)]; exact (a7 w hw).2.1, by rw [F _ (by omega) (by omega) (by omega)]; exact (a7 w hw).2.2⟩, fun j hj => by rw [F _ (by omega) (by omega) (by omega)]; exact a8 j hj⟩
theorem cP.ag {P P' : jP} {y : Nat} (T : cP P y) (F : cE P y P') : cP P' y := by
  obtain ⟨a1, a2, a3, a4, a5, a6, a7, a8, a9, a10⟩ := T
  refine ⟨by rw [F _ (by omega) (by omega) (by omega) (fun i _ => by omega)]; exact a1, by rw [F _ (by omega) (by omega) (by omega) (fun i _ => by omega)]; exact a2, by rw [F _ (by omega) (by omega) (by omega) (fun i _ => by omega)]; exact a3, by rw [F _ (by omega) (by omega) (by omega) (fun i _ => by omega)]; exact a4, by rw [F _ (by omega) (by omega) (by omega) (fun i _ => by omega)]; exact a5, by rw [F _ (by omega) (by omega) (by omega) (fun i _ => by omega)]; exact a6, by rw [F _ (by omega) (by omega) (by omega) (fun i _ => by omega)]; exact a7, a8.ag (fun b h1 h2 h3 => F b (by omega) (by omega) (by omega) (fun i _ => by omega)), a9.ag (fun b h1 h2 h3 => F b (by omega) (by omega) (by omega) (fun i _ => by omega)), fun i hi => (a10 i hi).ag (fun b h1 h2 h3 => F b (by omega) (by omega) (by omega) (fun j _ => by omega))⟩
theorem cE.rf {P : jP} {y : Nat} : cE P y P := fun _ _ _ _ _ => rfl
theorem cE.tr {P P1 P2 : jP} {y : Nat} (a : cE P y P1) (b : cE P1 y P2) : cE P y P2 := fun q h1 h2 h3 h4 => (b q h1 h2 h3 h4).trans (a q h1 h2 h3 h4)
theorem cE.hall {P P' : jP} {y : Nat} (F : hFP P (y + 1) P') : cE P y P' := fun b _ h2 _ _ => F b (by omega)
def cM (I : jI) (P : jP) (y : Nat) (f : sF) : Prop := ∃ og, hR I (y + 1) og f ∧ hG P (y + 1) og
def cT (P : jP) (y : Nat) : Prop := ∃ og, hG P (y + 46) og
def cV (I : jI) (P : jP) (y q : Nat) (pst : Nat → sF) : Prop := ∃ sg : Nat → Nat, (∀ i, i < 6 → P (y + 91) i = some (y + 96 + 45 * sg i) ∧ sg i < 6) ∧ (∀ i j, i < 6 → j < 6 → sg i = sg j → i = j) ∧ ∀ i, i < 6 → ∃ og, hG P (y + 96 + 45 * sg i) og ∧ (i < q → hR I (y + 96 + 45 * sg i) og (pst i))
def cB (I : jI) (y t : Nat) (ch : Nat → Nat) : Prop := I y 7 = nI t ∧ t ≤ 60 ∧ ∀ j, j < t → I (y + 92) j = nI (ch j) ∧ 33 ≤ ch j ∧ ch j ≤ 126
theorem hG.ag {P P' : jP} {h : Nat} {og : Nat → Nat} (G : hG P h og) (e : P' (h + 2) = P (h + 2)) : hG P' h og := ⟨fun j hj => by rw [e]; exact G.1 j hj, G.2⟩
theorem hR.ag {I I' : jI} {h : Nat} {og : Nat → Nat} {f : sF} (H : hR I h og f) (hm : smany f ≤ 10) (hg : ∀ j, j < 10 → og j < 10) (K : ∀ b, h ≤ b → b < h + 45 → I' b = I b) : hR I' h og f := H.keep hm hg (fun b h1 h2 _ => K b h1 h2)
theorem cM.ag {I I' : jI} {P P' : jP} {y : Nat} {f : sF} (M : cM I P y f) (hm : smany f ≤ 10) (K : ∀ b, y + 1 ≤ b → b < y + 46 → I' b = I b) (e : P' (y + 3) = P (y + 3)) : cM I' P' y f := by
  obtain ⟨og, H, G⟩ := M
  exact ⟨og, H.ag hm G.lt (fun b h1 h2 => K b (by omega) (by omega)), G.ag e⟩
theorem cT.ag {P P' : jP} {y : Nat} (M : cT P y) (e : P' (y + 48) = P (y + 48)) : cT P' y := by
  obtain ⟨og, G⟩ := M
  exact ⟨og, G.ag e⟩
theorem cV.ag {I I' : jI} {P P' : jP} {y q : Nat} {pst : Nat → sF} (W : cV I P y q pst) (hm : ∀ i, i < q → smany (pst i) ≤ 10) (K : ∀ b, y + 96 ≤ b → b < y + 366 → I' b = I b) (e : ∀ b, y + 91 ≤ b → b < y + 366 → P' b = P b) : cV I' P' y q pst := by
  obtain ⟨sg, h1, h2, h3⟩ := W
  refine ⟨sg, fun i hi => by rw [e _ (by omega) (by omega)]; exact h1 i hi, h2, fun i hi => ?_⟩
  obtain ⟨og, G, H⟩ := h3 i hi
  have hs := (h1 i hi).2
  exact ⟨og, G.ag (e _ (by omega) (by omega)), fun hq => (H hq).ag (hm i hq) G.lt (fun b b1 b2 => K b (by omega) (by omega))⟩
theorem cB.ag {I I' : jI} {y t : Nat} {ch : Nat → Nat} (B : cB I y t ch) (K : I' y 7 = I y 7) (K2 : I' (y + 92) = I (y + 92)) : cB I' y t ch := ⟨K.trans B.1, B.2.1, fun j hj => by rw [K2]; exact B.2.2 j hj⟩
def rowd {α : Type} (r : Nat → α) (i : Nat) : Nat → α := fun j => if j < i then r (j + 1) else r j
theorem rowd_0 {α : Type} {r : Nat → α} : rowd r 0 = r := by funext j; exact if_neg (Nat.not_lt_zero j)
theorem rowd_s {α : Type} {r : Nat → α} {i : Nat} : va_up (rowd r i) i (r (i + 1)) = rowd r (i + 1) := by
  funext j
  simp only [va_up, rowd]
  by_cases h1 : j = i
  · subst h1; simp
  · by_cases h2 : j < i
    · simp [h1, h2, show j < i + 1 by omega]
    · simp [h1, h2, show ¬ j < i + 1 by omega]
theorem rowd_a {α : Type} {r : Nat → α} {i j : Nat} (h : i ≤ j) : rowd r i j = r j := if_neg (by omega)
def rowe {α : Type} (r : Nat → α) : Nat → α := fun j => if j < 5 then r (j + 1) else if j = 5 then r 0 else r j
theorem rowe_e {α : Type} {r : Nat → α} : va_up (rowd r 5) 5 (r 0) = rowe r := by
  funext j
  simp only [va_up, rowd, rowe]
  by_cases h1 : j = 5
  · subst h1; simp
  · by_cases h2 : j < 5
    · simp [h1, h2]
    · simp [h1, h2]
def spush (f : sF) (q : Nat) (pst : Nat → sF) : Nat → sF := fun i => if i = min q 5 then f else pst (i + (q - min q 5))
set_option maxHeartbeats 4000000 in
theorem lp_X5_drop {p : Program} {l : Launch} {e : Env} {s : State} {m : MethodId} {args : Array Value} {below : List Frame} {meth : Method} {c : Code} {D : va_G} {cA : Nat → ClassId} {N0 : Nat} {Sh : jS} {I : jI} {P : jP} {L : jL} {Qf : State → Prop} (C : jC p (jRm 0 0 0) s m args meth c D cA N0 cX5_dropOldest 3 RX5 0) {y : Nat} (S : cS Sh y) (T : cP P y) {sg : Nat → Nat} (hsg : ∀ i, i < 6 → P (y + 91) i = some (y + 96 + 45 * sg i) ∧ sg i < 6) (hx : jJ p l e (jRm 0 0 0) s m args below meth c D cA N0 3 Qf (fun _ => True) Sh I (va_up P (y + 91) (rowd (P (y + 91)) (5))) L 0 0 40 [some (.ref y), some (.ref (y + 96 + 45 * sg 0)), some (.int (nI (5)))] []) : ∀ d i, i + d = 5 → jJ p l e (jRm 0 0 0) s m args below meth c D cA N0 3 Qf (fun _ => True) Sh I (va_up P (y + 91) (rowd (P (y + 91)) (i))) L 0 0 9 [some (.ref y), some (.ref (y + 96 + 45 * sg 0)), some (.int (nI (i)))] [] := by
  intro d
  induction d with
  | zero =>
    intro i hi
    obtain rfl : i = 5 := by omega
    refine jx_iload_n (pc := 9) C dX5_dropOldest_9 rfl ?_
    refine jx_iconst (pc := 10) C dX5_dropOldest_10 nc_1 ?_
    refine jx_iaddN (pc := 11) C dX5_dropOldest_11 ?_
    refine jx_aload_n (pc := 12) C dX5_dropOldest_12 rfl ?_
    refine jx_getP (pc := 13) C kf_X5_19 rfl S.obj ((congrFun (va_up_n (by omega)) _).trans T.saved) dX5_dropOldest_13 ?_
    refine jx_alen14 (pc := 16) C S.sv dX5_dropOldest_16 ?_
    refine jx_icmp_ge (pc := 17) C (tgt := 40) dX5_dropOldest_17 (by decide) (fun c17 => ?_) (fun c17 => (by rw [nI_leI (by omega) (by omega)] at c17; exfalso; omega))
    rw [nI_leI (by omega) (by omega)] at c17
    exact hx
  | succ d ih =>
    intro i hi
    have e1 : (va_up P (y + 91) (rowd (P (y + 91)) (i))) (y + 91) (i + 1) = some (y + 96 + 45 * sg (i + 1)) := by rw [va_up_s, rowd_a (by omega)]; exact (hsg (i + 1) (by omega)).1
    have e2 : jstP (va_up P (y + 91) (rowd (P (y + 91)) (i))) (y + 91) i (some (y + 96 + 45 * sg (i + 1))) = (va_up P (y + 91) (rowd (P (y + 91)) (i + 1))) := by rw [jstP_up, ← (hsg (i + 1) (by omega)).1, rowd_s]
    refine jx_iload_n (pc := 9) C dX5_dropOldest_9 rfl ?_
    refine jx_iconst (pc := 10) C dX5_dropOldest_10 nc_1 ?_
    refine jx_iaddN (pc := 11) C dX5_dropOldest_11 ?_
    refine jx_aload_n (pc := 12) C dX5_dropOldest_12 rfl ?_
    refine jx_getP (pc := 13) C kf_X5_19 rfl S.obj ((congrFun (va_up_n (by omega)) _).trans T.saved) dX5_dropOldest_13 ?_
    refine jx_alen14 (pc := 16) C S.sv dX5_dropOldest_16 ?_
    refine jx_icmp_ge (pc := 17) C (tgt := 40) dX5_dropOldest_17 (by decide) (fun c17 => (by rw [nI_leI (by omega) (by omega)] at c17; exfalso; omega)) (fun c17 => ?_)
    rw [nI_leI (by omega) (by omega)] at c17
    refine jx_aload_n (pc := 20) C dX5_dropOldest_20 rfl ?_
    refine jx_getP (pc := 21) C kf_X5_19 rfl S.obj ((congrFun (va_up_n (by omega)) _).trans T.saved) dX5_dropOldest_21 ?_
    refine jx_iload_n (pc := 24) C dX5_dropOldest_24 rfl ?_
    refine jx_aload_n (pc := 25) C dX5_dropOldest_25 rfl ?_
    refine jx_getP (pc := 26) C kf_X5_19 rfl S.obj ((congrFun (va_up_n (by omega)) _).trans T.saved) dX5_dropOldest_26 ?_
    refine jx_iload_n (pc := 29) C dX5_dropOldest_29 rfl ?_
    refine jx_iconst (pc := 30) C dX5_dropOldest_30 nc_1 ?_
    refine jx_iaddN (pc := 31) C dX5_dropOldest_31 ?_
    refine jx_aald14 (pc := 32) C S.sv (by omega) (by decide) e1 dX5_dropOldest_32 ?_
    refine jx_aast14 (pc := 33) C S.sv (S.sh (hsg (i + 1) (by omega)).2).hall (by omega) (by decide) dX5_dropOldest_33 ?_
    rw [e2]
    refine jx_iincN (pc := 34) C dX5_dropOldest_34 rfl (jset_2 jc_r) (by decide) ?_
    refine jx_goto (pc := 37) C (tgt := 9) dX5_dropOldest_37 (by decide) ?_
    exact ih (i + 1) (by omega)
set_option maxHeartbeats 4000000 in
theorem b_X5_dropOldest {p : Program} {l : Launch} {e : Env} {s : State} {m : MethodId} {args : Array Value} {below : List Frame} {meth : Method} {c : Code} {D : va_G} {cA : Nat → ClassId} {N0 : Nat} {Sh : jS} {I : jI} {P : jP} {L : jL} (C : jC p (jRm 0 0 0) s m args meth c D cA N0 cX5_dropOldest 3 RX5 0) (hr : meth.sig.returnType = none) {y : Nat} (S : cS Sh y) (T : cP P y) {sg : Nat → Nat} (hsg : ∀ i, i < 6 → P (y + 91) i = some (y + 96 + 45 * sg i) ∧ sg i < 6) : jJ p l e (jRm 0 0 0) s m args below meth c D cA N0 3 (MQ below (jQn D cA N0 Sh (jD none (jst I y 6 (nI 5)) (va_up P (y + 91) (rowe (P (y + 91)))) L)) args s 0 0 (fun q => N0 ≤ q)) (fun _ => True) Sh I P L 0 0 0 [some (.ref y), none, none] [] := by
  refine jx_aload_n (pc := 0) C dX5_dropOldest_0 rfl ?_
  refine jx_getP (pc := 1) C kf_X5_19 rfl S.obj T.saved dX5_dropOldest_1 ?_
  refine jx_iconst (pc := 4) C dX5_dropOldest_4 nc_0 ?_
  refine jx_aald14 (pc := 5) C S.sv (by omega) (by decide) (hsg 0 (by decide)).1 dX5_dropOldest_5 ?_
  refine jx_astore_n (pc := 6) C dX5_dropOldest_6 (jset_1 jc_r) (by decide) ?_
  refine jx_iconst (pc := 7) C dX5_dropOldest_7 nc_0 ?_
  refine jx_istore_n (pc := 8) C dX5_dropOldest_8 (jset_2 jc_r) (by decide) ?_
  refine jx_mem (I' := I) (P' := (va_up P (y + 91) (rowd (P (y + 91)) (0)))) rfl (by rw [rowd_0]; exact va_up_id.symm) ?_
  refine lp_X5_drop C S T hsg ?_ 5 0 rfl
  have e2 : jstP (va_up P (y + 91) (rowd (P (y + 91)) (5))) (y + 91) 5 (some (y + 96 + 45 * sg 0)) = va_up P (y + 91) (rowe (P (y + 91))) := by rw [jstP_up, ← (hsg 0 (by decide)).1, rowe_e]
  refine jx_aload_n (pc := 40) C dX5_dropOldest_40 rfl ?_
  refine jx_getP (pc := 41) C kf_X5_19 rfl S.obj ((congrFun (va_up_n (by omega)) _).trans T.saved) dX5_dropOldest_41 ?_
  refine jx_aload_n (pc := 44) C dX5_dropOldest_44 rfl ?_
  refine jx_getP (pc := 45) C kf_X5_19 rfl S.obj ((congrFun (va_up_n (by omega)) _).trans T.saved) dX5_dropOldest_45 ?_
  refine jx_alen14 (pc := 48) C S.sv dX5_dropOldest_48 ?_
  refine jx_iconst (pc := 49) C dX5_dropOldest_49 nc_1 ?_
  refine jx_isubN (pc := 50) C (by omega) dX5_dropOldest_50 ?_
  refine jx_aload_n (pc := 51) C dX5_dropOldest_51 rfl ?_
  refine jx_aast14 (pc := 52) C S.sv (S.sh (hsg 0 (by decide)).2).hall (by omega) (by decide) dX5_dropOldest_52 ?_
  rw [show 6 - 1 = 5 from rfl, e2]
  refine jx_aload_n (pc := 53) C dX5_dropOldest_53 rfl ?_
  refine jx_aload_n (pc := 54) C dX5_dropOldest_54 rfl ?_
  refine jx_getP (pc := 55) C kf_X5_19 rfl S.obj ((congrFun (va_up_n (by omega)) _).trans T.saved) dX5_dropOldest_55 ?_
  refine jx_alen14 (pc := 58) C S.sv dX5_dropOldest_58 ?_
  refine jx_iconst (pc := 59) C dX5_dropOldest_59 nc_1 ?_
  refine jx_isubN (pc := 60) C (by omega) dX5_dropOldest_60 ?_
  refine jx_putI (pc := 61) C kf_X5_180 rfl rfl rfl rfl S.obj dX5_dropOldest_61 ?_
  exact jn_vret (pc := 64) C hr (jD_r) dX5_dropOldest_64
theorem t_X5_dropOldest {l : Launch} {D : va_G} {cA : Nat → ClassId} {N0 : Nat} {Sh : jS} {I : jI} {P : jP} {L : jL} {y : Nat} (S : cS Sh y) (T : cP P y) {sg : Nat → Nat} (hsg : ∀ i, i < 6 → P (y + 91) i = some (y + 96 + 45 * sg i) ∧ sg i < 6) : jN l D cA N0 0 yX5_dropOldest cX5_dropOldest 3 none [.ref y] Sh I P L (jD none (jst I y 6 (nI 5)) (va_up P (y + 91) (rowe (P (y + 91)))) L) := jN_of (by decide) (Nat.le_of_ble_eq_true rfl) (fun _ _ _ _ _ _ _ _ C hr => b_X5_dropOldest C hr S T hsg)
theorem cV.drop {I : jI} {P : jP} {y : Nat} {pst : Nat → sF} (W : cV I P y 6 pst) : cV I (va_up P (y + 91) (rowe (P (y + 91)))) y 5 (fun i => pst (i + 1)) := by
  obtain ⟨sg, h1, h2, h3⟩ := W
  have hv : ∀ i, i < 6 → ∃ j, j < 6 ∧ rowe sg i = sg j ∧ rowe (P (y + 91)) i = P (y + 91) j ∧ (i < 5 → j = i + 1) ∧ (i = 5 → j = 0) := by
    intro i hi
    unfold rowe
    by_cases h5 : i < 5
    · exact ⟨i + 1, by omega, if_pos h5, if_pos h5, fun _ => rfl, fun z => by omega⟩
    · have e5 : i = 5 := by omega
      exact ⟨0, by omega, (if_neg h5).trans (if_pos e5), (if_neg h5).trans (if_pos e5), fun z => by omega, fun _ => rfl⟩
  refine ⟨rowe sg, fun i hi => ?_, fun i j hi hj he => ?_, fun i hi => ?_⟩
  · obtain ⟨j, b1, b2, b3, -, -⟩ := hv i hi
    rw [va_up_s, b2, b3]; exact h1 j b1
  · obtain ⟨a, b1, b2, b3, b4, b5⟩ := hv i hi
    obtain ⟨c, c1, c2, c3, c4, c5⟩ := hv j hj
    rw [b2, c2] at he
    have := h2 a c b1 c1 he
    omega
  · obtain ⟨j, b1, b2, b3, b4, b5⟩ := hv i hi
    have hs := (h1 j b1).2
    obtain ⟨og, G, H⟩ := h3 j b1
    rw [b2]
    refine ⟨og, G.ag (va_up_n (by omega)), fun hq => ?_⟩
    have hj := b4 hq
    have h6 := H b1
    have e : pst j = pst (i + 1) := by rw [hj]
    rw [e] at h6
    exact h6
set_option maxHeartbeats 4000000 in
theorem b_X5_saveState {p : Program} {l : Launch} {e : Env} {s : State} {m : MethodId} {args : Array Value} {below : List Frame} {meth : Method} {c : Code} {D : va_G} {cA : Nat → ClassId} {N0 : Nat} {Sh : jS} {I : jI} {P : jP} {L : jL} (C : jC p (jRm 3 0 0) s m args meth c D cA N0 cX5_saveState 1 RX5 3) (hr : meth.sig.returnType = none) {y : Nat} (S : cS Sh y) (T : cP P y) {f : sF} (M : cM I P y f) (V : sI f) {q : Nat} {pst : Nat → sF} (W : cV I P y q pst) (hps : ∀ i, i < q → smany (pst i) ≤ 10) (hq : I y 6 = nI q) (hq6 : q ≤ 6) : jJ p l e (jRm 3 0 0) s m args below meth c D cA N0 1 (MQ below (jQn D cA N0 Sh (jNv (fun I' P' L' => cV I' P' y (min q 5 + 1) (spush f q pst) ∧ I' y = upd (I y) 6 (nI (min q 5 + 1)) ∧ (∀ b, b ≠ y → (b < y + 96 ∨ y + 366 ≤ b) → I' b = I b) ∧ (∀ b, b ≠ y + 91 → P' b = P b) ∧ L' = L))) args s 0 0 (fun q => N0 ≤ q)) (fun _ => True) Sh I P L 0 0 0 [some (.ref y)] [] := by
  have hk := V.1.2.1
  have key : ∀ (I1 : jI) (P1 : jP) (n : Nat) (ps1 : Nat → sF), n ≤ 5 → cP P1 y → cM I1 P1 y f → cV I1 P1 y n ps1 → I1 y 6 = nI n → I1 y = upd (I y) 6 (nI n) → (∀ b, b ≠ y → I1 b = I b) → (∀ b, b ≠ y + 91 → P1 b = P b) → n = min q 5 → (∀ i, i < n → smany (ps1 i) ≤ 10 ∧ spush f q pst i = ps1 i) → jJ p l e (jRm 3 0 0) s m args below meth c D cA N0 1 (MQ below (jQn D cA N0 Sh (jNv (fun I' P' L' => cV I' P' y (min q 5 + 1) (spush f q pst) ∧ I' y = upd (I y) 6 (nI (min q 5 + 1)) ∧ (∀ b, b ≠ y → (b < y + 96 ∨ y + 366 ≤ b) → I' b = I b) ∧ (∀ b, b ≠ y + 91 → P' b = P b) ∧ L' = L))) args s 0 0 (fun q => N0 ≤ q)) (fun _ => True) Sh I1 P1 L 0 0 16 [some (.ref y)] [] := by
    intro I1 P1 n ps1 hn T1 M1 W1 h6 hy hb hbP hnq hpush
    obtain ⟨ogm, Hm, Gm⟩ := M1
    obtain ⟨sg, w1, w2, w3⟩ := W1
    obtain ⟨s1, s2⟩ := w1 n (by omega)
    obtain ⟨ogs, Gs, -⟩ := w3 n (by omega)
    have hspn : spush f q pst n = f := by unfold spush; rw [if_pos hnq]
    refine jx_aload_n (pc := 16) C dX5_saveState_16 rfl ?_
    refine jx_getIv (pc := 17) C kf_X5_180 rfl S.obj h6 dX5_saveState_17 ?_
    refine jx_iconst (pc := 20) C dX5_saveState_20 nc_0 ?_
    refine jx_aload_n (pc := 21) C dX5_saveState_21 rfl ?_
    refine jx_getP (pc := 22) C kf_X5_19 rfl S.obj T1.saved dX5_saveState_22 ?_
    refine jx_alen14 (pc := 25) C S.sv dX5_saveState_25 ?_
    refine jx_iconst (pc := 26) C dX5_saveState_26 nc_1 ?_
    refine jx_isubN (pc := 27) C (by omega) dX5_saveState_27 ?_
    refine jx_callD (pc := 28) C (go_X5_37 C  (Nat.le_of_ble_eq_true rfl) dX5_saveState_28) t_X5_isWithin (by decide) (by decide) ⟨Nat.zero_le _, Nat.zero_le _⟩ ?_
    refine jx_if_eq (pc := 31) C (tgt := 60) dX5_saveState_31 (by decide) (fun c31 => (by exfalso; rw [bI_0] at c31; exact of_decide_eq_false c31 (nI_inn (by decide) hn))) (fun c31 => ?_)
    refine jx_aload_n (pc := 34) C dX5_saveState_34 rfl ?_
    refine jx_getP (pc := 35) C kf_X5_19 rfl S.obj T1.saved dX5_saveState_35 ?_
    refine jx_aload_n (pc := 38) C dX5_saveState_38 rfl ?_
    refine jx_getIv (pc := 39) C kf_X5_180 rfl S.obj h6 dX5_saveState_39 ?_
    refine jx_aald14 (pc := 42) C S.sv (by omega) (by decide) s1 dX5_saveState_42 ?_
    refine jx_aload_n (pc := 43) C dX5_saveState_43 rfl ?_
    refine jx_getP (pc := 44) C kf_X5_10 rfl S.obj T1.hall dX5_saveState_44 ?_
    refine jx_callv (pc := 47) C (go_X5_185 C (S.sh s2).hall (Nat.le_of_ble_eq_true rfl) dX5_saveState_47) (t_X0_copyFrom (S.sh s2) (T1.sh s2) Gs S.h T1.h Gm Hm hk (by omega)) (by decide) (by decide) ⟨Nat.zero_le _, Nat.zero_le _⟩ (fun I47 P47 L47 q47 => ?_)
    obtain ⟨H3, F, rfl, rfl⟩ := q47
    refine jx_aload_n (pc := 50) C dX5_saveState_50 rfl ?_
    refine jx_dup (pc := 51) C dX5_saveState_51 rfl ?_
    refine jx_getIv (pc := 52) C kf_X5_180 rfl S.obj ((congrFun (F y (by omega)) 6).trans h6) dX5_saveState_52 ?_
    refine jx_iconst (pc := 55) C dX5_saveState_55 nc_1 ?_
    refine jx_iaddN (pc := 56) C dX5_saveState_56 ?_
    refine jx_putI (pc := 57) C kf_X5_180 rfl rfl rfl rfl S.obj dX5_saveState_57 ?_
    exact jn_vret (pc := 60) C hr (by
      refine ⟨rfl, ⟨sg, w1, w2, fun i hi => ?_⟩, ?_, fun b h1 h2 => ?_, hbP, rfl⟩
      · obtain ⟨og, G, H⟩ := w3 i hi
        have hs := (w1 i hi).2
        by_cases hin : i = n
        · subst hin
          refine ⟨ogs, Gs, fun _ => ?_⟩
          rw [hspn]
          exact H3.ag hk Gs.lt (fun b b1 b2 => jst_ne (by omega))
        · have hne : sg i ≠ sg n := fun z => hin (w2 i n hi (by omega) z)
          refine ⟨og, G, fun hlt => ?_⟩
          rw [(hpush i (by omega)).2]
          exact (H (by omega)).ag (hpush i (by omega)).1 G.lt (fun b b1 b2 => (jst_ne (by omega)).trans (F b (by omega)))
      · rw [jst_eq, F y (by omega), hy, hnq]
        funext k
        by_cases hk6 : k = 6
        · subst hk6; rw [upd_s, upd_s]
        · rw [upd_n hk6, upd_n hk6, upd_n hk6]
      · rw [jst_ne h1, F b (by omega)]; exact hb b h1) dX5_saveState_60
  rcases Nat.lt_or_ge q 6 with hlt | hge
  · have hmin : min q 5 = q := by omega
    refine jx_aload_n (pc := 0) C dX5_saveState_0 rfl ?_
    refine jx_getIv (pc := 1) C kf_X5_180 rfl S.obj hq dX5_saveState_1 ?_
    refine jx_aload_n (pc := 4) C dX5_saveState_4 rfl ?_
    refine jx_getP (pc := 5) C kf_X5_19 rfl S.obj T.saved dX5_saveState_5 ?_
    refine jx_alen14 (pc := 8) C S.sv dX5_saveState_8 ?_
    refine jx_icmp_lt (pc := 9) C (tgt := 16) dX5_saveState_9 (by decide) (fun c9 => ?_) (fun c9 => (by rw [nI_ltI (by omega) (by omega)] at c9; exfalso; omega))
    rw [nI_ltI (by omega) (by omega)] at c9
    exact key I P q pst (by omega) T M W hq (by funext k; by_cases hk6 : k = 6; (subst hk6; rw [upd_s, hq]); (rw [upd_n hk6])) (fun _ _ => rfl) (fun _ _ => rfl) hmin.symm (fun i hi => ⟨hps i hi, by unfold spush; rw [if_neg (by omega), hmin, Nat.sub_self]; rfl⟩)
  · obtain rfl : q = 6 := by omega
    obtain ⟨sg, w1, w2, w3⟩ := W
    have T1 : cP (va_up P (y + 91) (rowe (P (y + 91)))) y := T.ag (fun b h1 _ _ _ => va_up_n h1)
    have W1 := cV.drop ⟨sg, w1, w2, w3⟩
    refine jx_aload_n (pc := 0) C dX5_saveState_0 rfl ?_
    refine jx_getIv (pc := 1) C kf_X5_180 rfl S.obj hq dX5_saveState_1 ?_
    refine jx_aload_n (pc := 4) C dX5_saveState_4 rfl ?_
    refine jx_getP (pc := 5) C kf_X5_19 rfl S.obj T.saved dX5_saveState_5 ?_
    refine jx_alen14 (pc := 8) C S.sv dX5_saveState_8 ?_
    refine jx_icmp_lt (pc := 9) C (tgt := 16) dX5_saveState_9 (by decide) (fun c9 => (by rw [nI_ltI (by omega) (by omega)] at c9; exfalso; omega)) (fun c9 => ?_)
    rw [nI_ltI (by omega) (by omega)] at c9
    refine jx_aload_n (pc := 12) C dX5_saveState_12 rfl ?_
    refine jx_callDv (pc := 13) C (go_X5_265 C S.obj (Nat.le_of_ble_eq_true rfl) dX5_saveState_13) (t_X5_dropOldest S T w1) (by decide) (by decide) ⟨Nat.zero_le _, Nat.zero_le _⟩ ?_
    exact key _ _ 5 _ (by decide) T1 (M.ag hk (fun b h1 h2 => jst_ne (by omega)) (va_up_n (by omega))) (W1.ag (fun i hi => hps (i + 1) (by omega)) (fun b h1 h2 => jst_ne (by omega)) (fun _ _ _ => rfl)) (by rw [jst_eq, upd_s]) (by rw [jst_eq]) (fun b hb => jst_ne hb) (fun b hb => va_up_n hb) rfl (fun i hi => ⟨hps (i + 1) (by omega), by unfold spush; rw [if_neg (by omega)]; rfl⟩)
theorem t_X5_saveState {l : Launch} {D : va_G} {cA : Nat → ClassId} {N0 : Nat} {Sh : jS} {I : jI} {P : jP} {L : jL} {y : Nat} (S : cS Sh y) (T : cP P y) {f : sF} (M : cM I P y f) (V : sI f) {q : Nat} {pst : Nat → sF} (W : cV I P y q pst) (hps : ∀ i, i < q → smany (pst i) ≤ 10) (hq : I y 6 = nI q) (hq6 : q ≤ 6) : jN l D cA N0 3 yX5_saveState cX5_saveState 1 none [.ref y] Sh I P L (jNv (fun I' P' L' => cV I' P' y (min q 5 + 1) (spush f q pst) ∧ I' y = upd (I y) 6 (nI (min q 5 + 1)) ∧ (∀ b, b ≠ y → (b < y + 96 ∨ y + 366 ≤ b) → I' b = I b) ∧ (∀ b, b ≠ y + 91 → P' b = P b) ∧ L' = L)) := jN_of (by decide) (Nat.le_of_ble_eq_true rfl) (fun _ _ _ _ _ _ _ _ C hr => b_X5_saveState C hr S T M V W hps hq hq6)
theorem sput_I {f : sF} {rows : Nat → Nat → Nat} (V : sI f) : ∀ {n}, smany f + n ≤ 10 → (∀ i, i < n → (1 ≤ rows i 0 ∧ rows i 0 ≤ 200) ∧ (40 ≤ rows i 1 ∧ rows i 1 ≤ 200) ∧ rows i 2 < 4 ∧ rows i 3 ≤ 99) → sI (sput f rows n) := by
  intro n
  induction n with
  | zero => intro _ _; exact V
  | succ n ih =>
    intro hn hr
    have h1 := ih (by omega) (fun i hi => hr i (by omega))
    obtain ⟨r1, r2, r3, r4⟩ := hr n (by omega)
    exact scomes_I h1 (by rw [sput_m V.1.1 (by omega)]; omega) r3 r2 r1 r4
