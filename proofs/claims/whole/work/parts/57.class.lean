/-! THE CLASS'S CELLS, by the order in which they are made -/
def cS (Sh : jS) (y : Nat) : Prop := Sh y = some (5, 0) ∧ hS Sh (y + 1) ∧ hS Sh (y + 46) ∧ Sh (y + 91) = some (14, 6) ∧ Sh (y + 92) = some (10, 60) ∧ Sh (y + 93) = some (2, 0) ∧ Sh (y + 94) = some (10, 5) ∧ Sh (y + 95) = some (10, 10) ∧ ∀ i, i < 6 → hS Sh (y + 96 + 45 * i)
def cP (P : jP) (y : Nat) : Prop := P y 0 = some (y + 1) ∧ P y 1 = some (y + 46) ∧ P y 2 = some (y + 91) ∧ P y 3 = some (y + 92) ∧ P y 4 = some (y + 93) ∧ P y 5 = some (y + 95) ∧ P (y + 93) 0 = some (y + 94) ∧ hP P (y + 1) ∧ hP P (y + 46) ∧ ∀ i, i < 6 → hP P (y + 96 + 45 * i)
theorem cS.obj {Sh : jS} {y : Nat} (S : cS Sh y) : Sh y = some (5, 0) := S.1
theorem cS.h {Sh : jS} {y : Nat} (S : cS Sh y) : hS Sh (y + 1) := S.2.1
theorem cS.tr {Sh : jS} {y : Nat} (S : cS Sh y) : hS Sh (y + 46) := S.2.2.1
theorem cS.sv {Sh : jS} {y : Nat} (S : cS Sh y) : Sh (y + 91) = some (14, 6) := S.2.2.2.1
theorem cS.bu {Sh : jS} {y : Nat} (S : cS Sh y) : Sh (y + 92) = some (10, 60) := S.2.2.2.2.1
theorem cS.rd {Sh : jS} {y : Nat} (S : cS Sh y) : Sh (y + 93) = some (2, 0) := S.2.2.2.2.2.1
theorem cS.nu {Sh : jS} {y : Nat} (S : cS Sh y) : Sh (y + 94) = some (10, 5) := S.2.2.2.2.2.2.1
theorem cS.en {Sh : jS} {y : Nat} (S : cS Sh y) : Sh (y + 95) = some (10, 10) := S.2.2.2.2.2.2.2.1
theorem cS.sh {Sh : jS} {y i : Nat} (S : cS Sh y) (hi : i < 6) : hS Sh (y + 96 + 45 * i) := S.2.2.2.2.2.2.2.2 i hi
theorem cP.hall {P : jP} {y : Nat} (T : cP P y) : P y 0 = some (y + 1) := T.1
theorem cP.trial {P : jP} {y : Nat} (T : cP P y) : P y 1 = some (y + 46) := T.2.1
theorem cP.saved {P : jP} {y : Nat} (T : cP P y) : P y 2 = some (y + 91) := T.2.2.1
theorem cP.buffer {P : jP} {y : Nat} (T : cP P y) : P y 3 = some (y + 92) := T.2.2.2.1
theorem cP.reader {P : jP} {y : Nat} (T : cP P y) : P y 4 = some (y + 93) := T.2.2.2.2.1
theorem cP.ends {P : jP} {y : Nat} (T : cP P y) : P y 5 = some (y + 95) := T.2.2.2.2.2.1
theorem cP.num {P : jP} {y : Nat} (T : cP P y) : P (y + 93) 0 = some (y + 94) := T.2.2.2.2.2.2.1
theorem cP.h {P : jP} {y : Nat} (T : cP P y) : hP P (y + 1) := T.2.2.2.2.2.2.2.1
theorem cP.tr {P : jP} {y : Nat} (T : cP P y) : hP P (y + 46) := T.2.2.2.2.2.2.2.2.1
theorem cP.sh {P : jP} {y i : Nat} (T : cP P y) (hi : i < 6) : hP P (y + 96 + 45 * i) := T.2.2.2.2.2.2.2.2.2 i hi
theorem cS.r {Sh : jS} {P : jP} {y : Nat} (S : cS Sh y) (T : cP P y) : rS Sh P (y + 93) := ⟨S.rd, S.nu, T.num⟩
/-- references change at a hall's row of orders and the row of saved halls alone -/
def cE (P : jP) (y : Nat) (P' : jP) : Prop := ∀ b, b ≠ y + 91 → b ≠ y + 3 → b ≠ y + 48 → (∀ i, i < 6 → b ≠ y + 98 + 45 * i) → P' b = P b
theorem hP.ag {P P' : jP} {h : Nat} (H : hP P h) (F : ∀ b, h ≤ b → b < h + 45 → b ≠ h + 2 → P' b = P b) : hP P' h := by
  obtain ⟨a1, a2, a3, a4, a5, a6, a7, a8⟩ := H
  refine ⟨by rw [F _ (by omega) (by omega) (by omega)]; exact a1, by rw [F _ (by omega) (by omega) (by omega)]; exact a2, by rw [F _ (by omega) (by omega) (by omega)]; exact a3, by rw [F _ (by omega) (by omega) (by omega)]; exact a4, by rw [F _ (by omega) (by omega) (by omega)]; exact a5, by rw [F _ (by omega) (by omega) (by omega)]; exact a6, fun w hw => ⟨by rw [F _ (by omega) (by omega) (by omega)]; exact (a7 w hw).1, by rw [F _ (by omega) (by omega) (by omega)]; exact (a7 w hw).2.1, by rw [F _ (by omega) (by omega) (by omega)]; exact (a7 w hw).2.2⟩, fun j hj => by rw [F _ (by omega) (by omega) (by omega)]; exact a8 j hj⟩
theorem cP.ag {P P' : jP} {y : Nat} (T : cP P y) (F : cE P y P') : cP P' y := by
  obtain ⟨a1, a2, a3, a4, a5, a6, a7, a8, a9, a10⟩ := T
  refine ⟨by rw [F _ (by omega) (by omega) (by omega) (fun i _ => by omega)]; exact a1, by rw [F _ (by omega) (by omega) (by omega) (fun i _ => by omega)]; exact a2, by rw [F _ (by omega) (by omega) (by omega) (fun i _ => by omega)]; exact a3, by rw [F _ (by omega) (by omega) (by omega) (fun i _ => by omega)]; exact a4, by rw [F _ (by omega) (by omega) (by omega) (fun i _ => by omega)]; exact a5, by rw [F _ (by omega) (by omega) (by omega) (fun i _ => by omega)]; exact a6, by rw [F _ (by omega) (by omega) (by omega) (fun i _ => by omega)]; exact a7, a8.ag (fun b h1 h2 h3 => F b (by omega) (by omega) (by omega) (fun i _ => by omega)), a9.ag (fun b h1 h2 h3 => F b (by omega) (by omega) (by omega) (fun i _ => by omega)), fun i hi => (a10 i hi).ag (fun b h1 h2 h3 => F b (by omega) (by omega) (by omega) (fun j _ => by omega))⟩
theorem cE.rf {P : jP} {y : Nat} : cE P y P := fun _ _ _ _ _ => rfl
theorem cE.tr {P P1 P2 : jP} {y : Nat} (a : cE P y P1) (b : cE P1 y P2) : cE P y P2 := fun q h1 h2 h3 h4 => (b q h1 h2 h3 h4).trans (a q h1 h2 h3 h4)
theorem cE.hall {P P' : jP} {y : Nat} (F : hFP P (y + 1) P') : cE P y P' := fun b _ h2 _ _ => F b (by omega)
theorem cE.trial {P P' : jP} {y : Nat} (F : hFP P (y + 46) P') : cE P y P' := fun b _ _ h3 _ => F b (by omega)
def cM (I : jI) (P : jP) (y : Nat) (f : sF) : Prop := ∃ og, hR I (y + 1) og f ∧ hG P (y + 1) og
def cT (P : jP) (y : Nat) : Prop := ∃ og, hG P (y + 46) og
def cV (I : jI) (P : jP) (y q : Nat) (pst : Nat → sF) : Prop := ∃ sg : Nat → Nat, (∀ i, i < 6 → P (y + 91) i = some (y + 96 + 45 * sg i) ∧ sg i < 6) ∧ (∀ i j, i < 6 → j < 6 → sg i = sg j → i = j) ∧ ∀ i, i < 6 → ∃ og, hG P (y + 96 + 45 * sg i) og ∧ (i < q → hR I (y + 96 + 45 * sg i) og (pst i))
def cB (I : jI) (y t : Nat) (ch : Nat → Nat) : Prop := I y 7 = nI t ∧ t ≤ 60 ∧ ∀ j, j < t → I (y + 92) j = nI (ch j) ∧ 33 ≤ ch j ∧ ch j ≤ 126
theorem hG.ag {P P' : jP} {h : Nat} {og : Nat → Nat} (G : hG P h og) (e : P' (h + 2) = P (h + 2)) : hG P' h og := ⟨fun j hj => by rw [e]; exact G.1 j hj, G.2⟩
theorem hR.ag {I I' : jI} {h : Nat} {og : Nat → Nat} {f : sF} (H : hR I h og f) (hm : smany f ≤ 10) (hg : ∀ j, j < 10 → og j < 10) (K : ∀ b, h ≤ b → b < h + 45 → I' b = I b) : hR I' h og f := H.keep hm hg (fun b h1 h2 _ => K b h1 h2)
theorem cM.ag {I I' : jI} {P P' : jP} {y : Nat} {f : sF} (M : cM I P y f) (hm : smany f ≤ 10) (K : ∀ b, y + 1 ≤ b → b < y + 46 → I' b = I b) (e : P' (y + 3) = P (y + 3)) : cM I' P' y f := by
  obtain ⟨og, H, G⟩ := M
  exact ⟨og, H.ag hm G.lt (fun b h1 h2 => K b (by omega) (by omega)), G.ag e⟩
theorem cT.ag {P P' : jP} {y : Nat} (M : cT P y) (e : P' (y + 48) = P (y + 48)) : cT P' y := by
  obtain ⟨og, G⟩ := M
  exact ⟨og, G.ag e⟩
theorem cV.ag {I I' : jI} {P P' : jP} {y q : Nat} {pst : Nat → sF} (W : cV I P y q pst) (hm : ∀ i, i < q → smany (pst i) ≤ 10) (K : ∀ b, y + 96 ≤ b → b < y + 366 → I' b = I b) (e : ∀ b, y + 91 ≤ b → b < y + 366 → P' b = P b) : cV I' P' y q pst := by
  obtain ⟨sg, h1, h2, h3⟩ := W
  refine ⟨sg, fun i hi => by rw [e _ (by omega) (by omega)]; exact h1 i hi, h2, fun i hi => ?_⟩
  obtain ⟨og, G, H⟩ := h3 i hi
  have hs := (h1 i hi).2
  exact ⟨og, G.ag (e _ (by omega) (by omega)), fun hq => (H hq).ag (hm i hq) G.lt (fun b b1 b2 => K b (by omega) (by omega))⟩
theorem cB.ag {I I' : jI} {y t : Nat} {ch : Nat → Nat} (B : cB I y t ch) (K : I' y 7 = I y 7) (K2 : I' (y + 92) = I (y + 92)) : cB I' y t ch := ⟨K.trans B.1, B.2.1, fun j hj => by rw [K2]; exact B.2.2 j hj⟩
def rowd {α : Type} (r : Nat → α) (i : Nat) : Nat → α := fun j => if j < i then r (j + 1) else r j
theorem rowd_0 {α : Type} {r : Nat → α} : rowd r 0 = r := by funext j; exact if_neg (Nat.not_lt_zero j)
theorem rowd_s {α : Type} {r : Nat → α} {i : Nat} : va_up (rowd r i) i (r (i + 1)) = rowd r (i + 1) := by
  funext j
  simp only [va_up, rowd]
  by_cases h1 : j = i
  · subst h1; simp
  · by_cases h2 : j < i
    · simp [h1, h2, show j < i + 1 by omega]
    · simp [h1, h2, show ¬ j < i + 1 by omega]
theorem rowd_a {α : Type} {r : Nat → α} {i j : Nat} (h : i ≤ j) : rowd r i j = r j := if_neg (by omega)
def rowe {α : Type} (r : Nat → α) : Nat → α := fun j => if j < 5 then r (j + 1) else if j = 5 then r 0 else r j
theorem rowe_e {α : Type} {r : Nat → α} : va_up (rowd r 5) 5 (r 0) = rowe r := by
  funext j
  simp only [va_up, rowd, rowe]
  by_cases h1 : j = 5
  · subst h1; simp
  · by_cases h2 : j < 5
    · simp [h1, h2]
    · simp [h1, h2]
def spush (f : sF) (q : Nat) (pst : Nat → sF) : Nat → sF := fun i => if i = min q 5 then f else pst (i + (q - min q 5))
set_option maxHeartbeats 4000000 in
theorem lp_X5_drop {p : Program} {l : Launch} {e : Env} {s : State} {m : MethodId} {args : Array Value} {below : List Frame} {meth : Method} {c : Code} {D : va_G} {cA : Nat → ClassId} {N0 : Nat} {Sh : jS} {I : jI} {P : jP} {L : jL} {Qf : State → Prop} (C : jC p (jRm 0 0 0) s m args meth c D cA N0 cX5_dropOldest 3 RX5 0) {y : Nat} (S : cS Sh y) (T : cP P y) {sg : Nat → Nat} (hsg : ∀ i, i < 6 → P (y + 91) i = some (y + 96 + 45 * sg i) ∧ sg i < 6) (hx : jJ p l e (jRm 0 0 0) s m args below meth c D cA N0 3 Qf (fun _ => True) Sh I (va_up P (y + 91) (rowd (P (y + 91)) (5))) L 0 0 40 [some (.ref y), some (.ref (y + 96 + 45 * sg 0)), some (.int (nI (5)))] []) : ∀ d i, i + d = 5 → jJ p l e (jRm 0 0 0) s m args below meth c D cA N0 3 Qf (fun _ => True) Sh I (va_up P (y + 91) (rowd (P (y + 91)) (i))) L 0 0 9 [some (.ref y), some (.ref (y + 96 + 45 * sg 0)), some (.int (nI (i)))] [] := by
  intro d
  induction d with
  | zero =>
    intro i hi
    obtain rfl : i = 5 := by omega
    refine jx_iload_n (pc := 9) C dX5_dropOldest_9 rfl ?_
    refine jx_iconst (pc := 10) C dX5_dropOldest_10 nc_1 ?_
    refine jx_iaddN (pc := 11) C dX5_dropOldest_11 ?_
    refine jx_aload_n (pc := 12) C dX5_dropOldest_12 rfl ?_
    refine jx_getP (pc := 13) C kf_X5_19 rfl S.obj ((congrFun (va_up_n (by omega)) _).trans T.saved) dX5_dropOldest_13 ?_
    refine jx_alen14 (pc := 16) C S.sv dX5_dropOldest_16 ?_
    refine jx_icmp_ge (pc := 17) C (tgt := 40) dX5_dropOldest_17 (by decide) (fun c17 => ?_) (fun c17 => (by rw [nI_leI (by omega) (by omega)] at c17; exfalso; omega))
    rw [nI_leI (by omega) (by omega)] at c17
    exact hx
  | succ d ih =>
    intro i hi
    have e1 : (va_up P (y + 91) (rowd (P (y + 91)) (i))) (y + 91) (i + 1) = some (y + 96 + 45 * sg (i + 1)) := by rw [va_up_s, rowd_a (by omega)]; exact (hsg (i + 1) (by omega)).1
    have e2 : jstP (va_up P (y + 91) (rowd (P (y + 91)) (i))) (y + 91) i (some (y + 96 + 45 * sg (i + 1))) = (va_up P (y + 91) (rowd (P (y + 91)) (i + 1))) := by rw [jstP_up, ← (hsg (i + 1) (by omega)).1, rowd_s]
    refine jx_iload_n (pc := 9) C dX5_dropOldest_9 rfl ?_
    refine jx_iconst (pc := 10) C dX5_dropOldest_10 nc_1 ?_
    refine jx_iaddN (pc := 11) C dX5_dropOldest_11 ?_
    refine jx_aload_n (pc := 12) C dX5_dropOldest_12 rfl ?_
    refine jx_getP (pc := 13) C kf_X5_19 rfl S.obj ((congrFun (va_up_n (by omega)) _).trans T.saved) dX5_dropOldest_13 ?_
    refine jx_alen14 (pc := 16) C S.sv dX5_dropOldest_16 ?_
    refine jx_icmp_ge (pc := 17) C (tgt := 40) dX5_dropOldest_17 (by decide) (fun c17 => (by rw [nI_leI (by omega) (by omega)] at c17; exfalso; omega)) (fun c17 => ?_)
    rw [nI_leI (by omega) (by omega)] at c17
    refine jx_aload_n (pc := 20) C dX5_dropOldest_20 rfl ?_
    refine jx_getP (pc := 21) C kf_X5_19 rfl S.obj ((congrFun (va_up_n (by omega)) _).trans T.saved) dX5_dropOldest_21 ?_
    refine jx_iload_n (pc := 24) C dX5_dropOldest_24 rfl ?_
    refine jx_aload_n (pc := 25) C dX5_dropOldest_25 rfl ?_
    refine jx_getP (pc := 26) C kf_X5_19 rfl S.obj ((congrFun (va_up_n (by omega)) _).trans T.saved) dX5_dropOldest_26 ?_
    refine jx_iload_n (pc := 29) C dX5_dropOldest_29 rfl ?_
    refine jx_iconst (pc := 30) C dX5_dropOldest_30 nc_1 ?_
    refine jx_iaddN (pc := 31) C dX5_dropOldest_31 ?_
    refine jx_aald14 (pc := 32) C S.sv (by omega) (by decide) e1 dX5_dropOldest_32 ?_
    refine jx_aast14 (pc := 33) C S.sv (S.sh (hsg (i + 1) (by omega)).2).hall (by omega) (by decide) dX5_dropOldest_33 ?_
    rw [e2]
    refine jx_iincN (pc := 34) C dX5_dropOldest_34 rfl (jset_2 jc_r) (by decide) ?_
    refine jx_goto (pc := 37) C (tgt := 9) dX5_dropOldest_37 (by decide) ?_
    exact ih (i + 1) (by omega)
set_option maxHeartbeats 4000000 in
theorem b_X5_dropOldest {p : Program} {l : Launch} {e : Env} {s : State} {m : MethodId} {args : Array Value} {below : List Frame} {meth : Method} {c : Code} {D : va_G} {cA : Nat → ClassId} {N0 : Nat} {Sh : jS} {I : jI} {P : jP} {L : jL} (C : jC p (jRm 0 0 0) s m args meth c D cA N0 cX5_dropOldest 3 RX5 0) (hr : meth.sig.returnType = none) {y : Nat} (S : cS Sh y) (T : cP P y) {sg : Nat → Nat} (hsg : ∀ i, i < 6 → P (y + 91) i = some (y + 96 + 45 * sg i) ∧ sg i < 6) : jJ p l e (jRm 0 0 0) s m args below meth c D cA N0 3 (MQ below (jQn D cA N0 Sh (jD none (jst I y 6 (nI 5)) (va_up P (y + 91) (rowe (P (y + 91)))) L)) args s 0 0 (fun q => N0 ≤ q)) (fun _ => True) Sh I P L 0 0 0 [some (.ref y), none, none] [] := by
  refine jx_aload_n (pc := 0) C dX5_dropOldest_0 rfl ?_
  refine jx_getP (pc := 1) C kf_X5_19 rfl S.obj T.saved dX5_dropOldest_1 ?_
  refine jx_iconst (pc := 4) C dX5_dropOldest_4 nc_0 ?_
  refine jx_aald14 (pc := 5) C S.sv (by omega) (by decide) (hsg 0 (by decide)).1 dX5_dropOldest_5 ?_
  refine jx_astore_n (pc := 6) C dX5_dropOldest_6 (jset_1 jc_r) (by decide) ?_
  refine jx_iconst (pc := 7) C dX5_dropOldest_7 nc_0 ?_
  refine jx_istore_n (pc := 8) C dX5_dropOldest_8 (jset_2 jc_r) (by decide) ?_
  refine jx_mem (I' := I) (P' := (va_up P (y + 91) (rowd (P (y + 91)) (0)))) rfl (by rw [rowd_0]; exact va_up_id.symm) ?_
  refine lp_X5_drop C S T hsg ?_ 5 0 rfl
  have e2 : jstP (va_up P (y + 91) (rowd (P (y + 91)) (5))) (y + 91) 5 (some (y + 96 + 45 * sg 0)) = va_up P (y + 91) (rowe (P (y + 91))) := by rw [jstP_up, ← (hsg 0 (by decide)).1, rowe_e]
  refine jx_aload_n (pc := 40) C dX5_dropOldest_40 rfl ?_
  refine jx_getP (pc := 41) C kf_X5_19 rfl S.obj ((congrFun (va_up_n (by omega)) _).trans T.saved) dX5_dropOldest_41 ?_
  refine jx_aload_n (pc := 44) C dX5_dropOldest_44 rfl ?_
  refine jx_getP (pc := 45) C kf_X5_19 rfl S.obj ((congrFun (va_up_n (by omega)) _).trans T.saved) dX5_dropOldest_45 ?_
  refine jx_alen14 (pc := 48) C S.sv dX5_dropOldest_48 ?_
  refine jx_iconst (pc := 49) C dX5_dropOldest_49 nc_1 ?_
  refine jx_isubN (pc := 50) C (by omega) dX5_dropOldest_50 ?_
  refine jx_aload_n (pc := 51) C dX5_dropOldest_51 rfl ?_
  refine jx_aast14 (pc := 52) C S.sv (S.sh (hsg 0 (by decide)).2).hall (by omega) (by decide) dX5_dropOldest_52 ?_
  rw [show 6 - 1 = 5 from rfl, e2]
  refine jx_aload_n (pc := 53) C dX5_dropOldest_53 rfl ?_
  refine jx_aload_n (pc := 54) C dX5_dropOldest_54 rfl ?_
  refine jx_getP (pc := 55) C kf_X5_19 rfl S.obj ((congrFun (va_up_n (by omega)) _).trans T.saved) dX5_dropOldest_55 ?_
  refine jx_alen14 (pc := 58) C S.sv dX5_dropOldest_58 ?_
  refine jx_iconst (pc := 59) C dX5_dropOldest_59 nc_1 ?_
  refine jx_isubN (pc := 60) C (by omega) dX5_dropOldest_60 ?_
  refine jx_putI (pc := 61) C kf_X5_180 rfl rfl rfl rfl S.obj dX5_dropOldest_61 ?_
  exact jn_vret (pc := 64) C hr (jD_r) dX5_dropOldest_64
theorem t_X5_dropOldest {l : Launch} {D : va_G} {cA : Nat → ClassId} {N0 : Nat} {Sh : jS} {I : jI} {P : jP} {L : jL} {y : Nat} (S : cS Sh y) (T : cP P y) {sg : Nat → Nat} (hsg : ∀ i, i < 6 → P (y + 91) i = some (y + 96 + 45 * sg i) ∧ sg i < 6) : jN l D cA N0 0 yX5_dropOldest cX5_dropOldest 3 none [.ref y] Sh I P L (jD none (jst I y 6 (nI 5)) (va_up P (y + 91) (rowe (P (y + 91)))) L) := jN_of (by decide) (Nat.le_of_ble_eq_true rfl) (fun _ _ _ _ _ _ _ _ C hr => b_X5_dropOldest C hr S T hsg)
theorem cV.drop {I : jI} {P : jP} {y : Nat} {pst : Nat → sF} (W : cV I P y 6 pst) : cV I (va_up P (y + 91) (rowe (P (y + 91)))) y 5 (fun i => pst (i + 1)) := by
  obtain ⟨sg, h1, h2, h3⟩ := W
  have hv : ∀ i, i < 6 → ∃ j, j < 6 ∧ rowe sg i = sg j ∧ rowe (P (y + 91)) i = P (y + 91) j ∧ (i < 5 → j = i + 1) ∧ (i = 5 → j = 0) := by
    intro i hi
    unfold rowe
    by_cases h5 : i < 5
    · exact ⟨i + 1, by omega, if_pos h5, if_pos h5, fun _ => rfl, fun z => by omega⟩
    · have e5 : i = 5 := by omega
      exact ⟨0, by omega, (if_neg h5).trans (if_pos e5), (if_neg h5).trans (if_pos e5), fun z => by omega, fun _ => rfl⟩
  refine ⟨rowe sg, fun i hi => ?_, fun i j hi hj he => ?_, fun i hi => ?_⟩
  · obtain ⟨j, b1, b2, b3, -, -⟩ := hv i hi
    rw [va_up_s, b2, b3]; exact h1 j b1
  · obtain ⟨a, b1, b2, b3, b4, b5⟩ := hv i hi
    obtain ⟨c, c1, c2, c3, c4, c5⟩ := hv j hj
    rw [b2, c2] at he
    have := h2 a c b1 c1 he
    omega
  · obtain ⟨j, b1, b2, b3, b4, b5⟩ := hv i hi
    have hs := (h1 j b1).2
    obtain ⟨og, G, H⟩ := h3 j b1
    rw [b2]
    refine ⟨og, G.ag (va_up_n (by omega)), fun hq => ?_⟩
    have hj := b4 hq
    have h6 := H b1
    have e : pst j = pst (i + 1) := by rw [hj]
    rw [e] at h6
    exact h6
set_option maxHeartbeats 4000000 in
theorem b_X5_saveState {p : Program} {l : Launch} {e : Env} {s : State} {m : MethodId} {args : Array Value} {below : List Frame} {meth : Method} {c : Code} {D : va_G} {cA : Nat → ClassId} {N0 : Nat} {Sh : jS} {I : jI} {P : jP} {L : jL} (C : jC p (jRm 3 0 0) s m args meth c D cA N0 cX5_saveState 1 RX5 3) (hr : meth.sig.returnType = none) {y : Nat} (S : cS Sh y) (T : cP P y) {f : sF} (M : cM I P y f) (V : sI f) {q : Nat} {pst : Nat → sF} (W : cV I P y q pst) (hps : ∀ i, i < q → smany (pst i) ≤ 10) (hq : I y 6 = nI q) (hq6 : q ≤ 6) : jJ p l e (jRm 3 0 0) s m args below meth c D cA N0 1 (MQ below (jQn D cA N0 Sh (jNv (fun I' P' L' => cV I' P' y (min q 5 + 1) (spush f q pst) ∧ I' y = upd (I y) 6 (nI (min q 5 + 1)) ∧ (∀ b, b ≠ y → (b < y + 96 ∨ y + 366 ≤ b) → I' b = I b) ∧ (∀ b, b ≠ y + 91 → P' b = P b) ∧ L' = L))) args s 0 0 (fun q => N0 ≤ q)) (fun _ => True) Sh I P L 0 0 0 [some (.ref y)] [] := by
  have hk := V.1.2.1
  have key : ∀ (I1 : jI) (P1 : jP) (n : Nat) (ps1 : Nat → sF), n ≤ 5 → cP P1 y → cM I1 P1 y f → cV I1 P1 y n ps1 → I1 y 6 = nI n → I1 y = upd (I y) 6 (nI n) → (∀ b, b ≠ y → I1 b = I b) → (∀ b, b ≠ y + 91 → P1 b = P b) → n = min q 5 → (∀ i, i < n → smany (ps1 i) ≤ 10 ∧ spush f q pst i = ps1 i) → jJ p l e (jRm 3 0 0) s m args below meth c D cA N0 1 (MQ below (jQn D cA N0 Sh (jNv (fun I' P' L' => cV I' P' y (min q 5 + 1) (spush f q pst) ∧ I' y = upd (I y) 6 (nI (min q 5 + 1)) ∧ (∀ b, b ≠ y → (b < y + 96 ∨ y + 366 ≤ b) → I' b = I b) ∧ (∀ b, b ≠ y + 91 → P' b = P b) ∧ L' = L))) args s 0 0 (fun q => N0 ≤ q)) (fun _ => True) Sh I1 P1 L 0 0 16 [some (.ref y)] [] := by
    intro I1 P1 n ps1 hn T1 M1 W1 h6 hy hb hbP hnq hpush
    obtain ⟨ogm, Hm, Gm⟩ := M1
    obtain ⟨sg, w1, w2, w3⟩ := W1
    obtain ⟨s1, s2⟩ := w1 n (by omega)
    obtain ⟨ogs, Gs, -⟩ := w3 n (by omega)
    have hspn : spush f q pst n = f := by unfold spush; rw [if_pos hnq]
    refine jx_aload_n (pc := 16) C dX5_saveState_16 rfl ?_
    refine jx_getIv (pc := 17) C kf_X5_180 rfl S.obj h6 dX5_saveState_17 ?_
    refine jx_iconst (pc := 20) C dX5_saveState_20 nc_0 ?_
    refine jx_aload_n (pc := 21) C dX5_saveState_21 rfl ?_
    refine jx_getP (pc := 22) C kf_X5_19 rfl S.obj T1.saved dX5_saveState_22 ?_
    refine jx_alen14 (pc := 25) C S.sv dX5_saveState_25 ?_
    refine jx_iconst (pc := 26) C dX5_saveState_26 nc_1 ?_
    refine jx_isubN (pc := 27) C (by omega) dX5_saveState_27 ?_
    refine jx_callD (pc := 28) C (go_X5_37 C  (Nat.le_of_ble_eq_true rfl) dX5_saveState_28) t_X5_isWithin (by decide) (by decide) ⟨Nat.zero_le _, Nat.zero_le _⟩ ?_
    refine jx_if_eq (pc := 31) C (tgt := 60) dX5_saveState_31 (by decide) (fun c31 => (by exfalso; rw [bI_0] at c31; exact of_decide_eq_false c31 (nI_inn (by decide) hn))) (fun c31 => ?_)
    refine jx_aload_n (pc := 34) C dX5_saveState_34 rfl ?_
    refine jx_getP (pc := 35) C kf_X5_19 rfl S.obj T1.saved dX5_saveState_35 ?_
    refine jx_aload_n (pc := 38) C dX5_saveState_38 rfl ?_
    refine jx_getIv (pc := 39) C kf_X5_180 rfl S.obj h6 dX5_saveState_39 ?_
    refine jx_aald14 (pc := 42) C S.sv (by omega) (by decide) s1 dX5_saveState_42 ?_
    refine jx_aload_n (pc := 43) C dX5_saveState_43 rfl ?_
    refine jx_getP (pc := 44) C kf_X5_10 rfl S.obj T1.hall dX5_saveState_44 ?_
    refine jx_callv (pc := 47) C (go_X5_185 C (S.sh s2).hall (Nat.le_of_ble_eq_true rfl) dX5_saveState_47) (t_X0_copyFrom (S.sh s2) (T1.sh s2) Gs S.h T1.h Gm Hm hk (by omega)) (by decide) (by decide) ⟨Nat.zero_le _, Nat.zero_le _⟩ (fun I47 P47 L47 q47 => ?_)
    obtain ⟨H3, F, rfl, rfl⟩ := q47
    refine jx_aload_n (pc := 50) C dX5_saveState_50 rfl ?_
    refine jx_dup (pc := 51) C dX5_saveState_51 rfl ?_
    refine jx_getIv (pc := 52) C kf_X5_180 rfl S.obj ((congrFun (F y (by omega)) 6).trans h6) dX5_saveState_52 ?_
    refine jx_iconst (pc := 55) C dX5_saveState_55 nc_1 ?_
    refine jx_iaddN (pc := 56) C dX5_saveState_56 ?_
    refine jx_putI (pc := 57) C kf_X5_180 rfl rfl rfl rfl S.obj dX5_saveState_57 ?_
    exact jn_vret (pc := 60) C hr (by
      refine ⟨rfl, ⟨sg, w1, w2, fun i hi => ?_⟩, ?_, fun b h1 h2 => ?_, hbP, rfl⟩
      · obtain ⟨og, G, H⟩ := w3 i hi
        have hs := (w1 i hi).2
        by_cases hin : i = n
        · subst hin
          refine ⟨ogs, Gs, fun _ => ?_⟩
          rw [hspn]
          exact H3.ag hk Gs.lt (fun b b1 b2 => jst_ne (by omega))
        · have hne : sg i ≠ sg n := fun z => hin (w2 i n hi (by omega) z)
          refine ⟨og, G, fun hlt => ?_⟩
          rw [(hpush i (by omega)).2]
          exact (H (by omega)).ag (hpush i (by omega)).1 G.lt (fun b b1 b2 => (jst_ne (by omega)).trans (F b (by omega)))
      · rw [jst_eq, F y (by omega), hy, hnq]
        funext k
        by_cases hk6 : k = 6
        · subst hk6; rw [upd_s, upd_s]
        · rw [upd_n hk6, upd_n hk6, upd_n hk6]
      · rw [jst_ne h1, F b (by omega)]; exact hb b h1) dX5_saveState_60
  rcases Nat.lt_or_ge q 6 with hlt | hge
  · have hmin : min q 5 = q := by omega
    refine jx_aload_n (pc := 0) C dX5_saveState_0 rfl ?_
    refine jx_getIv (pc := 1) C kf_X5_180 rfl S.obj hq dX5_saveState_1 ?_
    refine jx_aload_n (pc := 4) C dX5_saveState_4 rfl ?_
    refine jx_getP (pc := 5) C kf_X5_19 rfl S.obj T.saved dX5_saveState_5 ?_
    refine jx_alen14 (pc := 8) C S.sv dX5_saveState_8 ?_
    refine jx_icmp_lt (pc := 9) C (tgt := 16) dX5_saveState_9 (by decide) (fun c9 => ?_) (fun c9 => (by rw [nI_ltI (by omega) (by omega)] at c9; exfalso; omega))
    rw [nI_ltI (by omega) (by omega)] at c9
    exact key I P q pst (by omega) T M W hq (by funext k; by_cases hk6 : k = 6; (subst hk6; rw [upd_s, hq]); (rw [upd_n hk6])) (fun _ _ => rfl) (fun _ _ => rfl) hmin.symm (fun i hi => ⟨hps i hi, by unfold spush; rw [if_neg (by omega), hmin, Nat.sub_self]; rfl⟩)
  · obtain rfl : q = 6 := by omega
    obtain ⟨sg, w1, w2, w3⟩ := W
    have T1 : cP (va_up P (y + 91) (rowe (P (y + 91)))) y := T.ag (fun b h1 _ _ _ => va_up_n h1)
    have W1 := cV.drop ⟨sg, w1, w2, w3⟩
    refine jx_aload_n (pc := 0) C dX5_saveState_0 rfl ?_
    refine jx_getIv (pc := 1) C kf_X5_180 rfl S.obj hq dX5_saveState_1 ?_
    refine jx_aload_n (pc := 4) C dX5_saveState_4 rfl ?_
    refine jx_getP (pc := 5) C kf_X5_19 rfl S.obj T.saved dX5_saveState_5 ?_
    refine jx_alen14 (pc := 8) C S.sv dX5_saveState_8 ?_
    refine jx_icmp_lt (pc := 9) C (tgt := 16) dX5_saveState_9 (by decide) (fun c9 => (by rw [nI_ltI (by omega) (by omega)] at c9; exfalso; omega)) (fun c9 => ?_)
    rw [nI_ltI (by omega) (by omega)] at c9
    refine jx_aload_n (pc := 12) C dX5_saveState_12 rfl ?_
    refine jx_callDv (pc := 13) C (go_X5_265 C S.obj (Nat.le_of_ble_eq_true rfl) dX5_saveState_13) (t_X5_dropOldest S T w1) (by decide) (by decide) ⟨Nat.zero_le _, Nat.zero_le _⟩ ?_
    exact key _ _ 5 _ (by decide) T1 (M.ag hk (fun b h1 h2 => jst_ne (by omega)) (va_up_n (by omega))) (W1.ag (fun i hi => hps (i + 1) (by omega)) (fun b h1 h2 => jst_ne (by omega)) (fun _ _ _ => rfl)) (by rw [jst_eq, upd_s]) (by rw [jst_eq]) (fun b hb => jst_ne hb) (fun b hb => va_up_n hb) rfl (fun i hi => ⟨hps (i + 1) (by omega), by unfold spush; rw [if_neg (by omega)]; rfl⟩)
theorem t_X5_saveState {l : Launch} {D : va_G} {cA : Nat → ClassId} {N0 : Nat} {Sh : jS} {I : jI} {P : jP} {L : jL} {y : Nat} (S : cS Sh y) (T : cP P y) {f : sF} (M : cM I P y f) (V : sI f) {q : Nat} {pst : Nat → sF} (W : cV I P y q pst) (hps : ∀ i, i < q → smany (pst i) ≤ 10) (hq : I y 6 = nI q) (hq6 : q ≤ 6) : jN l D cA N0 3 yX5_saveState cX5_saveState 1 none [.ref y] Sh I P L (jNv (fun I' P' L' => cV I' P' y (min q 5 + 1) (spush f q pst) ∧ I' y = upd (I y) 6 (nI (min q 5 + 1)) ∧ (∀ b, b ≠ y → (b < y + 96 ∨ y + 366 ≤ b) → I' b = I b) ∧ (∀ b, b ≠ y + 91 → P' b = P b) ∧ L' = L)) := jN_of (by decide) (Nat.le_of_ble_eq_true rfl) (fun _ _ _ _ _ _ _ _ C hr => b_X5_saveState C hr S T M V W hps hq hq6)
theorem tStep_dg {s s1 : tS} {c : Nat} (h : tStep s c = some s1) : s1.2.1 ≤ s.2.1 + 1 ∧ s.2.2.2.1 ≤ s1.2.2.2.1 ∧ s1.2.2.2.1 ≤ s.2.2.2.1 + 1 := by
  unfold tStep at h
  split at h
  · split at h
    · cases h
    · cases h; exact ⟨Nat.le_refl _, Nat.le_refl _, Nat.le_add_right _ _⟩
  · split at h
    · split at h
      · cases h
      · cases h; exact ⟨Nat.zero_le _, Nat.le_add_right _ _, Nat.le_refl _⟩
      · cases h; exact ⟨Nat.zero_le _, Nat.le_refl _, Nat.le_add_right _ _⟩
    · cases h
theorem tRun_dg {ch : Nat → Nat} : ∀ {n : Nat} {s : tS}, tRun ch tS0 n = some s → s.2.1 ≤ n := by
  intro n
  induction n with
  | zero => intro s h; cases h; exact Nat.le_refl 0
  | succ n ih =>
    intro s h
    cases hn : tRun ch tS0 n with
    | none => have h2 := tRun_none hn 1; rw [h] at h2; cases h2
    | some s0 =>
      rw [tRun_s hn] at h
      have := ih hn
      have := (tStep_dg h).1
      omega
set_option maxHeartbeats 4000000 in
theorem lp_X5_readBuffer {p : Program} {l : Launch} {e : Env} {s : State} {m : MethodId} {args : Array Value} {below : List Frame} {meth : Method} {c : Code} {D : va_G} {cA : Nat → ClassId} {N0 : Nat} {Sh : jS} {I : jI} {P : jP} {L : jL} (C : jC p (jRm 4 0 0) s m args meth c D cA N0 cX5_readBuffer 2 RX5 4) {y : Nat} (S : cS Sh y) (T : cP P y) {t : Nat} {ch : Nat → Nat} (B : cB I y t ch) (hr : meth.sig.returnType = some .int) : ∀ n i I1 s1, i + n = t → tRun ch tS0 i = some s1 → rR I1 (y + 93) s1 → rF I (y + 93) I1 → jJ p l e (jRm 4 0 0) s m args below meth c D cA N0 2 (MQ below (jQn D cA N0 Sh (jNi (fun v' I' P' L' => v' = nI (tErr ch t) ∧ (∀ s1, tRun ch tS0 t = some s1 → rR I' (y + 93) s1) ∧ rF I (y + 93) I' ∧ P' = P ∧ L' = L))) args s 0 0 (fun q => N0 ≤ q)) (fun _ => True) Sh I1 P L 0 0 9 [some (.ref y), some (.int (nI (i)))] [] := by
  have ht := B.2.1
  intro n
  induction n with
  | zero =>
    intro i I1 s1 hi hs H1 F1
    obtain rfl : i = t := by omega
    have h7 : I1 y 7 = nI i := (congrFun (F1 y (by omega) (by omega)) 7).trans B.1
    refine jx_iload_n (pc := 9) C dX5_readBuffer_9 rfl ?_
    refine jx_aload_n (pc := 10) C dX5_readBuffer_10 rfl ?_
    refine jx_getIv (pc := 11) C kf_X5_160 rfl S.obj h7 dX5_readBuffer_11 ?_
    refine jx_icmp_ge (pc := 14) C (tgt := 50) dX5_readBuffer_14 (by decide) (fun c14 => ?_) (fun c14 => (by rw [nI_leI (by omega) (by omega)] at c14; exfalso; omega))
    rw [nI_leI (by omega) (by omega)] at c14
    refine jx_aload_n (pc := 50) C dX5_readBuffer_50 rfl ?_
    refine jx_getIv (pc := 51) C kf_X5_160 rfl S.obj h7 dX5_readBuffer_51 ?_
    exact jn_iret (pc := 54) C hr (⟨_, rfl, congrArg nI (tErr_eq hs (Nat.le_refl _) (fun z => absurd z (Nat.lt_irrefl _))).symm, fun s2 z => (by rw [hs] at z; cases z; exact H1), F1, rfl, rfl⟩) dX5_readBuffer_54
  | succ n ih =>
    intro i I1 s1 hi hs H1 F1
    have h7 : I1 y 7 = nI t := (congrFun (F1 y (by omega) (by omega)) 7).trans B.1
    obtain ⟨b1, b2, b3⟩ := B.2.2 i (by omega)
    have hch : I1 (y + 92) i = nI (ch i) := by rw [F1 _ (by omega) (by omega)]; exact b1
    have hdg := tRun_dg hs
    have AC := t_X2_accepts (l := l) (D := D) (cA := cA) (N0 := N0) (L := L) (S.r T) H1 (c0 := ch i) (by omega) (by omega)
    cases hst : tStep s1 (ch i) with
    | none =>
      refine jx_iload_n (pc := 9) C dX5_readBuffer_9 rfl ?_
      refine jx_aload_n (pc := 10) C dX5_readBuffer_10 rfl ?_
      refine jx_getIv (pc := 11) C kf_X5_160 rfl S.obj h7 dX5_readBuffer_11 ?_
      refine jx_icmp_ge (pc := 14) C (tgt := 50) dX5_readBuffer_14 (by decide) (fun c14 => (by rw [nI_leI (by omega) (by omega)] at c14; exfalso; omega)) (fun c14 => ?_)
      rw [nI_leI (by omega) (by omega)] at c14
      refine jx_iload_n (pc := 17) C dX5_readBuffer_17 rfl ?_
      refine jx_aload_n (pc := 18) C dX5_readBuffer_18 rfl ?_
      refine jx_getP (pc := 19) C kf_X5_23 rfl S.obj T.buffer dX5_readBuffer_19 ?_
      refine jx_alen10 (pc := 22) C S.bu dX5_readBuffer_22 ?_
      refine jx_icmp_ge (pc := 23) C (tgt := 50) dX5_readBuffer_23 (by decide) (fun c23 => (by rw [nI_leI (by omega) (by omega)] at c23; exfalso; omega)) (fun c23 => ?_)
      rw [nI_leI (by omega) (by omega)] at c23
      refine jx_aload_n (pc := 26) C dX5_readBuffer_26 rfl ?_
      refine jx_getP (pc := 27) C kf_X5_30 rfl S.obj T.reader dX5_readBuffer_27 ?_
      refine jx_aload_n (pc := 30) C dX5_readBuffer_30 rfl ?_
      refine jx_getP (pc := 31) C kf_X5_23 rfl S.obj T.buffer dX5_readBuffer_31 ?_
      refine jx_iload_n (pc := 34) C dX5_readBuffer_34 rfl ?_
      refine jx_ialdv (pc := 35) C S.bu (by omega) (by decide) hch dX5_readBuffer_35 ?_
      refine jx_calli (pc := 36) C (go_X5_271 C S.rd (Nat.le_of_ble_eq_true rfl) dX5_readBuffer_36) AC (by decide) (by decide) ⟨Nat.zero_le _, Nat.zero_le _⟩ (fun r36 I36 P36 L36 q36 => ?_)
      obtain ⟨rfl, z1, z2, rfl, rfl⟩ := q36
      refine jx_if_ne (pc := 39) C (tgt := 44) dX5_readBuffer_39 (by decide) (fun c39 => (by exfalso; rw [hst] at c39; exact c39 rfl)) (fun c39 => ?_)
      refine jx_iload_n (pc := 42) C dX5_readBuffer_42 rfl ?_
      exact jn_iret (pc := 43) C hr (⟨_, rfl, congrArg nI (tErr_eq hs (by omega) (fun _ => hst)).symm, fun s2 z => (by have h9 := tRun_none ((tRun_s hs).trans hst) (t - (i + 1)); rw [show i + 1 + (t - (i + 1)) = t by omega, z] at h9; cases h9), fun b h1 h2 => (z2 b h1 h2).trans (F1 b h1 h2), rfl, rfl⟩) dX5_readBuffer_43
    | some s2 =>
      refine jx_iload_n (pc := 9) C dX5_readBuffer_9 rfl ?_
      refine jx_aload_n (pc := 10) C dX5_readBuffer_10 rfl ?_
      refine jx_getIv (pc := 11) C kf_X5_160 rfl S.obj h7 dX5_readBuffer_11 ?_
      refine jx_icmp_ge (pc := 14) C (tgt := 50) dX5_readBuffer_14 (by decide) (fun c14 => (by rw [nI_leI (by omega) (by omega)] at c14; exfalso; omega)) (fun c14 => ?_)
      rw [nI_leI (by omega) (by omega)] at c14
      refine jx_iload_n (pc := 17) C dX5_readBuffer_17 rfl ?_
      refine jx_aload_n (pc := 18) C dX5_readBuffer_18 rfl ?_
      refine jx_getP (pc := 19) C kf_X5_23 rfl S.obj T.buffer dX5_readBuffer_19 ?_
      refine jx_alen10 (pc := 22) C S.bu dX5_readBuffer_22 ?_
      refine jx_icmp_ge (pc := 23) C (tgt := 50) dX5_readBuffer_23 (by decide) (fun c23 => (by rw [nI_leI (by omega) (by omega)] at c23; exfalso; omega)) (fun c23 => ?_)
      rw [nI_leI (by omega) (by omega)] at c23
      refine jx_aload_n (pc := 26) C dX5_readBuffer_26 rfl ?_
      refine jx_getP (pc := 27) C kf_X5_30 rfl S.obj T.reader dX5_readBuffer_27 ?_
      refine jx_aload_n (pc := 30) C dX5_readBuffer_30 rfl ?_
      refine jx_getP (pc := 31) C kf_X5_23 rfl S.obj T.buffer dX5_readBuffer_31 ?_
      refine jx_iload_n (pc := 34) C dX5_readBuffer_34 rfl ?_
      refine jx_ialdv (pc := 35) C S.bu (by omega) (by decide) hch dX5_readBuffer_35 ?_
      refine jx_calli (pc := 36) C (go_X5_271 C S.rd (Nat.le_of_ble_eq_true rfl) dX5_readBuffer_36) AC (by decide) (by decide) ⟨Nat.zero_le _, Nat.zero_le _⟩ (fun r36 I36 P36 L36 q36 => ?_)
      obtain ⟨rfl, z1, z2, rfl, rfl⟩ := q36
      refine jx_if_ne (pc := 39) C (tgt := 44) dX5_readBuffer_39 (by decide) (fun c39 => ?_) (fun c39 => (by exfalso; rw [hst] at c39; exact absurd c39 (by show ¬ bI true = 0; decide)))
      refine jx_iincN (pc := 44) C dX5_readBuffer_44 rfl (jset_1 jc_r) (by decide) ?_
      refine jx_goto (pc := 47) C (tgt := 9) dX5_readBuffer_47 (by decide) ?_
      exact ih (i + 1) I36 s2 (by omega) ((tRun_s hs).trans hst) (z1 s2 hst) (fun b h1 h2 => (z2 b h1 h2).trans (F1 b h1 h2))
set_option maxHeartbeats 4000000 in
theorem b_X5_readBuffer {p : Program} {l : Launch} {e : Env} {s : State} {m : MethodId} {args : Array Value} {below : List Frame} {meth : Method} {c : Code} {D : va_G} {cA : Nat → ClassId} {N0 : Nat} {Sh : jS} {I : jI} {P : jP} {L : jL} (C : jC p (jRm 4 0 0) s m args meth c D cA N0 cX5_readBuffer 2 RX5 4) (hr : meth.sig.returnType = (some .int)) {y : Nat} (S : cS Sh y) (T : cP P y) {t : Nat} {ch : Nat → Nat} (B : cB I y t ch) : jJ p l e (jRm 4 0 0) s m args below meth c D cA N0 2 (MQ below (jQn D cA N0 Sh (jNi (fun v' I' P' L' => v' = nI (tErr ch t) ∧ (∀ s1, tRun ch tS0 t = some s1 → rR I' (y + 93) s1) ∧ rF I (y + 93) I' ∧ P' = P ∧ L' = L))) args s 0 0 (fun q => N0 ≤ q)) (fun _ => True) Sh I P L 0 0 0 [some (.ref y), none] [] := by
  have ht := B.2.1
  refine jx_aload_n (pc := 0) C dX5_readBuffer_0 rfl ?_
  refine jx_getP (pc := 1) C kf_X5_30 rfl S.obj T.reader dX5_readBuffer_1 ?_
  refine jx_callv (pc := 4) C (go_X5_268 C S.rd (Nat.le_of_ble_eq_true rfl) dX5_readBuffer_4) (t_X2_restart (S.r T)) (by decide) (by decide) ⟨Nat.zero_le _, Nat.zero_le _⟩ (fun I4 P4 L4 q4 => ?_)
  obtain ⟨H1, F1, rfl, rfl⟩ := q4
  refine jx_iconst (pc := 7) C dX5_readBuffer_7 nc_0 ?_
  refine jx_istore_n (pc := 8) C dX5_readBuffer_8 (jset_1 jc_r) (by decide) ?_
  exact lp_X5_readBuffer (I := I) C S T B hr t 0 I4 tS0 (Nat.zero_add t) rfl H1 F1
theorem t_X5_readBuffer {l : Launch} {D : va_G} {cA : Nat → ClassId} {N0 : Nat} {Sh : jS} {I : jI} {P : jP} {L : jL} {y : Nat} (S : cS Sh y) (T : cP P y) {t : Nat} {ch : Nat → Nat} (B : cB I y t ch) : jN l D cA N0 4 yX5_readBuffer cX5_readBuffer 2 (some .int) [.ref y] Sh I P L (jNi (fun v' I' P' L' => v' = nI (tErr ch t) ∧ (∀ s1, tRun ch tS0 t = some s1 → rR I' (y + 93) s1) ∧ rF I (y + 93) I' ∧ P' = P ∧ L' = L)) := jN_of (by decide) (Nat.le_of_ble_eq_true rfl) (fun _ _ _ _ _ _ _ _ C hr => b_X5_readBuffer C hr S T B)
/-- the numbers of a whole part -/
def tG (s : tS) : Prop := (∀ j, j < s.1 → j ≤ 2 → fLo j ≤ s.2.2.1 j ∧ s.2.2.1 j ≤ fHi j) ∧ s.2.2.1 3 ≤ 99 ∧ s.1 ≤ 4
theorem tG_0 : tG tS0 := ⟨fun j hj => absurd hj (Nat.not_lt_zero j), by decide, by decide⟩
theorem tG_n {q : Nat} {prev : Nat → Nat → Nat} : tG (0, 0, tNew, q, prev) := ⟨fun j hj => absurd hj (Nat.not_lt_zero j), by show tNew 3 ≤ 99; decide, Nat.zero_le _⟩
theorem tStep_G {s s1 : tS} {c : Nat} (g : tG s) (h : tStep s c = some s1) : tG s1 := by
  unfold tStep at h
  split at h
  · split at h
    · cases h
    · rename_i hd hz
      cases h
      have hnb : nbeg (tNext s.2.1 (s.2.2.1 s.1) c) (fLo s.1) (fHi s.1) = true := Bool.of_not_eq_false (fun z => hz (Or.inr z))
      have hle := nbeg_le hnb
      refine ⟨fun j hj h2 => ?_, ?_, g.2.2⟩
      · show fLo j ≤ updN s.2.2.1 s.1 _ j ∧ updN s.2.2.1 s.1 _ j ≤ fHi j
        have hjs : j < s.1 := hj
        rw [updN_n (by omega)]
        exact g.1 j hj h2
      · show updN s.2.2.1 s.1 _ 3 ≤ 99
        by_cases h3 : 3 = s.1
        · rw [← h3, updN_s]
          rw [← h3] at hle
          exact hle
        · rw [updN_n h3]; exact g.2.1
  · split at h
    · rename_i hd hs
      obtain ⟨v1, v2, v3⟩ := tStands_i (k := s.1) (dg := s.2.1) (g := s.2.2.1) (r := s.2.2.2) hs
      split at h
      · cases h
      · cases h; exact tG_n
      · rename_i hm
        cases h
        obtain ⟨u1, u2⟩ := tMark_up hm
        refine ⟨fun j hj h2 => ?_, g.2.1, tMark_le hm⟩
        by_cases hjs : j = s.1
        · subst hjs; exact ⟨v2, v3⟩
        · rcases u2 j hjs hj with z | z
          · exact g.1 j z h2
          · omega
    · cases h
theorem tRun_G {ch : Nat → Nat} : ∀ {n : Nat} {s : tS}, tRun ch tS0 n = some s → tG s := by
  intro n
  induction n with
  | zero => intro s h; cases h; exact tG_0
  | succ n ih =>
    intro s h
    cases hn : tRun ch tS0 n with
    | none => have h2 := tRun_none hn 1; rw [h] at h2; cases h2
    | some s0 =>
      rw [tRun_s hn] at h
      exact tStep_G (ih hn) h
theorem tG_done {s : tS} (g : tG s) (h2 : 2 ≤ s.1) (hs : tStands s = true) : (1 ≤ s.2.2.1 0 ∧ s.2.2.1 0 ≤ 200) ∧ (40 ≤ s.2.2.1 1 ∧ s.2.2.1 1 ≤ 200) ∧ s.2.2.1 2 < 4 ∧ s.2.2.1 3 ≤ 99 := by
  obtain ⟨v1, v2, v3⟩ := tStands_i (k := s.1) (dg := s.2.1) (g := s.2.2.1) (r := s.2.2.2) hs
  refine ⟨g.1 0 (by omega) (by decide), g.1 1 (by omega) (by decide), ?_, g.2.1⟩
  by_cases h3 : s.1 = 2
  · rw [h3] at v3
    have : s.2.2.1 2 ≤ 3 := v3
    omega
  · have : s.2.2.1 2 ≤ 3 := (g.1 2 (by omega) (by decide)).2
    omega
theorem sput_c {f : sF} {r1 r2 : Nat → Nat → Nat} : ∀ {n}, (∀ i, i < n → r1 i = r2 i) → sput f r1 n = sput f r2 n := by
  intro n
  induction n with
  | zero => intro _; rfl
  | succ n ih =>
    intro h
    show scomes (sput f r1 n) _ _ _ _ _ = scomes (sput f r2 n) _ _ _ _ _
    rw [ih (fun i hi => h i (by omega)), h n (by omega)]
set_option maxHeartbeats 4000000 in
theorem b_X5_takePart {p : Program} {l : Launch} {e : Env} {s : State} {m : MethodId} {args : Array Value} {below : List Frame} {meth : Method} {c : Code} {D : va_G} {cA : Nat → ClassId} {N0 : Nat} {Sh : jS} {I : jI} {P : jP} {L : jL} (C : jC p (jRm 2 0 0) s m args meth c D cA N0 cX5_takePart 2 RX5 2) (hr : meth.sig.returnType = none) {y : Nat} (S : cS Sh y) (T : cP P y) {f : sF} (M : cM I P y f) (V : sI f) (hn : smany f < 10) {s1 : tS} (H : rR I (y + 93) s1) (h2 : 2 ≤ s1.1) (hs : tStands s1 = true) : jJ p l e (jRm 2 0 0) s m args below meth c D cA N0 2 (MQ below (jQn D cA N0 Sh (jNv (fun I' P' L' => cM I' P' y (scomes f (nI (s1.2.2.1 2)) (nI (s1.2.2.1 1)) (nI (s1.2.2.1 0)) (nI (s1.2.2.1 3)) (nI (s1.2.2.1 4))) ∧ hF I (y + 1) I' ∧ hFP P (y + 1) P' ∧ L' = L))) args s 0 0 (fun q => N0 ≤ q)) (fun _ => True) Sh I P L 0 0 0 [some (.ref y), none] [] := by
  obtain ⟨og, HM, GM⟩ := M
  have hdg := (tStands_i (k := s1.1) (dg := s1.2.1) (g := s1.2.2.1) (r := s1.2.2.2) hs).1
  have hrd : ∀ j, j < 5 → I (y + 94) j = nI (s1.2.2.1 j) := fun j hj => H.2.2.2.2.1 j hj (by
    by_cases h3 : 3 ≤ j
    · exact Or.inl h3
    · by_cases h4 : j < s1.1
      · exact Or.inr (Or.inl h4)
      · exact Or.inr (Or.inr ⟨by omega, hdg⟩))
  refine jx_aload_n (pc := 0) C dX5_takePart_0 rfl ?_
  refine jx_getP (pc := 1) C kf_X5_30 rfl S.obj T.reader dX5_takePart_1 ?_
  refine jx_getP (pc := 4) C kf_X5_278 rfl S.rd T.num dX5_takePart_4 ?_
  refine jx_astore_n (pc := 7) C dX5_takePart_7 (jset_1 jc_r) (by decide) ?_
  refine jx_aload_n (pc := 8) C dX5_takePart_8 rfl ?_
  refine jx_getP (pc := 9) C kf_X5_10 rfl S.obj T.hall dX5_takePart_9 ?_
  refine jx_aload_n (pc := 12) C dX5_takePart_12 rfl ?_
  refine jx_iconst (pc := 13) C dX5_takePart_13 nc_2 ?_
  refine jx_ialdv (pc := 14) C S.nu (by omega) (by decide) (hrd 2 (by decide)) dX5_takePart_14 ?_
  refine jx_aload_n (pc := 15) C dX5_takePart_15 rfl ?_
  refine jx_iconst (pc := 16) C dX5_takePart_16 nc_1 ?_
  refine jx_ialdv (pc := 17) C S.nu (by omega) (by decide) (hrd 1 (by decide)) dX5_takePart_17 ?_
  refine jx_aload_n (pc := 18) C dX5_takePart_18 rfl ?_
  refine jx_iconst (pc := 19) C dX5_takePart_19 nc_0 ?_
  refine jx_ialdv (pc := 20) C S.nu (by omega) (by decide) (hrd 0 (by decide)) dX5_takePart_20 ?_
  refine jx_aload_n (pc := 21) C dX5_takePart_21 rfl ?_
  refine jx_iconst (pc := 22) C dX5_takePart_22 nc_3 ?_
  refine jx_ialdv (pc := 23) C S.nu (by omega) (by decide) (hrd 3 (by decide)) dX5_takePart_23 ?_
  refine jx_aload_n (pc := 24) C dX5_takePart_24 rfl ?_
  refine jx_iconst (pc := 25) C dX5_takePart_25 nc_4 ?_
  refine jx_ialdv (pc := 26) C S.nu (by omega) (by decide) (hrd 4 (by decide)) dX5_takePart_26 ?_
  refine jx_calli (pc := 27) C (go_X5_115 C S.h.hall (Nat.le_of_ble_eq_true rfl) dX5_takePart_27) (t_X0_take S.h T.h GM HM V hn) (by decide) (by decide) ⟨Nat.zero_le _, Nat.zero_le _⟩ (fun r27 I27 P27 L27 q27 => ?_)
  obtain ⟨rfl, ⟨og2, R2, G2⟩, F, E, rfl⟩ := q27
  refine jx_pop (pc := 30) C dX5_takePart_30 rfl ?_
  exact jn_vret (pc := 31) C hr (⟨rfl, ⟨og2, R2, G2⟩, F, E, rfl⟩) dX5_takePart_31
theorem t_X5_takePart {l : Launch} {D : va_G} {cA : Nat → ClassId} {N0 : Nat} {Sh : jS} {I : jI} {P : jP} {L : jL} {y : Nat} (S : cS Sh y) (T : cP P y) {f : sF} (M : cM I P y f) (V : sI f) (hn : smany f < 10) {s1 : tS} (H : rR I (y + 93) s1) (h2 : 2 ≤ s1.1) (hs : tStands s1 = true) : jN l D cA N0 2 yX5_takePart cX5_takePart 2 none [.ref y] Sh I P L (jNv (fun I' P' L' => cM I' P' y (scomes f (nI (s1.2.2.1 2)) (nI (s1.2.2.1 1)) (nI (s1.2.2.1 0)) (nI (s1.2.2.1 3)) (nI (s1.2.2.1 4))) ∧ hF I (y + 1) I' ∧ hFP P (y + 1) P' ∧ L' = L)) := jN_of (by decide) (Nat.le_of_ble_eq_true rfl) (fun _ _ _ _ _ _ _ _ C hr => b_X5_takePart C hr S T M V hn H h2 hs)
theorem sput_x {f : sF} {R prev : Nat → Nat → Nat} {q : Nat} {g : Nat → Nat} (h1 : ∀ i, i < q → R i = prev i) (h2 : R q = g) : sput f R (q + 1) = scomes (sput f prev q) (nI (g 2)) (nI (g 1)) (nI (g 0)) (nI (g 3)) (nI (g 4)) := by
  show scomes (sput f R q) (nI (R q 2)) (nI (R q 1)) (nI (R q 0)) (nI (R q 3)) (nI (R q 4)) = _
  rw [h2, sput_c h1]
theorem tMark_59 {k m : Nat} (h : tMark k 59 = some m) : m = 0 ∧ 2 ≤ k := by
  unfold tMark at h
  rw [if_neg (by decide), if_neg (by decide), if_neg (by decide), if_neg (by decide), if_pos rfl] at h
  split at h
  · rename_i h2; cases h; exact ⟨rfl, h2⟩
  · cases h
theorem tMark_0 {k c : Nat} (h : tMark k c = some 0) : c = 59 := by
  unfold tMark at h
  by_cases h1 : c = 120
  · rw [if_pos h1] at h; by_cases h2 : k = 0
    · rw [if_pos h2] at h; cases h
    · rw [if_neg h2] at h; cases h
  rw [if_neg h1] at h
  by_cases h1 : c = 99
  · rw [if_pos h1] at h; by_cases h2 : k = 1
    · rw [if_pos h2] at h; cases h
    · rw [if_neg h2] at h; cases h
  rw [if_neg h1] at h
  by_cases h1 : c = 36
  · rw [if_pos h1] at h; by_cases h2 : k = 2
    · rw [if_pos h2] at h; cases h
    · rw [if_neg h2] at h; cases h
  rw [if_neg h1] at h
  by_cases h1 : c = 64
  · rw [if_pos h1] at h; by_cases h2 : k = 2 ∨ k = 3
    · rw [if_pos h2] at h; cases h
    · rw [if_neg h2] at h; cases h
  rw [if_neg h1] at h
  by_cases h1 : c = 59
  · exact h1
  rw [if_neg h1] at h
  cases h
theorem tStep_59 {s s1 : tS} (h : tStep s 59 = some s1) : tStands s = true ∧ 2 ≤ s.1 ∧ s1 = (0, 0, tNew, s.2.2.2.1 + 1, fun i => if i = s.2.2.2.1 then s.2.2.1 else s.2.2.2.2 i) := by
  unfold tStep at h
  rw [if_neg (by decide)] at h
  split at h
  · rename_i hs
    split at h
    · cases h
    · rename_i hm
      cases h
      exact ⟨hs, (tMark_59 hm).2, rfl⟩
    · rename_i hm
      exact absurd (tMark_59 hm).1 (Nat.succ_ne_zero _)
  · cases h
theorem tStep_n59 {s s1 : tS} {c : Nat} (hc : c ≠ 59) (h : tStep s c = some s1) : s1.2.2.2 = s.2.2.2 := by
  unfold tStep at h
  split at h
  · split at h
    · cases h
    · cases h; rfl
  · split at h
    · split at h
      · cases h
      · rename_i hm
        exact absurd (tMark_0 hm) hc
      · cases h; rfl
    · cases h
theorem tRun_q {ch : Nat → Nat} {s1 : tS} {n : Nat} (h1 : tRun ch tS0 n = some s1) : ∀ {d} {s2 : tS}, tRun ch tS0 (n + d) = some s2 → s1.2.2.2.1 ≤ s2.2.2.2.1 := by
  intro d
  induction d with
  | zero => intro s2 h; rw [Nat.add_zero, h1] at h; cases h; exact Nat.le_refl _
  | succ d ih =>
    intro s2 h
    cases hn : tRun ch tS0 (n + d) with
    | none => have h2 := tRun_none hn 1; rw [show n + d + 1 = n + (d + 1) from rfl, h] at h2; cases h2
    | some s0 =>
      have h3 : tStep s0 (ch (n + d)) = some s2 := by rw [← tRun_s hn]; exact h
      have := ih hn
      have := (tStep_dg h3).2.1
      omega
theorem sput_I {f : sF} {rows : Nat → Nat → Nat} (V : sI f) : ∀ {n}, smany f + n ≤ 10 → (∀ i, i < n → (1 ≤ rows i 0 ∧ rows i 0 ≤ 200) ∧ (40 ≤ rows i 1 ∧ rows i 1 ≤ 200) ∧ rows i 2 < 4 ∧ rows i 3 ≤ 99) → sI (sput f rows n) := by
  intro n
  induction n with
  | zero => intro _ _; exact V
  | succ n ih =>
    intro hn hr
    have h1 := ih (by omega) (fun i hi => hr i (by omega))
    obtain ⟨r1, r2, r3, r4⟩ := hr n (by omega)
    exact scomes_I h1 (by rw [sput_m V.1.1 (by omega)]; omega) r3 r2 r1 r4
set_option maxHeartbeats 4000000 in
theorem lp_X5_takeParts {p : Program} {l : Launch} {e : Env} {s : State} {m : MethodId} {args : Array Value} {below : List Frame} {meth : Method} {c : Code} {D : va_G} {cA : Nat → ClassId} {N0 : Nat} {Sh : jS} {I : jI} {P : jP} {L : jL} (C : jC p (jRm 4 0 0) s m args meth c D cA N0 cX5_takeParts 2 RX5 4) {y : Nat} (S : cS Sh y) (T : cP P y) {f : sF} (M : cM I P y f) (V : sI f) {t : Nat} {ch : Nat → Nat} (B : cB I y t ch) {sz : tS} (hz : tRun ch tS0 t = some sz) (hd : tDone sz = true) (hn : smany f + (sz.2.2.2.1 + 1) ≤ 10) (hr : meth.sig.returnType = none) : ∀ n i I1 P1 s1, i + n = t → tRun ch tS0 i = some s1 → rR I1 (y + 93) s1 → cM I1 P1 y (sput f s1.2.2.2.2 s1.2.2.2.1) → sI (sput f s1.2.2.2.2 s1.2.2.2.1) → (∀ b, (b < y + 1 ∨ y + 46 ≤ b) → b ≠ y + 93 → b ≠ y + 94 → I1 b = I b) → hFP P (y + 1) P1 → jJ p l e (jRm 4 0 0) s m args below meth c D cA N0 2 (MQ below (jQn D cA N0 Sh (jNv (fun I' P' L' => (cM I' P' y (sput f (fun i => if i = sz.2.2.2.1 then sz.2.2.1 else sz.2.2.2.2 i) (sz.2.2.2.1 + 1)) ∧ sI (sput f (fun i => if i = sz.2.2.2.1 then sz.2.2.1 else sz.2.2.2.2 i) (sz.2.2.2.1 + 1))) ∧ (∀ b, (b < y + 1 ∨ y + 46 ≤ b) → b ≠ y + 93 → b ≠ y + 94 → I' b = I b) ∧ hFP P (y + 1) P' ∧ L' = L))) args s 0 0 (fun q => N0 ≤ q)) (fun _ => True) Sh I1 P1 L 0 0 9 [some (.ref y), some (.int (nI (i)))] [] := by
  have ht := B.2.1
  have hds := hd
  unfold tDone at hds
  rw [Bool.and_eq_true, decide_eq_true_eq] at hds
  obtain ⟨hd2, hdS⟩ := hds
  intro n
  induction n with
  | zero =>
    intro i I1 P1 s1 hi hs H1 M1 V1 F1 E1
    obtain rfl : i = t := by omega
    have T1 := T.ag (cE.hall E1)
    have h7 : I1 y 7 = nI i := (congrFun (F1 y (by omega) (by omega) (by omega)) 7).trans B.1
    obtain rfl : s1 = sz := Option.some.inj (hs.symm.trans hz)
    have hm1 : smany (sput f s1.2.2.2.2 s1.2.2.2.1) < 10 := by rw [sput_m V.1.1 (by omega)]; omega
    have hrow : sput f (fun i => if i = s1.2.2.2.1 then s1.2.2.1 else s1.2.2.2.2 i) (s1.2.2.2.1 + 1) = scomes (sput f s1.2.2.2.2 s1.2.2.2.1) (nI (s1.2.2.1 2)) (nI (s1.2.2.1 1)) (nI (s1.2.2.1 0)) (nI (s1.2.2.1 3)) (nI (s1.2.2.1 4)) := sput_x (fun i hi => if_neg (by omega)) (if_pos rfl)
    obtain ⟨g1, g2, g3, g4⟩ := tG_done (tRun_G hs) hd2 hdS
    refine jx_iload_n (pc := 9) C dX5_takeParts_9 rfl ?_
    refine jx_aload_n (pc := 10) C dX5_takeParts_10 rfl ?_
    refine jx_getIv (pc := 11) C kf_X5_160 rfl S.obj h7 dX5_takeParts_11 ?_
    refine jx_icmp_ge (pc := 14) C (tgt := 61) dX5_takeParts_14 (by decide) (fun c14 => ?_) (fun c14 => (by rw [nI_leI (by omega) (by omega)] at c14; exfalso; omega))
    rw [nI_leI (by omega) (by omega)] at c14
    refine jx_aload_n (pc := 61) C dX5_takeParts_61 rfl ?_
    refine jx_callv (pc := 62) C (go_X5_275 C S.obj (Nat.le_of_ble_eq_true rfl) dX5_takeParts_62) (t_X5_takePart S T1 M1 V1 hm1 H1 hd2 hdS) (by decide) (by decide) ⟨Nat.zero_le _, Nat.zero_le _⟩ (fun I62 P62 L62 q62 => ?_)
    obtain ⟨M2, F2, E2, rfl⟩ := q62
    exact jn_vret (pc := 65) C hr (⟨rfl, ⟨by rw [hrow]; exact M2, by rw [hrow]; exact scomes_I V1 hm1 g3 g2 g1 g4⟩, fun b h1 h2 h3 => (F2 b (by omega)).trans (F1 b h1 h2 h3), fun b hb => (E2 b hb).trans (E1 b hb), rfl⟩) dX5_takeParts_65
  | succ n ih =>
    intro i I1 P1 s1 hi hs H1 M1 V1 F1 E1
    have T1 := T.ag (cE.hall E1)
    have h7 : I1 y 7 = nI t := (congrFun (F1 y (by omega) (by omega) (by omega)) 7).trans B.1
    obtain ⟨b1, b2, b3⟩ := B.2.2 i (by omega)
    have hch : I1 (y + 92) i = nI (ch i) := by rw [F1 _ (by omega) (by omega) (by omega)]; exact b1
    have hdg := tRun_dg hs
    obtain ⟨s2, hst⟩ : ∃ s2, tStep s1 (ch i) = some s2 := by
      cases hst : tStep s1 (ch i) with
      | some s2 => exact ⟨s2, rfl⟩
      | none => have h9 := tRun_none ((tRun_s hs).trans hst) (t - (i + 1)); rw [show i + 1 + (t - (i + 1)) = t by omega, hz] at h9; cases h9
    have hq := tRun_q hs (d := t - i) (s2 := sz) (by rw [show i + (t - i) = t by omega]; exact hz)
    have hq2 := tRun_q (ch := ch) (n := i + 1) (s1 := s2) ((tRun_s hs).trans hst) (d := t - (i + 1)) (s2 := sz) (by rw [show i + 1 + (t - (i + 1)) = t by omega]; exact hz)
    have key : ∀ (I3 : jI) (P3 : jP), rR I3 (y + 93) s1 → cM I3 P3 y (sput f s2.2.2.2.2 s2.2.2.2.1) → sI (sput f s2.2.2.2.2 s2.2.2.2.1) → (∀ b, (b < y + 1 ∨ y + 46 ≤ b) → b ≠ y + 93 → b ≠ y + 94 → I3 b = I b) → hFP P (y + 1) P3 → jJ p l e (jRm 4 0 0) s m args below meth c D cA N0 2 (MQ below (jQn D cA N0 Sh (jNv (fun I' P' L' => (cM I' P' y (sput f (fun i => if i = sz.2.2.2.1 then sz.2.2.1 else sz.2.2.2.2 i) (sz.2.2.2.1 + 1)) ∧ sI (sput f (fun i => if i = sz.2.2.2.1 then sz.2.2.1 else sz.2.2.2.2 i) (sz.2.2.2.1 + 1))) ∧ (∀ b, (b < y + 1 ∨ y + 46 ≤ b) → b ≠ y + 93 → b ≠ y + 94 → I' b = I b) ∧ hFP P (y + 1) P' ∧ L' = L))) args s 0 0 (fun q => N0 ≤ q)) (fun _ => True) Sh I3 P3 L 0 0 41 [some (.ref y), some (.int (nI (i)))] [] := by
      intro I3 P3 H3 M3 V3 F3 E3
      have T1 := T.ag (cE.hall E3)
      have hch3 : I3 (y + 92) i = nI (ch i) := by rw [F3 _ (by omega) (by omega) (by omega)]; exact b1
      have AC := t_X2_accepts (l := l) (D := D) (cA := cA) (N0 := N0) (L := L) (S.r T1) H3 (c0 := ch i) (by omega) (by omega)
      refine jx_aload_n (pc := 41) C dX5_takeParts_41 rfl ?_
      refine jx_getP (pc := 42) C kf_X5_30 rfl S.obj T1.reader dX5_takeParts_42 ?_
      refine jx_aload_n (pc := 45) C dX5_takeParts_45 rfl ?_
      refine jx_getP (pc := 46) C kf_X5_23 rfl S.obj T1.buffer dX5_takeParts_46 ?_
      refine jx_iload_n (pc := 49) C dX5_takeParts_49 rfl ?_
      refine jx_ialdv (pc := 50) C S.bu (by omega) (by decide) hch3 dX5_takeParts_50 ?_
      refine jx_calli (pc := 51) C (go_X5_271 C S.rd (Nat.le_of_ble_eq_true rfl) dX5_takeParts_51) AC (by decide) (by decide) ⟨Nat.zero_le _, Nat.zero_le _⟩ (fun r51 I51 P51 L51 q51 => ?_)
      obtain ⟨rfl, z1, z2, rfl, rfl⟩ := q51
      refine jx_pop (pc := 54) C dX5_takeParts_54 rfl ?_
      refine jx_iincN (pc := 55) C dX5_takeParts_55 rfl (jset_1 jc_r) (by decide) ?_
      refine jx_goto (pc := 58) C (tgt := 9) dX5_takeParts_58 (by decide) ?_
      exact ih (i + 1) I51 P51 s2 (by omega) ((tRun_s hs).trans hst) (z1 s2 hst) (M3.ag V3.1.2.1 (fun b h1 h2 => z2 b (by omega) (by omega)) rfl) V3 (fun b h1 h2 h3 => (z2 b h2 h3).trans (F3 b h1 h2 h3)) E3
    by_cases hc : ch i = 59
    · rw [hc] at hst
      obtain ⟨e1, e2, e3⟩ := tStep_59 hst
      have hq3 : s1.2.2.2.1 + 1 ≤ sz.2.2.2.1 := by rw [e3] at hq2; exact hq2
      have hm1 : smany (sput f s1.2.2.2.2 s1.2.2.2.1) < 10 := by rw [sput_m V.1.1 (by omega)]; omega
      obtain ⟨g1, g2, g3, g4⟩ := tG_done (tRun_G hs) e2 e1
      have hrow : sput f s2.2.2.2.2 s2.2.2.2.1 = scomes (sput f s1.2.2.2.2 s1.2.2.2.1) (nI (s1.2.2.1 2)) (nI (s1.2.2.1 1)) (nI (s1.2.2.1 0)) (nI (s1.2.2.1 3)) (nI (s1.2.2.1 4)) := by
        rw [e3]
        exact sput_x (fun i hi => if_neg (by omega)) (if_pos rfl)
      refine jx_iload_n (pc := 9) C dX5_takeParts_9 rfl ?_
      refine jx_aload_n (pc := 10) C dX5_takeParts_10 rfl ?_
      refine jx_getIv (pc := 11) C kf_X5_160 rfl S.obj h7 dX5_takeParts_11 ?_
      refine jx_icmp_ge (pc := 14) C (tgt := 61) dX5_takeParts_14 (by decide) (fun c14 => (by rw [nI_leI (by omega) (by omega)] at c14; exfalso; omega)) (fun c14 => ?_)
      rw [nI_leI (by omega) (by omega)] at c14
      refine jx_iload_n (pc := 17) C dX5_takeParts_17 rfl ?_
      refine jx_aload_n (pc := 18) C dX5_takeParts_18 rfl ?_
      refine jx_getP (pc := 19) C kf_X5_23 rfl S.obj T1.buffer dX5_takeParts_19 ?_
      refine jx_alen10 (pc := 22) C S.bu dX5_takeParts_22 ?_
      refine jx_icmp_ge (pc := 23) C (tgt := 61) dX5_takeParts_23 (by decide) (fun c23 => (by rw [nI_leI (by omega) (by omega)] at c23; exfalso; omega)) (fun c23 => ?_)
      rw [nI_leI (by omega) (by omega)] at c23
      refine jx_aload_n (pc := 26) C dX5_takeParts_26 rfl ?_
      refine jx_getP (pc := 27) C kf_X5_23 rfl S.obj T1.buffer dX5_takeParts_27 ?_
      refine jx_iload_n (pc := 30) C dX5_takeParts_30 rfl ?_
      refine jx_ialdv (pc := 31) C S.bu (by omega) (by decide) hch dX5_takeParts_31 ?_
      refine jx_bipush (pc := 32) C dX5_takeParts_32 nb_59 ?_
      refine jx_icmp_ne (pc := 34) C (tgt := 41) dX5_takeParts_34 (by decide) (fun c34 => (by rw [nI_eq (by omega) (by omega)] at c34; exfalso; omega)) (fun c34 => ?_)
      rw [nI_eq (by omega) (by omega)] at c34
      refine jx_aload_n (pc := 37) C dX5_takeParts_37 rfl ?_
      refine jx_callv (pc := 38) C (go_X5_275 C S.obj (Nat.le_of_ble_eq_true rfl) dX5_takeParts_38) (t_X5_takePart S T1 M1 V1 hm1 H1 e2 e1) (by decide) (by decide) ⟨Nat.zero_le _, Nat.zero_le _⟩ (fun I38 P38 L38 q38 => ?_)
      obtain ⟨M2, F2, E2, rfl⟩ := q38
      exact key I38 P38 (by
        obtain ⟨r1, r2, r3, r4, r5, r6, r7⟩ := H1
        exact ⟨by rw [F2 _ (by omega)]; exact r1, by rw [F2 _ (by omega)]; exact r2, by rw [F2 _ (by omega)]; exact r3, r4, fun j hj h3 => by rw [F2 _ (by omega)]; exact r5 j hj h3, r6, r7⟩) (by rw [hrow]; exact M2) (by rw [hrow]; exact scomes_I V1 hm1 g3 g2 g1 g4) (fun b h1 h2 h3 => (F2 b (by omega)).trans (F1 b h1 h2 h3)) (fun b hb => (E2 b hb).trans (E1 b hb))
    · have e3 := tStep_n59 hc hst
      have key2 := key I1 P1 H1 (by rw [e3]; exact M1) (by rw [e3]; exact V1) F1 E1
      refine jx_iload_n (pc := 9) C dX5_takeParts_9 rfl ?_
      refine jx_aload_n (pc := 10) C dX5_takeParts_10 rfl ?_
      refine jx_getIv (pc := 11) C kf_X5_160 rfl S.obj h7 dX5_takeParts_11 ?_
      refine jx_icmp_ge (pc := 14) C (tgt := 61) dX5_takeParts_14 (by decide) (fun c14 => (by rw [nI_leI (by omega) (by omega)] at c14; exfalso; omega)) (fun c14 => ?_)
      rw [nI_leI (by omega) (by omega)] at c14
      refine jx_iload_n (pc := 17) C dX5_takeParts_17 rfl ?_
      refine jx_aload_n (pc := 18) C dX5_takeParts_18 rfl ?_
      refine jx_getP (pc := 19) C kf_X5_23 rfl S.obj T1.buffer dX5_takeParts_19 ?_
      refine jx_alen10 (pc := 22) C S.bu dX5_takeParts_22 ?_
      refine jx_icmp_ge (pc := 23) C (tgt := 61) dX5_takeParts_23 (by decide) (fun c23 => (by rw [nI_leI (by omega) (by omega)] at c23; exfalso; omega)) (fun c23 => ?_)
      rw [nI_leI (by omega) (by omega)] at c23
      refine jx_aload_n (pc := 26) C dX5_takeParts_26 rfl ?_
      refine jx_getP (pc := 27) C kf_X5_23 rfl S.obj T1.buffer dX5_takeParts_27 ?_
      refine jx_iload_n (pc := 30) C dX5_takeParts_30 rfl ?_
      refine jx_ialdv (pc := 31) C S.bu (by omega) (by decide) hch dX5_takeParts_31 ?_
      refine jx_bipush (pc := 32) C dX5_takeParts_32 nb_59 ?_
      refine jx_icmp_ne (pc := 34) C (tgt := 41) dX5_takeParts_34 (by decide) (fun c34 => ?_) (fun c34 => (by rw [nI_eq (by omega) (by omega)] at c34; exfalso; omega))
      rw [nI_eq (by omega) (by omega)] at c34
      exact key2
set_option maxHeartbeats 4000000 in
theorem b_X5_takeParts {p : Program} {l : Launch} {e : Env} {s : State} {m : MethodId} {args : Array Value} {below : List Frame} {meth : Method} {c : Code} {D : va_G} {cA : Nat → ClassId} {N0 : Nat} {Sh : jS} {I : jI} {P : jP} {L : jL} (C : jC p (jRm 4 0 0) s m args meth c D cA N0 cX5_takeParts 2 RX5 4) (hr : meth.sig.returnType = none) {y : Nat} (S : cS Sh y) (T : cP P y) {f : sF} (M : cM I P y f) (V : sI f) {t : Nat} {ch : Nat → Nat} (B : cB I y t ch) {sz : tS} (hz : tRun ch tS0 t = some sz) (hd : tDone sz = true) (hn : smany f + (sz.2.2.2.1 + 1) ≤ 10) : jJ p l e (jRm 4 0 0) s m args below meth c D cA N0 2 (MQ below (jQn D cA N0 Sh (jNv (fun I' P' L' => (cM I' P' y (sput f (fun i => if i = sz.2.2.2.1 then sz.2.2.1 else sz.2.2.2.2 i) (sz.2.2.2.1 + 1)) ∧ sI (sput f (fun i => if i = sz.2.2.2.1 then sz.2.2.1 else sz.2.2.2.2 i) (sz.2.2.2.1 + 1))) ∧ (∀ b, (b < y + 1 ∨ y + 46 ≤ b) → b ≠ y + 93 → b ≠ y + 94 → I' b = I b) ∧ hFP P (y + 1) P' ∧ L' = L))) args s 0 0 (fun q => N0 ≤ q)) (fun _ => True) Sh I P L 0 0 0 [some (.ref y), none] [] := by
  refine jx_aload_n (pc := 0) C dX5_takeParts_0 rfl ?_
  refine jx_getP (pc := 1) C kf_X5_30 rfl S.obj T.reader dX5_takeParts_1 ?_
  refine jx_callv (pc := 4) C (go_X5_268 C S.rd (Nat.le_of_ble_eq_true rfl) dX5_takeParts_4) (t_X2_restart (S.r T)) (by decide) (by decide) ⟨Nat.zero_le _, Nat.zero_le _⟩ (fun I4 P4 L4 q4 => ?_)
  obtain ⟨H1, F1, rfl, rfl⟩ := q4
  refine jx_iconst (pc := 7) C dX5_takeParts_7 nc_0 ?_
  refine jx_istore_n (pc := 8) C dX5_takeParts_8 (jset_1 jc_r) (by decide) ?_
  exact lp_X5_takeParts (I := I) (P := P4) C S T M V B hz hd hn hr t 0 I4 P4 tS0 (Nat.zero_add t) rfl H1 (M.ag V.1.2.1 (fun b h1 h2 => F1 b (by omega) (by omega)) rfl) V (fun b _ h2 h3 => F1 b h2 h3) hFP.rf
theorem t_X5_takeParts {l : Launch} {D : va_G} {cA : Nat → ClassId} {N0 : Nat} {Sh : jS} {I : jI} {P : jP} {L : jL} {y : Nat} (S : cS Sh y) (T : cP P y) {f : sF} (M : cM I P y f) (V : sI f) {t : Nat} {ch : Nat → Nat} (B : cB I y t ch) {sz : tS} (hz : tRun ch tS0 t = some sz) (hd : tDone sz = true) (hn : smany f + (sz.2.2.2.1 + 1) ≤ 10) : jN l D cA N0 4 yX5_takeParts cX5_takeParts 2 none [.ref y] Sh I P L (jNv (fun I' P' L' => (cM I' P' y (sput f (fun i => if i = sz.2.2.2.1 then sz.2.2.1 else sz.2.2.2.2 i) (sz.2.2.2.1 + 1)) ∧ sI (sput f (fun i => if i = sz.2.2.2.1 then sz.2.2.1 else sz.2.2.2.2 i) (sz.2.2.2.1 + 1))) ∧ (∀ b, (b < y + 1 ∨ y + 46 ≤ b) → b ≠ y + 93 → b ≠ y + 94 → I' b = I b) ∧ hFP P (y + 1) P' ∧ L' = L)) := jN_of (by decide) (Nat.le_of_ble_eq_true rfl) (fun _ _ _ _ _ _ _ _ C hr => b_X5_takeParts C hr S T M V B hz hd hn)
