theorem tMark_none {f c : Nat} (h1 : c = 120 → f ≠ 0) (h2 : c = 99 → f ≠ 1) (h3 : c = 36 → f ≠ 2) (h4 : c = 64 → f ≠ 2 ∧ f ≠ 3) (h5 : c = 59 → f < 2) : tMark f c = none := by
  unfold tMark
  by_cases e1 : c = 120
  · rw [if_pos e1, if_neg (h1 e1)]
  rw [if_neg e1]
  by_cases e2 : c = 99
  · rw [if_pos e2, if_neg (h2 e2)]
  rw [if_neg e2]
  by_cases e3 : c = 36
  · rw [if_pos e3, if_neg (h3 e3)]
  rw [if_neg e3]
  by_cases e4 : c = 64
  · rw [if_pos e4, if_neg (by have := h4 e4; omega)]
  rw [if_neg e4]
  by_cases e5 : c = 59
  · rw [if_pos e5, if_neg (by have := h5 e5; omega)]
  rw [if_neg e5]
theorem tStep_z {s : tS} {c : Nat} (hd : 48 ≤ c ∧ c ≤ 57) (h : (s.2.1 ≠ 0 ∧ s.2.2.1 s.1 = 0) ∨ nbeg (tNext s.2.1 (s.2.2.1 s.1) c) (fLo s.1) (fHi s.1) = false) : tStep s c = none := by unfold tStep; rw [if_pos hd, if_pos h]
theorem tStep_d {s : tS} {c : Nat} (hd : 48 ≤ c ∧ c ≤ 57) (h : ¬ ((s.2.1 ≠ 0 ∧ s.2.2.1 s.1 = 0) ∨ nbeg (tNext s.2.1 (s.2.2.1 s.1) c) (fLo s.1) (fHi s.1) = false)) : tStep s c = some (s.1, s.2.1 + 1, updN s.2.2.1 s.1 (tNext s.2.1 (s.2.2.1 s.1) c), s.2.2.2) := by unfold tStep; rw [if_pos hd, if_neg h]
theorem tStep_no {s : tS} {c : Nat} (h1 : 48 ≤ c ∧ c ≤ 57 → tStep s c = none) (h2 : tStands s = true → tMark s.1 c = none) : tStep s c = none := by
  by_cases hd : 48 ≤ c ∧ c ≤ 57
  · exact h1 hd
  · unfold tStep
    rw [if_neg hd]
    by_cases hs : tStands s = true
    · rw [if_pos hs, h2 hs]
    · rw [if_neg hs]
theorem tStep_m {s : tS} {c f : Nat} (hd : ¬ (48 ≤ c ∧ c ≤ 57)) (hs : tStands s = true) (hm : tMark s.1 c = some (f + 1)) : tStep s c = some (f + 1, 0, s.2.2.1, s.2.2.2) := by
  unfold tStep
  rw [if_neg hd, if_pos hs, hm]
theorem tStep_p {s : tS} {c : Nat} (hd : ¬ (48 ≤ c ∧ c ≤ 57)) (hs : tStands s = true) (hm : tMark s.1 c = some 0) : tStep s c = some (0, 0, tNew, s.2.2.2.1 + 1, fun i => if i = s.2.2.2.1 then s.2.2.1 else s.2.2.2.2 i) := by
  unfold tStep
  rw [if_neg hd, if_pos hs, hm]
def tDone (s : tS) : Bool := decide (2 ≤ s.1) && tStands s
def tAt (I0 : jI) (x t : Nat) (ch : Nat → Nat) (s0 : tS) (q : Nat) (r : Nat × (Nat → Nat → Nat)) (I : jI) (a fld dg : Nat) (g : Nat → Nat) : Prop := a ≤ t ∧ tRun ch s0 a = some (fld, dg, g, r) ∧ mTx I0 x I ∧ I x 7 = nI a ∧ I x 11 = nI q ∧ ∀ j, j < 5 * q → I (x + 5) j = I0 (x + 5) j
theorem tAt.f7 {I0 : jI} {x t : Nat} {ch : Nat → Nat} {s0 : tS} {q : Nat} {r : Nat × (Nat → Nat → Nat)} {I : jI} {a fld dg fld' dg' : Nat} {g g' : Nat → Nat} (h : tAt I0 x t ch s0 q r I a fld dg g) (ha : a < t) (h2 : tStep (fld, dg, g, r) (ch a) = some (fld', dg', g', r)) : tAt I0 x t ch s0 q r (jst I x 7 (nI (a + 1))) (a + 1) fld' dg' g' := ⟨ha, (tRun_s h.2.1).trans h2, h.2.2.1.tr (mTx.fld (Or.inl rfl)), by rw [jst_eq]; exact upd_s, by rw [jst_eq, upd_n (by decide)]; exact h.2.2.2.2.1, fun j hj => by rw [jst_ne (by omega)]; exact h.2.2.2.2.2 j hj⟩
theorem tAt.f8 {I0 : jI} {x t : Nat} {ch : Nat → Nat} {s0 : tS} {q : Nat} {r : Nat × (Nat → Nat → Nat)} {I : jI} {a fld dg : Nat} {g : Nat → Nat} {v : Int32} (h : tAt I0 x t ch s0 q r I a fld dg g) : tAt I0 x t ch s0 q r (jst I x 8 v) a fld dg g := ⟨h.1, h.2.1, h.2.2.1.tr (mTx.fld (Or.inr (Or.inl rfl))), by rw [jst_eq, upd_n (by decide)]; exact h.2.2.2.1, by rw [jst_eq, upd_n (by decide)]; exact h.2.2.2.2.1, fun j hj => by rw [jst_ne (by omega)]; exact h.2.2.2.2.2 j hj⟩
theorem tAt.f5 {I0 : jI} {x t : Nat} {ch : Nat → Nat} {s0 : tS} {q : Nat} {r : Nat × (Nat → Nat → Nat)} {I : jI} {a fld dg : Nat} {g : Nat → Nat} {j : Nat} {v : Int32} (h : tAt I0 x t ch s0 q r I a fld dg g) (hj : 5 * q ≤ j) : tAt I0 x t ch s0 q r (jst I (x + 5) j v) a fld dg g := ⟨h.1, h.2.1, ⟨fun b h1 h2 => by rw [jst_ne h2]; exact h.2.2.1.1 b h1 h2, fun k h1 h2 h3 h4 => by rw [jst_ne (by omega)]; exact h.2.2.1.2 k h1 h2 h3 h4⟩, by rw [jst_ne (by omega)]; exact h.2.2.2.1, by rw [jst_ne (by omega)]; exact h.2.2.2.2.1, fun i hi => by rw [jst_eq, upd_n (by omega)]; exact h.2.2.2.2.2 i hi⟩
def tVal (dg v : Nat) : Int32 := if dg = 0 then -1 else nI v
def tNu (I0 : jI) (x t : Nat) (ch : Nat → Nat) (s0 : tS) (q : Nat) (r : Nat × (Nat → Nat → Nat)) (I : jI) (a k : Nat) (g : Nat → Nat) (b : Bool) (I' : jI) : Prop := ∃ dg g1, tAt I0 x t ch s0 q r I' (a + dg) k dg g1 ∧ (∀ j, j ≠ k → g1 j = g j) ∧ (∀ j, j ≠ 5 * q + k → I' (x + 5) j = I (x + 5) j) ∧ b = tStands (k, dg, g1, r) ∧ (b = true → 1 ≤ dg ∧ (10 ≤ g1 k → 2 ≤ dg) ∧ I' x 8 = I x 8 ∧ I' (x + 5) (5 * q + k) = nI (g1 k)) ∧ (b = false → I' x 8 = bI (decide (a + dg < t))) ∧ (a + dg < t → 48 ≤ ch (a + dg) ∧ ch (a + dg) ≤ 57 → tStep (k, dg, g1, r) (ch (a + dg)) = none)
theorem tNu_t {I0 : jI} {x t : Nat} {ch : Nat → Nat} {s0 : tS} {q : Nat} {r : Nat × (Nat → Nat → Nat)} {I I1 : jI} {a k dg : Nat} {g g1 : Nat → Nat} (h : tAt I0 x t ch s0 q r I1 (a + dg) k dg g1) (hg : ∀ j, j ≠ k → g1 j = g j) (h5 : I1 (x + 5) = I (x + 5)) (h8 : I1 x 8 = I x 8) (hz : tStands (k, dg, g1, r) = true) (hd : dg = 1 → g1 k ≤ 9) (hn : a + dg < t → 48 ≤ ch (a + dg) ∧ ch (a + dg) ≤ 57 → tStep (k, dg, g1, r) (ch (a + dg)) = none) : tNu I0 x t ch s0 q r I a k g true (jst I1 (x + 5) (5 * q + k) (nI (g1 k))) := by
  have hz2 : dg ≠ 0 ∧ fLo k ≤ g1 k ∧ g1 k ≤ fHi k := of_decide_eq_true hz
  exact ⟨dg, g1, h.f5 (by omega), hg, fun j hj => by rw [jst_eq, upd_n hj, h5], hz.symm, fun _ => ⟨by omega, by omega, by rw [jst_ne (by omega)]; exact h8, by rw [jst_eq]; exact upd_s⟩, fun h => absurd h (by decide), hn⟩
theorem tNu_f {I0 : jI} {x t : Nat} {ch : Nat → Nat} {s0 : tS} {q : Nat} {r : Nat × (Nat → Nat → Nat)} {I I1 : jI} {a k dg : Nat} {g g1 : Nat → Nat} {v : Int32} (h : tAt I0 x t ch s0 q r I1 (a + dg) k dg g1) (hg : ∀ j, j ≠ k → g1 j = g j) (h5 : I1 (x + 5) = I (x + 5)) (hz : tStands (k, dg, g1, r) = false) (hn : a + dg < t → 48 ≤ ch (a + dg) ∧ ch (a + dg) ≤ 57 → tStep (k, dg, g1, r) (ch (a + dg)) = none) : tNu I0 x t ch s0 q r I a k g false (jst (jst I1 (x + 5) (5 * q + k) v) x 8 (bI (decide (a + dg < t)))) :=
  ⟨dg, g1, (h.f5 (by omega)).f8, hg, fun j hj => by rw [jst_ne (by omega), jst_eq, upd_n hj, h5], hz.symm, fun h => absurd h (by decide), fun _ => by rw [jst_eq]; exact upd_s, hn⟩
set_option maxHeartbeats 4000000 in
theorem lp_X6_isNumber {p : Program} {l : Launch} {e : Env} {s : State} {m : MethodId} {args : Array Value} {below : List Frame} {meth : Method} {c : Code} {D : va_G} {cA : Nat → ClassId} {N0 : Nat} {Sh : jS} {I : jI} {P : jP} {L : jL} {Qf : State → Prop} (C : jC p (jRm 2 0 0) s m args meth c D cA N0 cX6_isNumber 4 RX6 2) {x : Nat} (hS : mS Sh x) (hP : mP P x) {I0 : jI} {t : Nat} {ch : Nat → Nat} (hE : tEnv I0 x t ch) {s0 : tS} {q : Nat} {r : Nat × (Nat → Nat → Nat)} (hq : q ≤ 8) {k lo hi : Nat} (hk : k < 5) (hlo : lo = fLo k) (hhi : hi = fHi k) : ∀ n, ∀ {I : jI} a dg g, tAt I0 x t ch s0 q r I a k dg g → t ≤ a + n → (dg ≠ 0 → g k ≤ 9999 ∧ (dg = 1 → g k ≤ 9)) → I x 9 = tVal dg (g k) → (∀ I1 dg1 g1, tAt I0 x t ch s0 q r I1 (a + dg1 - dg) k dg1 g1 → dg ≤ dg1 → (∀ j, j ≠ k → g1 j = g j) → (dg1 ≠ 0 → g1 k ≤ 9999 ∧ (dg1 = 1 → g1 k ≤ 9)) → I1 (x + 5) = I (x + 5) → I1 x 8 = I x 8 → I1 x 9 = tVal dg1 (g1 k) → (a + dg1 - dg < t → 48 ≤ ch (a + dg1 - dg) ∧ ch (a + dg1 - dg) ≤ 57 → tStep (k, dg1, g1, r) (ch (a + dg1 - dg)) = none) → jJ p l e (jRm 2 0 0) s m args below meth c D cA N0 4 Qf (fun _ => True) Sh I1 P L 0 0 112 [some (.ref x), some (.int (nI k)), some (.int (nI lo)), some (.int (nI hi))] []) → jJ p l e (jRm 2 0 0) s m args below meth c D cA N0 4 Qf (fun _ => True) Sh I P L 0 0 5 [some (.ref x), some (.int (nI k)), some (.int (nI lo)), some (.int (nI hi))] [] := by
  intro n
  induction n with
  | zero =>
    intro I a dg g hA hn hdg h9 hx
    have ht60 := hE.2.1
    have hE1 := hE.mv hA.2.2.1
    refine jx_aload_n (pc := 5) C dX6_isNumber_5 rfl ?_
    refine jx_bipush (pc := 6) C dX6_isNumber_6 nb_48 ?_
    refine jx_bipush (pc := 8) C dX6_isNumber_8 nb_57 ?_
    refine jx_callD (pc := 10) C (go_X6_134 C hS.1 (Nat.le_of_ble_eq_true rfl) dX6_isNumber_10) (t_X6_isAt hS hP hE1 hA.2.2.2.1 hA.1 (lo := 48) (hi := 57) (by decide) (by decide)) (by decide) (by decide) ⟨Nat.zero_le _, Nat.zero_le _⟩ ?_
    refine jx_if_eq (pc := 13) C (tgt := 112) dX6_isNumber_13 (by decide) (fun c13 => ?_) (fun c13 => (by exfalso; rw [bI_0, decide_eq_false_iff_not, Decidable.not_not] at c13; omega))
    rw [bI_0, decide_eq_false_iff_not] at c13
    exact hx I dg g (by rw [Nat.add_sub_cancel]; exact hA) (Nat.le_refl _) (fun _ _ => rfl) hdg rfl rfl h9 (fun h1 h2 => by rw [Nat.add_sub_cancel] at h1; omega)
  | succ n ih =>
    intro I a dg g hA hn hdg h9 hx
    have ht60 := hE.2.1
    have hat := hA.1
    have hE1 := hE.mv hA.2.2.1
    rcases Nat.eq_zero_or_pos dg with hz | hz
    · subst hz
      have h9b : I x 9 = -1 := h9
      refine jx_aload_n (pc := 5) C dX6_isNumber_5 rfl ?_
      refine jx_bipush (pc := 6) C dX6_isNumber_6 nb_48 ?_
      refine jx_bipush (pc := 8) C dX6_isNumber_8 nb_57 ?_
      refine jx_callD (pc := 10) C (go_X6_134 C hS.1 (Nat.le_of_ble_eq_true rfl) dX6_isNumber_10) (t_X6_isAt hS hP hE1 hA.2.2.2.1 hA.1 (lo := 48) (hi := 57) (by decide) (by decide)) (by decide) (by decide) ⟨Nat.zero_le _, Nat.zero_le _⟩ ?_
      refine jx_if_eq (pc := 13) C (tgt := 112) dX6_isNumber_13 (by decide) (fun c13 => ?_) (fun c13 => ?_)
      · rw [bI_0, decide_eq_false_iff_not] at c13
        first
          | (exact hx I 0 g (by rw [Nat.add_sub_cancel]; exact hA) (Nat.le_refl _) (fun _ _ => rfl) hdg rfl rfl h9 (fun h1 h2 => by rw [Nat.add_sub_cancel] at h1 h2 ⊢; exact absurd ⟨h1, h2.1, h2.2⟩ c13))
          | (exact hx I 0 g (by rw [Nat.add_sub_cancel]; exact hA) (Nat.le_refl _) (fun _ _ => rfl) hdg rfl rfl h9 (fun h1 h2 => by rw [Nat.add_sub_cancel] at h1 h2 ⊢; exact tStep_z hdd (Or.inl ⟨by show 0 ≠ 0; omega, c20⟩)))
          | (exact hx I 0 g (by rw [Nat.add_sub_cancel]; exact hA) (Nat.le_refl _) (fun _ _ => rfl) hdg rfl rfl h9 (fun h1 h2 => by rw [Nat.add_sub_cancel] at h1 h2 ⊢; exact tStep_z hdd (Or.inr (by rw [hvv, hlo, hhi] at c60; exact bI_eq0.mp c60))))
      · rw [bI_0, decide_eq_false_iff_not, Decidable.not_not] at c13
        have hcc := hE1.2.2 a c13.1
        have hdd := c13.2
        have hvv : 0 + ch a - 48 = tNext 0 (g k) (ch a) := by unfold tNext; rw [if_pos rfl]; omega
        refine jx_aload_n (pc := 16) C dX6_isNumber_16 rfl ?_
        refine jx_getIv (pc := 17) C kf_X6_142 rfl hS.1 h9b dX6_isNumber_17 ?_
        refine jx_if_eq (pc := 20) C (tgt := 112) dX6_isNumber_20 (by decide) (fun c20 => (by exfalso; revert c20; decide)) (fun c20 => ?_)
        refine jx_aload_n (pc := 23) C dX6_isNumber_23 rfl ?_
        refine jx_getIv (pc := 24) C kf_X6_142 rfl hS.1 h9b dX6_isNumber_24 ?_
        refine jx_iconst (pc := 27) C dX6_isNumber_27 nc_m1 ?_
        refine jx_icmp_ne (pc := 28) C (tgt := 35) dX6_isNumber_28 (by decide) (fun c28 => (by exfalso; revert c28; decide)) (fun c28 => ?_)
        refine jx_iconst (pc := 31) C dX6_isNumber_31 nc_0 ?_
        refine jx_goto (pc := 32) C (tgt := 42) dX6_isNumber_32 (by decide) ?_
        refine jx_aload_n (pc := 42) C dX6_isNumber_42 rfl ?_
        refine jx_getP (pc := 43) C kf_X6_19 rfl hS.1 hP.2.2.2.1 dX6_isNumber_43 ?_
        refine jx_aload_n (pc := 46) C dX6_isNumber_46 rfl ?_
        refine jx_getIv (pc := 47) C kf_X6_127 rfl hS.1 hA.2.2.2.1 dX6_isNumber_47 ?_
        refine jx_ialdv (pc := 50) C hS.2.2.2.2.1 (by omega) (by decide) (hE1.2.2 a (by omega)).1 dX6_isNumber_50 ?_
        refine jx_iaddN (pc := 51) C dX6_isNumber_51 ?_
        refine jx_bipush (pc := 52) C dX6_isNumber_52 nb_48 ?_
        refine jx_isubN (pc := 54) C (by omega) dX6_isNumber_54 ?_
        refine jx_iload_n (pc := 55) C dX6_isNumber_55 rfl ?_
        refine jx_iload_n (pc := 56) C dX6_isNumber_56 rfl ?_
        refine jx_callD (pc := 57) C (go_X6_145 C  (Nat.le_of_ble_eq_true rfl) dX6_isNumber_57) (t_X6_begins (by omega) (by subst hlo; have := fLo_le k; omega) (by subst hhi; exact fHi_le k)) (by decide) (by decide) ⟨Nat.zero_le _, Nat.zero_le _⟩ ?_
        refine jx_if_eq (pc := 60) C (tgt := 112) dX6_isNumber_60 (by decide) (fun c60 => ?_) (fun c60 => ?_)
        · first
            | (exact hx I 0 g (by rw [Nat.add_sub_cancel]; exact hA) (Nat.le_refl _) (fun _ _ => rfl) hdg rfl rfl h9 (fun h1 h2 => by rw [Nat.add_sub_cancel] at h1 h2 ⊢; exact absurd ⟨h1, h2.1, h2.2⟩ c13))
            | (exact hx I 0 g (by rw [Nat.add_sub_cancel]; exact hA) (Nat.le_refl _) (fun _ _ => rfl) hdg rfl rfl h9 (fun h1 h2 => by rw [Nat.add_sub_cancel] at h1 h2 ⊢; exact tStep_z hdd (Or.inl ⟨by show 0 ≠ 0; omega, c20⟩)))
            | (exact hx I 0 g (by rw [Nat.add_sub_cancel]; exact hA) (Nat.le_refl _) (fun _ _ => rfl) hdg rfl rfl h9 (fun h1 h2 => by rw [Nat.add_sub_cancel] at h1 h2 ⊢; exact tStep_z hdd (Or.inr (by rw [hvv, hlo, hhi] at c60; exact bI_eq0.mp c60))))
        · refine jx_aload_n (pc := 63) C dX6_isNumber_63 rfl ?_
          refine jx_aload_n (pc := 64) C dX6_isNumber_64 rfl ?_
          refine jx_getIv (pc := 65) C kf_X6_142 rfl hS.1 h9b dX6_isNumber_65 ?_
          refine jx_iconst (pc := 68) C dX6_isNumber_68 nc_m1 ?_
          refine jx_icmp_ne (pc := 69) C (tgt := 76) dX6_isNumber_69 (by decide) (fun c69 => (by exfalso; revert c69; decide)) (fun c69 => ?_)
          refine jx_iconst (pc := 72) C dX6_isNumber_72 nc_0 ?_
          refine jx_goto (pc := 73) C (tgt := 83) dX6_isNumber_73 (by decide) ?_
          refine jx_aload_n (pc := 83) C dX6_isNumber_83 rfl ?_
          refine jx_getP (pc := 84) C kf_X6_19 rfl hS.1 hP.2.2.2.1 dX6_isNumber_84 ?_
          refine jx_aload_n (pc := 87) C dX6_isNumber_87 rfl ?_
          refine jx_getIv (pc := 88) C kf_X6_127 rfl hS.1 hA.2.2.2.1 dX6_isNumber_88 ?_
          refine jx_ialdv (pc := 91) C hS.2.2.2.2.1 (by omega) (by decide) (hE1.2.2 a (by omega)).1 dX6_isNumber_91 ?_
          refine jx_iaddN (pc := 92) C dX6_isNumber_92 ?_
          refine jx_bipush (pc := 93) C dX6_isNumber_93 nb_48 ?_
          refine jx_isubN (pc := 95) C (by omega) dX6_isNumber_95 ?_
          refine jx_putI (pc := 96) C kf_X6_142 rfl rfl rfl rfl hS.1 dX6_isNumber_96 ?_
          refine jx_aload_n (pc := 99) C dX6_isNumber_99 rfl ?_
          refine jx_dup (pc := 100) C dX6_isNumber_100 rfl ?_
          refine jx_getIv (pc := 101) C kf_X6_127 rfl hS.1 ((congrFun jst_eq 7).trans ((upd_n (by decide)).trans hA.2.2.2.1)) dX6_isNumber_101 ?_
          refine jx_iconst (pc := 104) C dX6_isNumber_104 nc_1 ?_
          refine jx_iaddN (pc := 105) C dX6_isNumber_105 ?_
          refine jx_putI (pc := 106) C kf_X6_127 rfl rfl rfl rfl hS.1 dX6_isNumber_106 ?_
          refine jx_goto (pc := 109) C (tgt := 5) dX6_isNumber_109 (by decide) ?_
          have hnb : nbeg (tNext 0 (g k) (ch a)) (fLo k) (fHi k) = true := Bool.of_not_eq_false (fun h2 => c60 (by rw [hvv, hlo, hhi]; exact bI_eq0.mpr h2))
          have hle := Nat.le_trans (nbeg_le hnb) (fHi_le k)
          have hst : tStep (k, 0, g, r) (ch a) = some (k, 0 + 1, updN g k (tNext 0 (g k) (ch a)), r) := tStep_d hdd (by
            intro h
            rcases h with h | h
            · exact h.1 rfl
            · exact absurd (hnb.symm.trans h) (by decide))
          rw [hvv]
          have hA0 : tAt I0 x t ch s0 q r (jst I x 9 (nI (tNext 0 (g k) (ch a)))) a k 0 g := ⟨hA.1, hA.2.1, hA.2.2.1.tr (mTx.fld (Or.inr (Or.inr (Or.inl rfl)))), by rw [jst_eq, upd_n (by decide)]; exact hA.2.2.2.1, by rw [jst_eq, upd_n (by decide)]; exact hA.2.2.2.2.1, fun j hj => by rw [jst_ne (by omega)]; exact hA.2.2.2.2.2 j hj⟩
          refine ih (a + 1) (0 + 1) (updN g k (tNext 0 (g k) (ch a))) (hA0.f7 c13.1 hst) (by omega) (fun _ => by rw [updN_s]; exact ⟨hle, fun h => by unfold tNext; rw [if_pos rfl]; omega⟩) (by rw [jst_eq, upd_n (by decide), jst_eq, upd_s]; unfold tVal; rw [if_neg (by omega), updN_s]) (fun I1 dg1 g1 h1 h2 h3 h4 h5 h6 h7 h8 => ?_)
          rw [show a + 1 + dg1 - (0 + 1) = a + dg1 - 0 by omega] at h1 h8
          exact hx I1 dg1 g1 h1 (by omega) (fun j hj => (h3 j hj).trans (updN_n hj)) h4 (h5.trans (by rw [jst_ne (by omega), jst_ne (by omega)])) (h6.trans (by rw [jst_eq, upd_n (by decide), jst_eq, upd_n (by decide)])) h7 h8
    · have h9b : I x 9 = nI (g k) := by rw [h9]; unfold tVal; rw [if_neg (by omega)]
      have hgk := hdg (by omega)
      refine jx_aload_n (pc := 5) C dX6_isNumber_5 rfl ?_
      refine jx_bipush (pc := 6) C dX6_isNumber_6 nb_48 ?_
      refine jx_bipush (pc := 8) C dX6_isNumber_8 nb_57 ?_
      refine jx_callD (pc := 10) C (go_X6_134 C hS.1 (Nat.le_of_ble_eq_true rfl) dX6_isNumber_10) (t_X6_isAt hS hP hE1 hA.2.2.2.1 hA.1 (lo := 48) (hi := 57) (by decide) (by decide)) (by decide) (by decide) ⟨Nat.zero_le _, Nat.zero_le _⟩ ?_
      refine jx_if_eq (pc := 13) C (tgt := 112) dX6_isNumber_13 (by decide) (fun c13 => ?_) (fun c13 => ?_)
      · rw [bI_0, decide_eq_false_iff_not] at c13
        first
          | (exact hx I dg g (by rw [Nat.add_sub_cancel]; exact hA) (Nat.le_refl _) (fun _ _ => rfl) hdg rfl rfl h9 (fun h1 h2 => by rw [Nat.add_sub_cancel] at h1 h2 ⊢; exact absurd ⟨h1, h2.1, h2.2⟩ c13))
          | (exact hx I dg g (by rw [Nat.add_sub_cancel]; exact hA) (Nat.le_refl _) (fun _ _ => rfl) hdg rfl rfl h9 (fun h1 h2 => by rw [Nat.add_sub_cancel] at h1 h2 ⊢; exact tStep_z hdd (Or.inl ⟨by show dg ≠ 0; omega, c20⟩)))
          | (exact hx I dg g (by rw [Nat.add_sub_cancel]; exact hA) (Nat.le_refl _) (fun _ _ => rfl) hdg rfl rfl h9 (fun h1 h2 => by rw [Nat.add_sub_cancel] at h1 h2 ⊢; exact tStep_z hdd (Or.inr (by rw [hvv, hlo, hhi] at c60; exact bI_eq0.mp c60))))
      · rw [bI_0, decide_eq_false_iff_not, Decidable.not_not] at c13
        have hcc := hE1.2.2 a c13.1
        have hdd := c13.2
        have hvv : 10 * g k + ch a - 48 = tNext dg (g k) (ch a) := by unfold tNext; rw [if_neg (by omega)]; omega
        refine jx_aload_n (pc := 16) C dX6_isNumber_16 rfl ?_
        refine jx_getIv (pc := 17) C kf_X6_142 rfl hS.1 h9b dX6_isNumber_17 ?_
        refine jx_if_eq (pc := 20) C (tgt := 112) dX6_isNumber_20 (by decide) (fun c20 => ?_) (fun c20 => ?_)
        · rw [nI_eq0 (by omega)] at c20
          first
            | (exact hx I dg g (by rw [Nat.add_sub_cancel]; exact hA) (Nat.le_refl _) (fun _ _ => rfl) hdg rfl rfl h9 (fun h1 h2 => by rw [Nat.add_sub_cancel] at h1 h2 ⊢; exact absurd ⟨h1, h2.1, h2.2⟩ c13))
            | (exact hx I dg g (by rw [Nat.add_sub_cancel]; exact hA) (Nat.le_refl _) (fun _ _ => rfl) hdg rfl rfl h9 (fun h1 h2 => by rw [Nat.add_sub_cancel] at h1 h2 ⊢; exact tStep_z hdd (Or.inl ⟨by show dg ≠ 0; omega, c20⟩)))
            | (exact hx I dg g (by rw [Nat.add_sub_cancel]; exact hA) (Nat.le_refl _) (fun _ _ => rfl) hdg rfl rfl h9 (fun h1 h2 => by rw [Nat.add_sub_cancel] at h1 h2 ⊢; exact tStep_z hdd (Or.inr (by rw [hvv, hlo, hhi] at c60; exact bI_eq0.mp c60))))
        · rw [nI_eq0 (by omega)] at c20
          refine jx_aload_n (pc := 23) C dX6_isNumber_23 rfl ?_
          refine jx_getIv (pc := 24) C kf_X6_142 rfl hS.1 h9b dX6_isNumber_24 ?_
          refine jx_iconst (pc := 27) C dX6_isNumber_27 nc_m1 ?_
          refine jx_icmp_ne (pc := 28) C (tgt := 35) dX6_isNumber_28 (by decide) (fun c28 => ?_) (fun c28 => (by exfalso; exact (nI_m1 (by omega)).mp c28))
          refine jx_bipush (pc := 35) C dX6_isNumber_35 nb_10 ?_
          refine jx_aload_n (pc := 37) C dX6_isNumber_37 rfl ?_
          refine jx_getIv (pc := 38) C kf_X6_142 rfl hS.1 h9b dX6_isNumber_38 ?_
          refine jx_imulN (pc := 41) C dX6_isNumber_41 ?_
          refine jx_aload_n (pc := 42) C dX6_isNumber_42 rfl ?_
          refine jx_getP (pc := 43) C kf_X6_19 rfl hS.1 hP.2.2.2.1 dX6_isNumber_43 ?_
          refine jx_aload_n (pc := 46) C dX6_isNumber_46 rfl ?_
          refine jx_getIv (pc := 47) C kf_X6_127 rfl hS.1 hA.2.2.2.1 dX6_isNumber_47 ?_
          refine jx_ialdv (pc := 50) C hS.2.2.2.2.1 (by omega) (by decide) (hE1.2.2 a (by omega)).1 dX6_isNumber_50 ?_
          refine jx_iaddN (pc := 51) C dX6_isNumber_51 ?_
          refine jx_bipush (pc := 52) C dX6_isNumber_52 nb_48 ?_
          refine jx_isubN (pc := 54) C (by omega) dX6_isNumber_54 ?_
          refine jx_iload_n (pc := 55) C dX6_isNumber_55 rfl ?_
          refine jx_iload_n (pc := 56) C dX6_isNumber_56 rfl ?_
          refine jx_callD (pc := 57) C (go_X6_145 C  (Nat.le_of_ble_eq_true rfl) dX6_isNumber_57) (t_X6_begins (by omega) (by subst hlo; have := fLo_le k; omega) (by subst hhi; exact fHi_le k)) (by decide) (by decide) ⟨Nat.zero_le _, Nat.zero_le _⟩ ?_
          refine jx_if_eq (pc := 60) C (tgt := 112) dX6_isNumber_60 (by decide) (fun c60 => ?_) (fun c60 => ?_)
          · first
              | (exact hx I dg g (by rw [Nat.add_sub_cancel]; exact hA) (Nat.le_refl _) (fun _ _ => rfl) hdg rfl rfl h9 (fun h1 h2 => by rw [Nat.add_sub_cancel] at h1 h2 ⊢; exact absurd ⟨h1, h2.1, h2.2⟩ c13))
              | (exact hx I dg g (by rw [Nat.add_sub_cancel]; exact hA) (Nat.le_refl _) (fun _ _ => rfl) hdg rfl rfl h9 (fun h1 h2 => by rw [Nat.add_sub_cancel] at h1 h2 ⊢; exact tStep_z hdd (Or.inl ⟨by show dg ≠ 0; omega, c20⟩)))
              | (exact hx I dg g (by rw [Nat.add_sub_cancel]; exact hA) (Nat.le_refl _) (fun _ _ => rfl) hdg rfl rfl h9 (fun h1 h2 => by rw [Nat.add_sub_cancel] at h1 h2 ⊢; exact tStep_z hdd (Or.inr (by rw [hvv, hlo, hhi] at c60; exact bI_eq0.mp c60))))
          · refine jx_aload_n (pc := 63) C dX6_isNumber_63 rfl ?_
            refine jx_aload_n (pc := 64) C dX6_isNumber_64 rfl ?_
            refine jx_getIv (pc := 65) C kf_X6_142 rfl hS.1 h9b dX6_isNumber_65 ?_
            refine jx_iconst (pc := 68) C dX6_isNumber_68 nc_m1 ?_
            refine jx_icmp_ne (pc := 69) C (tgt := 76) dX6_isNumber_69 (by decide) (fun c69 => ?_) (fun c69 => (by exfalso; exact (nI_m1 (by omega)).mp c69))
            refine jx_bipush (pc := 76) C dX6_isNumber_76 nb_10 ?_
            refine jx_aload_n (pc := 78) C dX6_isNumber_78 rfl ?_
            refine jx_getIv (pc := 79) C kf_X6_142 rfl hS.1 h9b dX6_isNumber_79 ?_
            refine jx_imulN (pc := 82) C dX6_isNumber_82 ?_
            refine jx_aload_n (pc := 83) C dX6_isNumber_83 rfl ?_
            refine jx_getP (pc := 84) C kf_X6_19 rfl hS.1 hP.2.2.2.1 dX6_isNumber_84 ?_
            refine jx_aload_n (pc := 87) C dX6_isNumber_87 rfl ?_
            refine jx_getIv (pc := 88) C kf_X6_127 rfl hS.1 hA.2.2.2.1 dX6_isNumber_88 ?_
            refine jx_ialdv (pc := 91) C hS.2.2.2.2.1 (by omega) (by decide) (hE1.2.2 a (by omega)).1 dX6_isNumber_91 ?_
            refine jx_iaddN (pc := 92) C dX6_isNumber_92 ?_
            refine jx_bipush (pc := 93) C dX6_isNumber_93 nb_48 ?_
            refine jx_isubN (pc := 95) C (by omega) dX6_isNumber_95 ?_
            refine jx_putI (pc := 96) C kf_X6_142 rfl rfl rfl rfl hS.1 dX6_isNumber_96 ?_
            refine jx_aload_n (pc := 99) C dX6_isNumber_99 rfl ?_
            refine jx_dup (pc := 100) C dX6_isNumber_100 rfl ?_
            refine jx_getIv (pc := 101) C kf_X6_127 rfl hS.1 ((congrFun jst_eq 7).trans ((upd_n (by decide)).trans hA.2.2.2.1)) dX6_isNumber_101 ?_
            refine jx_iconst (pc := 104) C dX6_isNumber_104 nc_1 ?_
            refine jx_iaddN (pc := 105) C dX6_isNumber_105 ?_
            refine jx_putI (pc := 106) C kf_X6_127 rfl rfl rfl rfl hS.1 dX6_isNumber_106 ?_
            refine jx_goto (pc := 109) C (tgt := 5) dX6_isNumber_109 (by decide) ?_
            have hnb : nbeg (tNext dg (g k) (ch a)) (fLo k) (fHi k) = true := Bool.of_not_eq_false (fun h2 => c60 (by rw [hvv, hlo, hhi]; exact bI_eq0.mpr h2))
            have hle := Nat.le_trans (nbeg_le hnb) (fHi_le k)
            have hst : tStep (k, dg, g, r) (ch a) = some (k, dg + 1, updN g k (tNext dg (g k) (ch a)), r) := tStep_d hdd (by
              intro h
              rcases h with h | h
              · exact c20 h.2
              · exact absurd (hnb.symm.trans h) (by decide))
            rw [hvv]
            have hA0 : tAt I0 x t ch s0 q r (jst I x 9 (nI (tNext dg (g k) (ch a)))) a k dg g := ⟨hA.1, hA.2.1, hA.2.2.1.tr (mTx.fld (Or.inr (Or.inr (Or.inl rfl)))), by rw [jst_eq, upd_n (by decide)]; exact hA.2.2.2.1, by rw [jst_eq, upd_n (by decide)]; exact hA.2.2.2.2.1, fun j hj => by rw [jst_ne (by omega)]; exact hA.2.2.2.2.2 j hj⟩
            refine ih (a + 1) (dg + 1) (updN g k (tNext dg (g k) (ch a))) (hA0.f7 c13.1 hst) (by omega) (fun _ => by rw [updN_s]; exact ⟨hle, fun h => by omega⟩) (by rw [jst_eq, upd_n (by decide), jst_eq, upd_s]; unfold tVal; rw [if_neg (by omega), updN_s]) (fun I1 dg1 g1 h1 h2 h3 h4 h5 h6 h7 h8 => ?_)
            rw [show a + 1 + dg1 - (dg + 1) = a + dg1 - dg by omega] at h1 h8
            exact hx I1 dg1 g1 h1 (by omega) (fun j hj => (h3 j hj).trans (updN_n hj)) h4 (h5.trans (by rw [jst_ne (by omega), jst_ne (by omega)])) (h6.trans (by rw [jst_eq, upd_n (by decide), jst_eq, upd_n (by decide)])) h7 h8
theorem tStands_t {k dg : Nat} {g : Nat → Nat} {r : Nat × (Nat → Nat → Nat)} (h : dg ≠ 0) (h1 : fLo k ≤ g k) (h2 : g k ≤ fHi k) : tStands (k, dg, g, r) = true := decide_eq_true ⟨h, h1, h2⟩
theorem tStands_f {k dg : Nat} {g : Nat → Nat} {r : Nat × (Nat → Nat → Nat)} (h : ¬ (fLo k ≤ g k ∧ g k ≤ fHi k)) : tStands (k, dg, g, r) = false := decide_eq_false (fun z => h z.2)
theorem tStands_i {k dg : Nat} {g : Nat → Nat} {r : Nat × (Nat → Nat → Nat)} (h : tStands (k, dg, g, r) = true) : dg ≠ 0 ∧ fLo k ≤ g k ∧ g k ≤ fHi k := of_decide_eq_true h
theorem tBad {k : Nat} {v : Int32} : ¬ (nI (fLo k) ≤ -1 ∧ -1 ≤ v) := by
  intro h
  have h1 := h.1
  have h2 := fLo_le k
  have h3 : (-1 : Int32).toInt = -1 := by decide
  rw [i32_le, nI_toInt (by omega), h3] at h1
  omega
set_option maxHeartbeats 4000000 in
theorem b_X6_isNumber {p : Program} {l : Launch} {e : Env} {s : State} {m : MethodId} {args : Array Value} {below : List Frame} {meth : Method} {c : Code} {D : va_G} {cA : Nat → ClassId} {N0 : Nat} {Sh : jS} {I : jI} {P : jP} {L : jL} (C : jC p (jRm 2 0 0) s m args meth c D cA N0 cX6_isNumber 4 RX6 2) (hr : meth.sig.returnType = (some .boolean)) {x : Nat} (hS : mS Sh x) (hP : mP P x) {I0 : jI} {t : Nat} {ch : Nat → Nat} (hE : tEnv I0 x t ch) {s0 : tS} {q : Nat} {r : Nat × (Nat → Nat → Nat)} {k lo hi a : Nat} {g : Nat → Nat} (hA : tAt I0 x t ch s0 q r I a k 0 g) (hq : q ≤ 8) (hk : k < 5) (hlo : lo = fLo k) (hhi : hi = fHi k) : jJ p l e (jRm 2 0 0) s m args below meth c D cA N0 4 (MQ below (jQn D cA N0 Sh (jNi (fun v I' P' L' => (∃ b, v = bI b ∧ tNu I0 x t ch s0 q r I a k g b I') ∧ P' = P ∧ L' = L))) args s 0 0 (fun q => N0 ≤ q)) (fun _ => True) Sh I P L 0 0 0 [some (.ref x), some (.int (nI k)), some (.int (nI lo)), some (.int (nI hi))] [] := by
  refine jx_aload_n (pc := 0) C dX6_isNumber_0 rfl ?_
  refine jx_iconst (pc := 1) C dX6_isNumber_1 nc_m1 ?_
  refine jx_putI (pc := 2) C kf_X6_142 rfl rfl rfl rfl hS.1 dX6_isNumber_2 ?_
  have hA0 : tAt I0 x t ch s0 q r (jst I x 9 (-1)) a k 0 g := ⟨hA.1, hA.2.1, hA.2.2.1.tr (mTx.fld (Or.inr (Or.inr (Or.inl rfl)))), by rw [jst_eq, upd_n (by decide)]; exact hA.2.2.2.1, by rw [jst_eq, upd_n (by decide)]; exact hA.2.2.2.2.1, fun j hj => by rw [jst_ne (by omega)]; exact hA.2.2.2.2.2 j hj⟩
  refine lp_X6_isNumber (I := I) C hS hP hE hq hk hlo hhi t a 0 g hA0 (by omega) (fun h => absurd rfl h) (by rw [jst_eq]; exact upd_s) (fun I1 dg1 g1 hB h2 h3 h4 h5 h6 h7 h8 => ?_)
  rw [Nat.sub_zero] at hB h8
  rcases Nat.eq_zero_or_pos dg1 with hz | hz
  · subst hz
    have h9b : I1 x 9 = -1 := h7
    refine jx_aload_n (pc := 112) C dX6_isNumber_112 rfl ?_
    refine jx_getP (pc := 113) C kf_X6_22 rfl hS.1 hP.2.2.2.2.1 dX6_isNumber_113 ?_
    refine jx_iconst (pc := 116) C dX6_isNumber_116 nc_5 ?_
    refine jx_aload_n (pc := 117) C dX6_isNumber_117 rfl ?_
    refine jx_getIv (pc := 118) C kf_X6_148 rfl hS.1 hB.2.2.2.2.1 dX6_isNumber_118 ?_
    refine jx_imulN (pc := 121) C dX6_isNumber_121 ?_
    refine jx_iload_n (pc := 122) C dX6_isNumber_122 rfl ?_
    refine jx_iaddN (pc := 123) C dX6_isNumber_123 ?_
    refine jx_aload_n (pc := 124) C dX6_isNumber_124 rfl ?_
    refine jx_getIv (pc := 125) C kf_X6_142 rfl hS.1 h9b dX6_isNumber_125 ?_
    refine jx_iast (pc := 128) C hS.2.2.2.2.2.1 (by omega) (by decide) dX6_isNumber_128 ?_
    refine jx_aload_n (pc := 129) C dX6_isNumber_129 rfl ?_
    refine jx_getIv (pc := 130) C kf_X6_142 rfl hS.1 ((congrFun (jst_ne (by omega)) 9).trans h9b) dX6_isNumber_130 ?_
    refine jx_iload_n (pc := 133) C dX6_isNumber_133 rfl ?_
    refine jx_iload_n (pc := 134) C dX6_isNumber_134 rfl ?_
    refine jx_callD (pc := 135) C (go_X6_32 C  (Nat.le_of_ble_eq_true rfl) dX6_isNumber_135) t_X6_in (by decide) (by decide) ⟨Nat.zero_le _, Nat.zero_le _⟩ ?_
    refine jx_if_ne (pc := 138) C (tgt := 148) dX6_isNumber_138 (by decide) (fun c138 => ?_) (fun c138 => ?_)
    · rw [bI_0, decide_eq_false_iff_not, Decidable.not_not] at c138
      refine jx_iconst (pc := 148) C dX6_isNumber_148 nc_1 ?_
      refine jx_goto (pc := 149) C (tgt := 153) dX6_isNumber_149 (by decide) ?_
      exact jn_zret (pc := 153) C hr (rfl) (absurd c138 (by subst hlo; exact tBad)) dX6_isNumber_153
    · rw [bI_0, decide_eq_false_iff_not] at c138
      refine jx_aload_n (pc := 141) C dX6_isNumber_141 rfl ?_
      refine jx_callD (pc := 142) C (go_X6_138 C hS.1 (Nat.le_of_ble_eq_true rfl) dX6_isNumber_142) (t_X6_stops hS hP (hE.mv (hB.f5 (j := 5 * q + k) (by omega)).2.2.1) (hB.f5 (j := 5 * q + k) (by omega)).2.2.2.1 hB.1) (by decide) (by decide) ⟨Nat.zero_le _, Nat.zero_le _⟩ ?_
      refine jx_if_eq (pc := 145) C (tgt := 152) dX6_isNumber_145 (by decide) (fun c145 => ?_) (fun c145 => (by exfalso; revert c145; decide))
      refine jx_iconst (pc := 152) C dX6_isNumber_152 nc_0 ?_
      exact jn_zret (pc := 153) C hr (rfl) (⟨_, rfl, ⟨false, rfl, tNu_f hB h3 (h5.trans (jst_ne (by omega))) (by exact decide_eq_false (fun h => h.1 rfl)) h8⟩, rfl, rfl⟩) dX6_isNumber_153
  · have h9b : I1 x 9 = nI (g1 k) := by rw [h7]; unfold tVal; rw [if_neg (by omega)]
    have h4 := h4 (by omega)
    have hfl := fLo_le k
    have hfh := fHi_le k
    refine jx_aload_n (pc := 112) C dX6_isNumber_112 rfl ?_
    refine jx_getP (pc := 113) C kf_X6_22 rfl hS.1 hP.2.2.2.2.1 dX6_isNumber_113 ?_
    refine jx_iconst (pc := 116) C dX6_isNumber_116 nc_5 ?_
    refine jx_aload_n (pc := 117) C dX6_isNumber_117 rfl ?_
    refine jx_getIv (pc := 118) C kf_X6_148 rfl hS.1 hB.2.2.2.2.1 dX6_isNumber_118 ?_
    refine jx_imulN (pc := 121) C dX6_isNumber_121 ?_
    refine jx_iload_n (pc := 122) C dX6_isNumber_122 rfl ?_
    refine jx_iaddN (pc := 123) C dX6_isNumber_123 ?_
    refine jx_aload_n (pc := 124) C dX6_isNumber_124 rfl ?_
    refine jx_getIv (pc := 125) C kf_X6_142 rfl hS.1 h9b dX6_isNumber_125 ?_
    refine jx_iast (pc := 128) C hS.2.2.2.2.2.1 (by omega) (by decide) dX6_isNumber_128 ?_
    refine jx_aload_n (pc := 129) C dX6_isNumber_129 rfl ?_
    refine jx_getIv (pc := 130) C kf_X6_142 rfl hS.1 ((congrFun (jst_ne (by omega)) 9).trans h9b) dX6_isNumber_130 ?_
    refine jx_iload_n (pc := 133) C dX6_isNumber_133 rfl ?_
    refine jx_iload_n (pc := 134) C dX6_isNumber_134 rfl ?_
    refine jx_callD (pc := 135) C (go_X6_32 C  (Nat.le_of_ble_eq_true rfl) dX6_isNumber_135) t_X6_in (by decide) (by decide) ⟨Nat.zero_le _, Nat.zero_le _⟩ ?_
    refine jx_if_ne (pc := 138) C (tgt := 148) dX6_isNumber_138 (by decide) (fun c138 => ?_) (fun c138 => ?_)
    · rw [bI_0, decide_eq_false_iff_not, Decidable.not_not] at c138
      refine jx_iconst (pc := 148) C dX6_isNumber_148 nc_1 ?_
      refine jx_goto (pc := 149) C (tgt := 153) dX6_isNumber_149 (by decide) ?_
      exact jn_zret (pc := 153) C hr (rfl) (⟨_, rfl, ⟨true, rfl, tNu_t hB h3 (h5.trans (jst_ne (by omega))) (h6.trans (by rw [jst_eq, upd_n (by decide)])) (by rw [nI_leI (by omega) (by omega), nI_leI (by omega) (by omega)] at c138; exact tStands_t (by omega) (by omega) (by omega)) h4.2 h8⟩, rfl, rfl⟩) dX6_isNumber_153
    · rw [bI_0, decide_eq_false_iff_not] at c138
      refine jx_aload_n (pc := 141) C dX6_isNumber_141 rfl ?_
      refine jx_callD (pc := 142) C (go_X6_138 C hS.1 (Nat.le_of_ble_eq_true rfl) dX6_isNumber_142) (t_X6_stops hS hP (hE.mv (hB.f5 (j := 5 * q + k) (by omega)).2.2.1) (hB.f5 (j := 5 * q + k) (by omega)).2.2.2.1 hB.1) (by decide) (by decide) ⟨Nat.zero_le _, Nat.zero_le _⟩ ?_
      refine jx_if_eq (pc := 145) C (tgt := 152) dX6_isNumber_145 (by decide) (fun c145 => ?_) (fun c145 => (by exfalso; revert c145; decide))
      refine jx_iconst (pc := 152) C dX6_isNumber_152 nc_0 ?_
      exact jn_zret (pc := 153) C hr (rfl) (⟨_, rfl, ⟨false, rfl, tNu_f hB h3 (h5.trans (jst_ne (by omega))) (by rw [nI_leI (by omega) (by omega), nI_leI (by omega) (by omega)] at c138; exact tStands_f (by omega)) h8⟩, rfl, rfl⟩) dX6_isNumber_153
theorem t_X6_isNumber {l : Launch} {D : va_G} {cA : Nat → ClassId} {N0 : Nat} {Sh : jS} {I : jI} {P : jP} {L : jL} {x : Nat} (hS : mS Sh x) (hP : mP P x) {I0 : jI} {t : Nat} {ch : Nat → Nat} (hE : tEnv I0 x t ch) {s0 : tS} {q : Nat} {r : Nat × (Nat → Nat → Nat)} {k lo hi a : Nat} {g : Nat → Nat} (hA : tAt I0 x t ch s0 q r I a k 0 g) (hq : q ≤ 8) (hk : k < 5) (hlo : lo = fLo k) (hhi : hi = fHi k) : jN l D cA N0 2 yX6_isNumber cX6_isNumber 4 (some .boolean) [.ref x, .int (nI k), .int (nI lo), .int (nI hi)] Sh I P L (jNi (fun v I' P' L' => (∃ b, v = bI b ∧ tNu I0 x t ch s0 q r I a k g b I') ∧ P' = P ∧ L' = L)) := jN_of (by decide) (Nat.le_of_ble_eq_true rfl) (fun _ _ _ _ _ _ _ _ C hr => b_X6_isNumber C hr hS hP hE hA hq hk hlo hhi)
