theorem in1_N {v : Int32} {n : Nat} (hn : n < 2 ^ 31) (h : nI 1 ≤ v ∧ v ≤ nI n) : ∃ w : Nat, 1 ≤ w ∧ w ≤ n ∧ v = nI w := by
  have h1 : (nI 1).toInt = 1 := by decide
  have h2 : (nI 0).toInt = 0 := by decide
  have h3 := h.1
  rw [i32_le, h1] at h3
  obtain ⟨w, hw, rfl⟩ := in_N hn ⟨by rw [i32_le, h2]; omega, h.2⟩
  rw [nI_toInt (by omega)] at h3
  exact ⟨w, by omega, hw, rfl⟩
def sW (v : Int32) : Nat := v.toNatClampNeg
theorem sW_N {w : Nat} (h : w < 2 ^ 31) : sW (nI w) = w := nI_clamp h
def sloom (f : sF) (wv wd sp ca : Int32) : Nat × Int32 × sF :=
  if nI 0 ≤ wv ∧ wv ≤ nI 5 then
    if wd = 0 ∨ ((nI 40 ≤ wd ∧ wd ≤ nI 200) ∧ (nI 1 ≤ sp ∧ sp ≤ nI 9) ∧ (nI 0 ≤ ca ∧ ca ≤ nI 99)) then
      (0, f (18 + 12 * sW wv + 0), upd (upd (upd f (18 + 12 * sW wv + 0) wd) (18 + 12 * sW wv + 1) (if wd = 0 then nI 0 else sp)) (18 + 12 * sW wv + 2) (if wd = 0 then nI 0 else ca))
    else (2, nI 0, f)
  else (1, nI 0, f)
def syarn (f : sF) (wv cv g : Int32) : Nat × Int32 × sF :=
  if (nI 0 ≤ wv ∧ wv ≤ nI 5) ∧ (nI 0 ≤ cv ∧ cv ≤ nI 3) then
    if -9999 ≤ g ∧ g ≤ nI 9999 then
      if nI 0 ≤ f (18 + 12 * sW wv + (8 + sW cv)) + g ∧ f (18 + 12 * sW wv + (8 + sW cv)) + g ≤ nI 9999 then
        (0, f (18 + 12 * sW wv + (8 + sW cv)) + g, upd f (18 + 12 * sW wv + (8 + sW cv)) (f (18 + 12 * sW wv + (8 + sW cv)) + g))
      else (3, nI 0, f)
    else (2, nI 0, f)
  else (1, nI 0, f)
def sstore (f : sF) (cv g : Int32) : Nat × Int32 × sF :=
  if nI 0 ≤ cv ∧ cv ≤ nI 3 then
    if nI 1 ≤ g ∧ g ≤ nI 9999 then
      if f (14 + sW cv) + g ≤ 99999 then (0, f (14 + sW cv) + g, upd f (14 + sW cv) (f (14 + sW cv) + g)) else (3, nI 0, f)
    else (2, nI 0, f)
  else (1, nI 0, f)
def sgive (f : sF) (wv ov cv g : Int32) : Nat × Int32 × sF :=
  if (nI 0 ≤ wv ∧ wv ≤ nI 5) ∧ (nI 0 ≤ ov ∧ ov ≤ nI 5) ∧ (nI 0 ≤ cv ∧ cv ≤ nI 3) then
    if ¬ wv = ov ∧ (nI 1 ≤ g ∧ g ≤ nI 9999) then
      if g ≤ f (18 + 12 * sW wv + (8 + sW cv)) ∧ f (18 + 12 * sW ov + (8 + sW cv)) + g ≤ nI 9999 then
        (0, f (18 + 12 * sW ov + (8 + sW cv)) + g, upd (upd f (18 + 12 * sW wv + (8 + sW cv)) (f (18 + 12 * sW wv + (8 + sW cv)) + -g)) (18 + 12 * sW ov + (8 + sW cv)) (f (18 + 12 * sW ov + (8 + sW cv)) + g))
      else (3, nI 0, f)
    else (2, nI 0, f)
  else (1, nI 0, f)
/-- where an order with that due hour comes -/
def spos (f : sF) (due : Int32) : Nat → Nat | 0 => 0 | n + 1 => if f (90 + 12 * n + 5) ≤ due then n + 1 else spos f due n
theorem spos_le {f : sF} {due : Int32} : ∀ n, spos f due n ≤ n := by
  intro n
  induction n with
  | zero => exact Nat.le_refl 0
  | succ n ih => unfold spos; split <;> omega
def snew (f : sF) (cv wd len pr due : Int32) : Nat → Int32 | 0 => f 6 | 1 => cv | 2 => wd | 3 => len | 4 => pr | 5 => due | _ => nI 0
def scomes (f : sF) (cv wd len pr due : Int32) : sF := fun k =>
  if 90 + 12 * spos f due (smany f) ≤ k ∧ k < 90 + 12 * spos f due (smany f) + 12 then snew f cv wd len pr due (k - (90 + 12 * spos f due (smany f)))
  else if 90 + 12 * spos f due (smany f) + 12 ≤ k ∧ k < 90 + 12 * (smany f + 1) then f (k - 12)
  else upd (upd f 5 (f 5 + nI 1)) 6 (f 6 + nI 1) k
def sorder (f : sF) (cv wd len pr due : Int32) : Nat × Int32 × sF :=
  if nI 0 ≤ cv ∧ cv ≤ nI 3 then
    if (nI 40 ≤ wd ∧ wd ≤ nI 200) ∧ (nI 1 ≤ len ∧ len ≤ nI 200) ∧ (nI 1 ≤ pr ∧ pr ≤ nI 99) ∧ (nI 0 ≤ due ∧ due ≤ nI 9999) then
      if ¬ f 5 = nI 10 then (0, f 6, scomes f cv wd len pr due) else (3, nI 0, f)
    else (2, nI 0, f)
  else (1, nI 0, f)
def scancel (f : sF) (num : Int32) : Nat × Int32 × sF := match splace f num with | none => (1, nI 0, f) | some o => (0, sgood f o, sgoes f o)
def smax (v : Int32) : Int32 := if v = 0 then nI 2 else if v = nI 1 then nI 1 else if v = nI 2 then nI 50 else nI 9
def sset (f : sF) (sv v : Int32) : Nat × Int32 × sF :=
  if nI 0 ≤ sv ∧ sv ≤ nI 3 then
    if nI 0 ≤ v ∧ v ≤ smax sv then (0, f (sW sv), upd f (sW sv) v) else (2, nI 0, f)
  else (1, nI 0, f)
def spass (f : sF) (hv : Int32) : Nat × Int32 × sF :=
  if nI 1 ≤ hv ∧ hv ≤ nI 99 then
    if f 4 + hv ≤ nI 9999 then (0, shours f (sW hv) 7 - f 7, shours f (sW hv)) else (2, nI 0, f)
  else (1, nI 0, f)
theorem mDo_okG {I I1 I' : jI} {P : jP} {L : jL} {x : Nat} {S : Nat × Int32 × sF} {r : Int32} {g : sF} (hs : mSv (jst I x 6 (nI 0)) x I1) (e : S = (0, r, g)) (hI : I' (x + 1) = g) (hb' : ∀ b, b ≠ x + 1 → b ≠ x + 2 → b ≠ x + 6 → I' b = I1 b) : mDo I P L x S (some (.int r)) I' P L := by
  obtain ⟨h1, h2, h4, h6, hb, hp⟩ := hs
  subst e
  have hp := mPush_0 hp
  obtain ⟨q, p1, p2, p3, p4, p5⟩ := hp
  refine ⟨rfl, rfl, _, rfl, ?_, fun b hb2 => ?_, ?_, ?_, fun _ => ⟨rfl, hI, q, p1, p2, ?_, fun k hk => ?_, fun i hi k hk => ?_⟩, fun h => absurd rfl h⟩
  · rw [hb' _ (by omega) (by omega) (by omega), h6 6 (by decide), jst_eq, upd_s]
  · rw [hb' _ (by omega) (by omega) (by omega), hb b (by omega), jst_ne (by omega)]
  · rw [hb' _ (by omega) (by omega) (by omega), h6 5 (by decide), jst_eq, upd_n (by decide)]
  · rw [hb' _ (by omega) (by omega) (by omega), h4, jst_ne (by omega)]
  · rw [hb' _ (by omega) (by omega) (by omega)]; exact p3
  · rw [hb' _ (by omega) (by omega) (by omega)]; exact p4 k hk
  · rw [hb' _ (by omega) (by omega) (by omega)]; exact p5 i hi k hk
theorem mDo_okE {I I1 : jI} {P : jP} {L : jL} {x : Nat} {S : Nat × Int32 × sF} {r : Int32} {g : sF} (hs : mSv (jst I x 6 (nI 0)) x I1) (e : S = (0, r, g)) : mDo I P L x S (some (.int r)) (va_up I1 (x + 1) g) P L := mDo_okG hs e va_up_s (fun b h1 _ _ => va_up_n h1)
set_option maxHeartbeats 4000000 in
theorem b_X6_loom {p : Program} {l : Launch} {e : Env} {s : State} {m : MethodId} {args : Array Value} {below : List Frame} {meth : Method} {c : Code} {D : va_G} {cA : Nat → ClassId} {N0 : Nat} {Sh : jS} {I : jI} {P : jP} {L : jL} (C : jC p (jRm 2 0 0) s m args meth c D cA N0 cX6_loom 7 RX6 2) (hr : meth.sig.returnType = (some .int)) {x : Nat} (hS : mS Sh x) (hP : mP P x) {q0 : Nat} (hq0 : I x 3 = nI q0) (hqq : q0 ≤ 6) {wv wd sp ca : Int32} : jJ p l e (jRm 2 0 0) s m args below meth c D cA N0 7 (MQ below (jQn D cA N0 Sh (mDo I P L x (sloom (I (x + 1)) wv wd sp ca))) args s 0 0 (fun q => N0 ≤ q)) (fun _ => True) Sh I P L 0 0 0 [some (.ref x), some (.int wv), some (.int wd), some (.int sp), some (.int ca), none, none] [] := by
  refine jx_aload_n (pc := 0) C dX6_loom_0 rfl ?_
  refine jx_iconst (pc := 1) C dX6_loom_1 nc_0 ?_
  refine jx_putI (pc := 2) C kf_X6_28 rfl rfl rfl rfl hS.1 dX6_loom_2 ?_
  refine jx_iload_n (pc := 5) C dX6_loom_5 rfl ?_
  refine jx_callD (pc := 6) C (go_X6_103 C  (Nat.le_of_ble_eq_true rfl) dX6_loom_6) t_X6_isWeaver (by decide) (by decide) ⟨Nat.zero_le _, Nat.zero_le _⟩ ?_
  refine jx_if_ne (pc := 9) C (tgt := 18) dX6_loom_9 (by decide) (fun c9 => ?_) (fun c9 => ?_)
  · rw [bI_0, decide_eq_false_iff_not, Decidable.not_not] at c9
    obtain ⟨w, hw, rfl⟩ := in_N (by decide) c9
    refine jx_iload_n (pc := 18) C dX6_loom_18 rfl ?_
    refine jx_if_eq (pc := 19) C (tgt := 61) dX6_loom_19 (by decide) (fun c19 => ?_) (fun c19 => ?_)
    · refine jx_aload_n (pc := 61) C dX6_loom_61 rfl ?_
      refine jx_callv (pc := 62) C (go_X6_107 C hS.1 (Nat.le_of_ble_eq_true rfl) dX6_loom_62) (t_X6_saves hS hP ((congrFun jst_eq 3).trans ((upd_n (by decide)).trans hq0)) hqq) (by decide) (by decide) ⟨Nat.zero_le _, Nat.zero_le _⟩ (fun I62 P62 L62 q62 => ?_)
      obtain ⟨hsv, rfl, rfl⟩ := q62
      have hn : I62 (x + 1) = I (x + 1) := hsv.1.trans (jst_ne (by omega))
      refine jx_mem (I' := va_up I62 (x + 1) (I (x + 1))) (P' := _) (by rw [← hn]; exact va_up_id.symm) rfl ?_
      refine jx_bipush (pc := 65) C dX6_loom_65 nb_18 ?_
      refine jx_bipush (pc := 67) C dX6_loom_67 nb_12 ?_
      refine jx_iload_n (pc := 69) C dX6_loom_69 rfl ?_
      refine jx_imulN (pc := 70) C dX6_loom_70 ?_
      refine jx_iaddN (pc := 71) C dX6_loom_71 ?_
      refine jx_istore (pc := 72) C dX6_loom_72 (jset_5 jc_i) (by decide) ?_
      refine jx_aload_n (pc := 74) C dX6_loom_74 rfl ?_
      refine jx_getP (pc := 75) C kf_X6_7 rfl hS.1 hP.1 dX6_loom_75 ?_
      refine jx_iload (pc := 78) C dX6_loom_78 rfl ?_
      refine jx_ialdv (pc := 80) C hS.2.1 (by omega) (by decide) (congrFun va_up_s _) dX6_loom_80 ?_
      refine jx_istore (pc := 81) C dX6_loom_81 (jset_6 jc_i) (by decide) ?_
      refine jx_aload_n (pc := 83) C dX6_loom_83 rfl ?_
      refine jx_getP (pc := 84) C kf_X6_7 rfl hS.1 hP.1 dX6_loom_84 ?_
      refine jx_iload (pc := 87) C dX6_loom_87 rfl ?_
      refine jx_iconst (pc := 89) C dX6_loom_89 nc_0 ?_
      refine jx_iaddN (pc := 90) C dX6_loom_90 ?_
      refine jx_iload_n (pc := 91) C dX6_loom_91 rfl ?_
      refine jx_iast (pc := 92) C hS.2.1 (by omega) (by decide) dX6_loom_92 ?_
      rw [jst_up]
      refine jx_aload_n (pc := 93) C dX6_loom_93 rfl ?_
      refine jx_getP (pc := 94) C kf_X6_7 rfl hS.1 hP.1 dX6_loom_94 ?_
      refine jx_iload (pc := 97) C dX6_loom_97 rfl ?_
      refine jx_iconst (pc := 99) C dX6_loom_99 nc_1 ?_
      refine jx_iaddN (pc := 100) C dX6_loom_100 ?_
      refine jx_iload_n (pc := 101) C dX6_loom_101 rfl ?_
      refine jx_if_ne (pc := 102) C (tgt := 109) dX6_loom_102 (by decide) (fun c102 => ?_) (fun c102 => ?_)
      · refine jx_iload_n (pc := 109) C dX6_loom_109 rfl ?_
        refine jx_iast (pc := 110) C hS.2.1 (by omega) (by decide) dX6_loom_110 ?_
        rw [jst_up]
        refine jx_aload_n (pc := 111) C dX6_loom_111 rfl ?_
        refine jx_getP (pc := 112) C kf_X6_7 rfl hS.1 hP.1 dX6_loom_112 ?_
        refine jx_iload (pc := 115) C dX6_loom_115 rfl ?_
        refine jx_iconst (pc := 117) C dX6_loom_117 nc_2 ?_
        refine jx_iaddN (pc := 118) C dX6_loom_118 ?_
        refine jx_iload_n (pc := 119) C dX6_loom_119 rfl ?_
        refine jx_if_ne (pc := 120) C (tgt := 127) dX6_loom_120 (by decide) (fun c120 => ?_) (fun c120 => ?_)
        · refine jx_iload (pc := 127) C dX6_loom_127 rfl ?_
          refine jx_iast (pc := 129) C hS.2.1 (by omega) (by decide) dX6_loom_129 ?_
          rw [jst_up]
          refine jx_iload (pc := 130) C dX6_loom_130 rfl ?_
          exact jn_iret (pc := 132) C hr (mDo_okE hsv (by unfold sloom; rw [if_pos (nI_inn (by decide) hw), if_pos (by first | exact Or.inl c19 | exact Or.inr ⟨c31, c41, c52⟩), sW_N (by omega)]; first | exact absurd c102 c120 | exact absurd c120 c102 | (rw [if_pos c102, if_pos c102]; rfl) | (rw [if_neg c102, if_neg c102]; rfl))) dX6_loom_132
        · refine jx_iconst (pc := 123) C dX6_loom_123 nc_0 ?_
          refine jx_goto (pc := 124) C (tgt := 129) dX6_loom_124 (by decide) ?_
          refine jx_iast (pc := 129) C hS.2.1 (by omega) (by decide) dX6_loom_129 ?_
          rw [jst_up]
          refine jx_iload (pc := 130) C dX6_loom_130 rfl ?_
          exact jn_iret (pc := 132) C hr (mDo_okE hsv (by unfold sloom; rw [if_pos (nI_inn (by decide) hw), if_pos (by first | exact Or.inl c19 | exact Or.inr ⟨c31, c41, c52⟩), sW_N (by omega)]; first | exact absurd c102 c120 | exact absurd c120 c102 | (rw [if_pos c102, if_pos c102]; rfl) | (rw [if_neg c102, if_neg c102]; rfl))) dX6_loom_132
      · refine jx_iconst (pc := 105) C dX6_loom_105 nc_0 ?_
        refine jx_goto (pc := 106) C (tgt := 110) dX6_loom_106 (by decide) ?_
        refine jx_iast (pc := 110) C hS.2.1 (by omega) (by decide) dX6_loom_110 ?_
        rw [jst_up]
        refine jx_aload_n (pc := 111) C dX6_loom_111 rfl ?_
        refine jx_getP (pc := 112) C kf_X6_7 rfl hS.1 hP.1 dX6_loom_112 ?_
        refine jx_iload (pc := 115) C dX6_loom_115 rfl ?_
        refine jx_iconst (pc := 117) C dX6_loom_117 nc_2 ?_
        refine jx_iaddN (pc := 118) C dX6_loom_118 ?_
        refine jx_iload_n (pc := 119) C dX6_loom_119 rfl ?_
        refine jx_if_ne (pc := 120) C (tgt := 127) dX6_loom_120 (by decide) (fun c120 => ?_) (fun c120 => ?_)
        · refine jx_iload (pc := 127) C dX6_loom_127 rfl ?_
          refine jx_iast (pc := 129) C hS.2.1 (by omega) (by decide) dX6_loom_129 ?_
          rw [jst_up]
          refine jx_iload (pc := 130) C dX6_loom_130 rfl ?_
          exact jn_iret (pc := 132) C hr (mDo_okE hsv (by unfold sloom; rw [if_pos (nI_inn (by decide) hw), if_pos (by first | exact Or.inl c19 | exact Or.inr ⟨c31, c41, c52⟩), sW_N (by omega)]; first | exact absurd c102 c120 | exact absurd c120 c102 | (rw [if_pos c102, if_pos c102]; rfl) | (rw [if_neg c102, if_neg c102]; rfl))) dX6_loom_132
        · refine jx_iconst (pc := 123) C dX6_loom_123 nc_0 ?_
          refine jx_goto (pc := 124) C (tgt := 129) dX6_loom_124 (by decide) ?_
          refine jx_iast (pc := 129) C hS.2.1 (by omega) (by decide) dX6_loom_129 ?_
          rw [jst_up]
          refine jx_iload (pc := 130) C dX6_loom_130 rfl ?_
          exact jn_iret (pc := 132) C hr (mDo_okE hsv (by unfold sloom; rw [if_pos (nI_inn (by decide) hw), if_pos (by first | exact Or.inl c19 | exact Or.inr ⟨c31, c41, c52⟩), sW_N (by omega)]; first | exact absurd c102 c120 | exact absurd c120 c102 | (rw [if_pos c102, if_pos c102]; rfl) | (rw [if_neg c102, if_neg c102]; rfl))) dX6_loom_132
    · refine jx_iload_n (pc := 22) C dX6_loom_22 rfl ?_
      refine jx_bipush (pc := 23) C dX6_loom_23 nb_40 ?_
      refine jx_sipush (pc := 25) C dX6_loom_25 ns_200 ?_
      refine jx_callD (pc := 28) C (go_X6_32 C  (Nat.le_of_ble_eq_true rfl) dX6_loom_28) t_X6_in (by decide) (by decide) ⟨Nat.zero_le _, Nat.zero_le _⟩ ?_
      refine jx_if_eq (pc := 31) C (tgt := 55) dX6_loom_31 (by decide) (fun c31 => ?_) (fun c31 => ?_)
      · rw [bI_0, decide_eq_false_iff_not] at c31
        refine jx_aload_n (pc := 55) C dX6_loom_55 rfl ?_
        refine jx_iconst (pc := 56) C dX6_loom_56 nc_2 ?_
        refine jx_callD (pc := 57) C (go_X6_39 C hS.1 (Nat.le_of_ble_eq_true rfl) dX6_loom_57) (t_X6_fails hS.1) (by decide) (by decide) ⟨Nat.zero_le _, Nat.zero_le _⟩ ?_
        exact jn_iret (pc := 60) C hr (mDo_fail (k := 2) (by unfold sloom; rw [if_pos (nI_inn (by decide) hw), if_neg (by rintro (h | ⟨h1, h2, h3⟩) <;> contradiction)]) (by decide)) dX6_loom_60
      · rw [bI_0, decide_eq_false_iff_not, Decidable.not_not] at c31
        refine jx_iload_n (pc := 34) C dX6_loom_34 rfl ?_
        refine jx_iconst (pc := 35) C dX6_loom_35 nc_1 ?_
        refine jx_bipush (pc := 36) C dX6_loom_36 nb_9 ?_
        refine jx_callD (pc := 38) C (go_X6_32 C  (Nat.le_of_ble_eq_true rfl) dX6_loom_38) t_X6_in (by decide) (by decide) ⟨Nat.zero_le _, Nat.zero_le _⟩ ?_
        refine jx_if_eq (pc := 41) C (tgt := 55) dX6_loom_41 (by decide) (fun c41 => ?_) (fun c41 => ?_)
        · rw [bI_0, decide_eq_false_iff_not] at c41
          refine jx_aload_n (pc := 55) C dX6_loom_55 rfl ?_
          refine jx_iconst (pc := 56) C dX6_loom_56 nc_2 ?_
          refine jx_callD (pc := 57) C (go_X6_39 C hS.1 (Nat.le_of_ble_eq_true rfl) dX6_loom_57) (t_X6_fails hS.1) (by decide) (by decide) ⟨Nat.zero_le _, Nat.zero_le _⟩ ?_
          exact jn_iret (pc := 60) C hr (mDo_fail (k := 2) (by unfold sloom; rw [if_pos (nI_inn (by decide) hw), if_neg (by rintro (h | ⟨h1, h2, h3⟩) <;> contradiction)]) (by decide)) dX6_loom_60
        · rw [bI_0, decide_eq_false_iff_not, Decidable.not_not] at c41
          refine jx_iload (pc := 44) C dX6_loom_44 rfl ?_
          refine jx_iconst (pc := 46) C dX6_loom_46 nc_0 ?_
          refine jx_bipush (pc := 47) C dX6_loom_47 nb_99 ?_
          refine jx_callD (pc := 49) C (go_X6_32 C  (Nat.le_of_ble_eq_true rfl) dX6_loom_49) t_X6_in (by decide) (by decide) ⟨Nat.zero_le _, Nat.zero_le _⟩ ?_
          refine jx_if_ne (pc := 52) C (tgt := 61) dX6_loom_52 (by decide) (fun c52 => ?_) (fun c52 => ?_)
          · rw [bI_0, decide_eq_false_iff_not, Decidable.not_not] at c52
            refine jx_aload_n (pc := 61) C dX6_loom_61 rfl ?_
            refine jx_callv (pc := 62) C (go_X6_107 C hS.1 (Nat.le_of_ble_eq_true rfl) dX6_loom_62) (t_X6_saves hS hP ((congrFun jst_eq 3).trans ((upd_n (by decide)).trans hq0)) hqq) (by decide) (by decide) ⟨Nat.zero_le _, Nat.zero_le _⟩ (fun I62 P62 L62 q62 => ?_)
            obtain ⟨hsv, rfl, rfl⟩ := q62
            have hn : I62 (x + 1) = I (x + 1) := hsv.1.trans (jst_ne (by omega))
            refine jx_mem (I' := va_up I62 (x + 1) (I (x + 1))) (P' := _) (by rw [← hn]; exact va_up_id.symm) rfl ?_
            refine jx_bipush (pc := 65) C dX6_loom_65 nb_18 ?_
            refine jx_bipush (pc := 67) C dX6_loom_67 nb_12 ?_
            refine jx_iload_n (pc := 69) C dX6_loom_69 rfl ?_
            refine jx_imulN (pc := 70) C dX6_loom_70 ?_
            refine jx_iaddN (pc := 71) C dX6_loom_71 ?_
            refine jx_istore (pc := 72) C dX6_loom_72 (jset_5 jc_i) (by decide) ?_
            refine jx_aload_n (pc := 74) C dX6_loom_74 rfl ?_
            refine jx_getP (pc := 75) C kf_X6_7 rfl hS.1 hP.1 dX6_loom_75 ?_
            refine jx_iload (pc := 78) C dX6_loom_78 rfl ?_
            refine jx_ialdv (pc := 80) C hS.2.1 (by omega) (by decide) (congrFun va_up_s _) dX6_loom_80 ?_
            refine jx_istore (pc := 81) C dX6_loom_81 (jset_6 jc_i) (by decide) ?_
            refine jx_aload_n (pc := 83) C dX6_loom_83 rfl ?_
            refine jx_getP (pc := 84) C kf_X6_7 rfl hS.1 hP.1 dX6_loom_84 ?_
            refine jx_iload (pc := 87) C dX6_loom_87 rfl ?_
            refine jx_iconst (pc := 89) C dX6_loom_89 nc_0 ?_
            refine jx_iaddN (pc := 90) C dX6_loom_90 ?_
            refine jx_iload_n (pc := 91) C dX6_loom_91 rfl ?_
            refine jx_iast (pc := 92) C hS.2.1 (by omega) (by decide) dX6_loom_92 ?_
            rw [jst_up]
            refine jx_aload_n (pc := 93) C dX6_loom_93 rfl ?_
            refine jx_getP (pc := 94) C kf_X6_7 rfl hS.1 hP.1 dX6_loom_94 ?_
            refine jx_iload (pc := 97) C dX6_loom_97 rfl ?_
            refine jx_iconst (pc := 99) C dX6_loom_99 nc_1 ?_
            refine jx_iaddN (pc := 100) C dX6_loom_100 ?_
            refine jx_iload_n (pc := 101) C dX6_loom_101 rfl ?_
            refine jx_if_ne (pc := 102) C (tgt := 109) dX6_loom_102 (by decide) (fun c102 => ?_) (fun c102 => ?_)
            · refine jx_iload_n (pc := 109) C dX6_loom_109 rfl ?_
              refine jx_iast (pc := 110) C hS.2.1 (by omega) (by decide) dX6_loom_110 ?_
              rw [jst_up]
              refine jx_aload_n (pc := 111) C dX6_loom_111 rfl ?_
              refine jx_getP (pc := 112) C kf_X6_7 rfl hS.1 hP.1 dX6_loom_112 ?_
              refine jx_iload (pc := 115) C dX6_loom_115 rfl ?_
              refine jx_iconst (pc := 117) C dX6_loom_117 nc_2 ?_
              refine jx_iaddN (pc := 118) C dX6_loom_118 ?_
              refine jx_iload_n (pc := 119) C dX6_loom_119 rfl ?_
              refine jx_if_ne (pc := 120) C (tgt := 127) dX6_loom_120 (by decide) (fun c120 => ?_) (fun c120 => ?_)
              · refine jx_iload (pc := 127) C dX6_loom_127 rfl ?_
                refine jx_iast (pc := 129) C hS.2.1 (by omega) (by decide) dX6_loom_129 ?_
                rw [jst_up]
                refine jx_iload (pc := 130) C dX6_loom_130 rfl ?_
                exact jn_iret (pc := 132) C hr (mDo_okE hsv (by unfold sloom; rw [if_pos (nI_inn (by decide) hw), if_pos (by first | exact Or.inl c19 | exact Or.inr ⟨c31, c41, c52⟩), sW_N (by omega)]; first | exact absurd c102 c120 | exact absurd c120 c102 | (rw [if_pos c102, if_pos c102]; rfl) | (rw [if_neg c102, if_neg c102]; rfl))) dX6_loom_132
              · refine jx_iconst (pc := 123) C dX6_loom_123 nc_0 ?_
                refine jx_goto (pc := 124) C (tgt := 129) dX6_loom_124 (by decide) ?_
                refine jx_iast (pc := 129) C hS.2.1 (by omega) (by decide) dX6_loom_129 ?_
                rw [jst_up]
                refine jx_iload (pc := 130) C dX6_loom_130 rfl ?_
                exact jn_iret (pc := 132) C hr (mDo_okE hsv (by unfold sloom; rw [if_pos (nI_inn (by decide) hw), if_pos (by first | exact Or.inl c19 | exact Or.inr ⟨c31, c41, c52⟩), sW_N (by omega)]; first | exact absurd c102 c120 | exact absurd c120 c102 | (rw [if_pos c102, if_pos c102]; rfl) | (rw [if_neg c102, if_neg c102]; rfl))) dX6_loom_132
            · refine jx_iconst (pc := 105) C dX6_loom_105 nc_0 ?_
              refine jx_goto (pc := 106) C (tgt := 110) dX6_loom_106 (by decide) ?_
              refine jx_iast (pc := 110) C hS.2.1 (by omega) (by decide) dX6_loom_110 ?_
              rw [jst_up]
              refine jx_aload_n (pc := 111) C dX6_loom_111 rfl ?_
              refine jx_getP (pc := 112) C kf_X6_7 rfl hS.1 hP.1 dX6_loom_112 ?_
              refine jx_iload (pc := 115) C dX6_loom_115 rfl ?_
              refine jx_iconst (pc := 117) C dX6_loom_117 nc_2 ?_
              refine jx_iaddN (pc := 118) C dX6_loom_118 ?_
              refine jx_iload_n (pc := 119) C dX6_loom_119 rfl ?_
              refine jx_if_ne (pc := 120) C (tgt := 127) dX6_loom_120 (by decide) (fun c120 => ?_) (fun c120 => ?_)
              · refine jx_iload (pc := 127) C dX6_loom_127 rfl ?_
                refine jx_iast (pc := 129) C hS.2.1 (by omega) (by decide) dX6_loom_129 ?_
                rw [jst_up]
                refine jx_iload (pc := 130) C dX6_loom_130 rfl ?_
                exact jn_iret (pc := 132) C hr (mDo_okE hsv (by unfold sloom; rw [if_pos (nI_inn (by decide) hw), if_pos (by first | exact Or.inl c19 | exact Or.inr ⟨c31, c41, c52⟩), sW_N (by omega)]; first | exact absurd c102 c120 | exact absurd c120 c102 | (rw [if_pos c102, if_pos c102]; rfl) | (rw [if_neg c102, if_neg c102]; rfl))) dX6_loom_132
              · refine jx_iconst (pc := 123) C dX6_loom_123 nc_0 ?_
                refine jx_goto (pc := 124) C (tgt := 129) dX6_loom_124 (by decide) ?_
                refine jx_iast (pc := 129) C hS.2.1 (by omega) (by decide) dX6_loom_129 ?_
                rw [jst_up]
                refine jx_iload (pc := 130) C dX6_loom_130 rfl ?_
                exact jn_iret (pc := 132) C hr (mDo_okE hsv (by unfold sloom; rw [if_pos (nI_inn (by decide) hw), if_pos (by first | exact Or.inl c19 | exact Or.inr ⟨c31, c41, c52⟩), sW_N (by omega)]; first | exact absurd c102 c120 | exact absurd c120 c102 | (rw [if_pos c102, if_pos c102]; rfl) | (rw [if_neg c102, if_neg c102]; rfl))) dX6_loom_132
          · rw [bI_0, decide_eq_false_iff_not] at c52
            refine jx_aload_n (pc := 55) C dX6_loom_55 rfl ?_
            refine jx_iconst (pc := 56) C dX6_loom_56 nc_2 ?_
            refine jx_callD (pc := 57) C (go_X6_39 C hS.1 (Nat.le_of_ble_eq_true rfl) dX6_loom_57) (t_X6_fails hS.1) (by decide) (by decide) ⟨Nat.zero_le _, Nat.zero_le _⟩ ?_
            exact jn_iret (pc := 60) C hr (mDo_fail (k := 2) (by unfold sloom; rw [if_pos (nI_inn (by decide) hw), if_neg (by rintro (h | ⟨h1, h2, h3⟩) <;> contradiction)]) (by decide)) dX6_loom_60
  · rw [bI_0, decide_eq_false_iff_not] at c9
    refine jx_aload_n (pc := 12) C dX6_loom_12 rfl ?_
    refine jx_iconst (pc := 13) C dX6_loom_13 nc_1 ?_
    refine jx_callD (pc := 14) C (go_X6_39 C hS.1 (Nat.le_of_ble_eq_true rfl) dX6_loom_14) (t_X6_fails hS.1) (by decide) (by decide) ⟨Nat.zero_le _, Nat.zero_le _⟩ ?_
    exact jn_iret (pc := 17) C hr (mDo_fail (k := 1) (by unfold sloom; rw [if_neg c9]) (by decide)) dX6_loom_17
theorem t_X6_loom {l : Launch} {D : va_G} {cA : Nat → ClassId} {N0 : Nat} {Sh : jS} {I : jI} {P : jP} {L : jL} {x : Nat} (hS : mS Sh x) (hP : mP P x) {q0 : Nat} (hq0 : I x 3 = nI q0) (hqq : q0 ≤ 6) {wv wd sp ca : Int32} : jN l D cA N0 2 yX6_loom cX6_loom 7 (some .int) [.ref x, .int wv, .int wd, .int sp, .int ca] Sh I P L (mDo I P L x (sloom (I (x + 1)) wv wd sp ca)) := jN_of (by decide) (Nat.le_of_ble_eq_true rfl) (fun _ _ _ _ _ _ _ _ C hr => b_X6_loom C hr hS hP hq0 hqq)
set_option maxHeartbeats 4000000 in
theorem b_X6_yarn {p : Program} {l : Launch} {e : Env} {s : State} {m : MethodId} {args : Array Value} {below : List Frame} {meth : Method} {c : Code} {D : va_G} {cA : Nat → ClassId} {N0 : Nat} {Sh : jS} {I : jI} {P : jP} {L : jL} (C : jC p (jRm 2 0 0) s m args meth c D cA N0 cX6_yarn 4 RX6 2) (hr : meth.sig.returnType = (some .int)) {x : Nat} (hS : mS Sh x) (hP : mP P x) {q0 : Nat} (hq0 : I x 3 = nI q0) (hqq : q0 ≤ 6) {wv cv g : Int32} : jJ p l e (jRm 2 0 0) s m args below meth c D cA N0 4 (MQ below (jQn D cA N0 Sh (mDo I P L x (syarn (I (x + 1)) wv cv g))) args s 0 0 (fun q => N0 ≤ q)) (fun _ => True) Sh I P L 0 0 0 [some (.ref x), some (.int wv), some (.int cv), some (.int g)] [] := by
  refine jx_aload_n (pc := 0) C dX6_yarn_0 rfl ?_
  refine jx_iconst (pc := 1) C dX6_yarn_1 nc_0 ?_
  refine jx_putI (pc := 2) C kf_X6_28 rfl rfl rfl rfl hS.1 dX6_yarn_2 ?_
  refine jx_iload_n (pc := 5) C dX6_yarn_5 rfl ?_
  refine jx_callD (pc := 6) C (go_X6_103 C  (Nat.le_of_ble_eq_true rfl) dX6_yarn_6) t_X6_isWeaver (by decide) (by decide) ⟨Nat.zero_le _, Nat.zero_le _⟩ ?_
  refine jx_if_eq (pc := 9) C (tgt := 19) dX6_yarn_9 (by decide) (fun c9 => ?_) (fun c9 => ?_)
  · rw [bI_0, decide_eq_false_iff_not] at c9
    refine jx_aload_n (pc := 19) C dX6_yarn_19 rfl ?_
    refine jx_iconst (pc := 20) C dX6_yarn_20 nc_1 ?_
    refine jx_callD (pc := 21) C (go_X6_39 C hS.1 (Nat.le_of_ble_eq_true rfl) dX6_yarn_21) (t_X6_fails hS.1) (by decide) (by decide) ⟨Nat.zero_le _, Nat.zero_le _⟩ ?_
    exact jn_iret (pc := 24) C hr (mDo_fail (k := 1) (by unfold syarn; rw [if_neg (by rintro ⟨h1, h2⟩; contradiction)]) (by decide)) dX6_yarn_24
  · rw [bI_0, decide_eq_false_iff_not, Decidable.not_not] at c9
    refine jx_iload_n (pc := 12) C dX6_yarn_12 rfl ?_
    refine jx_callD (pc := 13) C (go_X6_110 C  (Nat.le_of_ble_eq_true rfl) dX6_yarn_13) t_X6_isColour (by decide) (by decide) ⟨Nat.zero_le _, Nat.zero_le _⟩ ?_
    refine jx_if_ne (pc := 16) C (tgt := 25) dX6_yarn_16 (by decide) (fun c16 => ?_) (fun c16 => ?_)
    · rw [bI_0, decide_eq_false_iff_not, Decidable.not_not] at c16
      obtain ⟨w, hw, rfl⟩ := in_N (by decide) c9
      obtain ⟨c0, hc, rfl⟩ := in_N (by decide) c16
      refine jx_iload_n (pc := 25) C dX6_yarn_25 rfl ?_
      refine jx_sipush (pc := 26) C dX6_yarn_26 ns_m9999 ?_
      refine jx_sipush (pc := 29) C dX6_yarn_29 ns_9999 ?_
      refine jx_callD (pc := 32) C (go_X6_32 C  (Nat.le_of_ble_eq_true rfl) dX6_yarn_32) t_X6_in (by decide) (by decide) ⟨Nat.zero_le _, Nat.zero_le _⟩ ?_
      refine jx_if_ne (pc := 35) C (tgt := 44) dX6_yarn_35 (by decide) (fun c35 => ?_) (fun c35 => ?_)
      · rw [bI_0, decide_eq_false_iff_not, Decidable.not_not] at c35
        refine jx_aload_n (pc := 44) C dX6_yarn_44 rfl ?_
        refine jx_getP (pc := 45) C kf_X6_7 rfl hS.1 hP.1 dX6_yarn_45 ?_
        refine jx_iload_n (pc := 48) C dX6_yarn_48 rfl ?_
        refine jx_bipush (pc := 49) C dX6_yarn_49 nb_8 ?_
        refine jx_iload_n (pc := 51) C dX6_yarn_51 rfl ?_
        refine jx_iaddN (pc := 52) C dX6_yarn_52 ?_
        refine jx_callD (pc := 53) C (go_X6_47 C  (Nat.le_of_ble_eq_true rfl) dX6_yarn_53) (t_X6_ofv hS.2.1 (by omega) (congrFun (jst_ne (by omega)) _)) (by decide) (by decide) ⟨Nat.zero_le _, Nat.zero_le _⟩ ?_
        refine jx_iload_n (pc := 56) C dX6_yarn_56 rfl ?_
        refine jx_iadd (pc := 57) C dX6_yarn_57 ?_
        refine jx_iconst (pc := 58) C dX6_yarn_58 nc_0 ?_
        refine jx_sipush (pc := 59) C dX6_yarn_59 ns_9999 ?_
        refine jx_callD (pc := 62) C (go_X6_32 C  (Nat.le_of_ble_eq_true rfl) dX6_yarn_62) t_X6_in (by decide) (by decide) ⟨Nat.zero_le _, Nat.zero_le _⟩ ?_
        refine jx_if_ne (pc := 65) C (tgt := 74) dX6_yarn_65 (by decide) (fun c65 => ?_) (fun c65 => ?_)
        · rw [bI_0, decide_eq_false_iff_not, Decidable.not_not] at c65
          refine jx_aload_n (pc := 74) C dX6_yarn_74 rfl ?_
          refine jx_callv (pc := 75) C (go_X6_107 C hS.1 (Nat.le_of_ble_eq_true rfl) dX6_yarn_75) (t_X6_saves hS hP ((congrFun jst_eq 3).trans ((upd_n (by decide)).trans hq0)) hqq) (by decide) (by decide) ⟨Nat.zero_le _, Nat.zero_le _⟩ (fun I75 P75 L75 q75 => ?_)
          obtain ⟨hsv, rfl, rfl⟩ := q75
          have hn : I75 (x + 1) = I (x + 1) := hsv.1.trans (jst_ne (by omega))
          refine jx_mem (I' := va_up I75 (x + 1) (I (x + 1))) (P' := _) (by rw [← hn]; exact va_up_id.symm) rfl ?_
          refine jx_aload_n (pc := 78) C dX6_yarn_78 rfl ?_
          refine jx_getP (pc := 79) C kf_X6_7 rfl hS.1 hP.1 dX6_yarn_79 ?_
          refine jx_iload_n (pc := 82) C dX6_yarn_82 rfl ?_
          refine jx_bipush (pc := 83) C dX6_yarn_83 nb_8 ?_
          refine jx_iload_n (pc := 85) C dX6_yarn_85 rfl ?_
          refine jx_iaddN (pc := 86) C dX6_yarn_86 ?_
          refine jx_iload_n (pc := 87) C dX6_yarn_87 rfl ?_
          refine jx_callDv (pc := 88) C (go_X6_66 C  (Nat.le_of_ble_eq_true rfl) dX6_yarn_88) (t_X6_adds hS.2.1 (by omega)) (by decide) (by decide) ⟨Nat.zero_le _, Nat.zero_le _⟩ ?_
          rw [jst_up, va_up_s]
          refine jx_aload_n (pc := 91) C dX6_yarn_91 rfl ?_
          refine jx_getP (pc := 92) C kf_X6_7 rfl hS.1 hP.1 dX6_yarn_92 ?_
          refine jx_iload_n (pc := 95) C dX6_yarn_95 rfl ?_
          refine jx_bipush (pc := 96) C dX6_yarn_96 nb_8 ?_
          refine jx_iload_n (pc := 98) C dX6_yarn_98 rfl ?_
          refine jx_iaddN (pc := 99) C dX6_yarn_99 ?_
          refine jx_callD (pc := 100) C (go_X6_47 C  (Nat.le_of_ble_eq_true rfl) dX6_yarn_100) (t_X6_ofv hS.2.1 (by omega) ((congrFun va_up_s _).trans upd_s)) (by decide) (by decide) ⟨Nat.zero_le _, Nat.zero_le _⟩ ?_
          exact jn_iret (pc := 103) C hr (mDo_okE hsv (by unfold syarn; rw [if_pos ⟨nI_inn (by decide) hw, nI_inn (by decide) hc⟩, if_pos c35, sW_N (by omega), sW_N (by omega), if_pos c65])) dX6_yarn_103
        · rw [bI_0, decide_eq_false_iff_not] at c65
          refine jx_aload_n (pc := 68) C dX6_yarn_68 rfl ?_
          refine jx_iconst (pc := 69) C dX6_yarn_69 nc_3 ?_
          refine jx_callD (pc := 70) C (go_X6_39 C hS.1 (Nat.le_of_ble_eq_true rfl) dX6_yarn_70) (t_X6_fails hS.1) (by decide) (by decide) ⟨Nat.zero_le _, Nat.zero_le _⟩ ?_
          exact jn_iret (pc := 73) C hr (mDo_fail (k := 3) (by unfold syarn; rw [if_pos ⟨nI_inn (by decide) hw, nI_inn (by decide) hc⟩, if_pos c35, sW_N (by omega), sW_N (by omega), if_neg c65]) (by decide)) dX6_yarn_73
      · rw [bI_0, decide_eq_false_iff_not] at c35
        refine jx_aload_n (pc := 38) C dX6_yarn_38 rfl ?_
        refine jx_iconst (pc := 39) C dX6_yarn_39 nc_2 ?_
        refine jx_callD (pc := 40) C (go_X6_39 C hS.1 (Nat.le_of_ble_eq_true rfl) dX6_yarn_40) (t_X6_fails hS.1) (by decide) (by decide) ⟨Nat.zero_le _, Nat.zero_le _⟩ ?_
        exact jn_iret (pc := 43) C hr (mDo_fail (k := 2) (by unfold syarn; rw [if_pos ⟨nI_inn (by decide) hw, nI_inn (by decide) hc⟩, if_neg c35]) (by decide)) dX6_yarn_43
    · rw [bI_0, decide_eq_false_iff_not] at c16
      refine jx_aload_n (pc := 19) C dX6_yarn_19 rfl ?_
      refine jx_iconst (pc := 20) C dX6_yarn_20 nc_1 ?_
      refine jx_callD (pc := 21) C (go_X6_39 C hS.1 (Nat.le_of_ble_eq_true rfl) dX6_yarn_21) (t_X6_fails hS.1) (by decide) (by decide) ⟨Nat.zero_le _, Nat.zero_le _⟩ ?_
      exact jn_iret (pc := 24) C hr (mDo_fail (k := 1) (by unfold syarn; rw [if_neg (by rintro ⟨h1, h2⟩; contradiction)]) (by decide)) dX6_yarn_24
theorem t_X6_yarn {l : Launch} {D : va_G} {cA : Nat → ClassId} {N0 : Nat} {Sh : jS} {I : jI} {P : jP} {L : jL} {x : Nat} (hS : mS Sh x) (hP : mP P x) {q0 : Nat} (hq0 : I x 3 = nI q0) (hqq : q0 ≤ 6) {wv cv g : Int32} : jN l D cA N0 2 yX6_yarn cX6_yarn 4 (some .int) [.ref x, .int wv, .int cv, .int g] Sh I P L (mDo I P L x (syarn (I (x + 1)) wv cv g)) := jN_of (by decide) (Nat.le_of_ble_eq_true rfl) (fun _ _ _ _ _ _ _ _ C hr => b_X6_yarn C hr hS hP hq0 hqq)
set_option maxHeartbeats 4000000 in
theorem b_X6_store {p : Program} {l : Launch} {e : Env} {s : State} {m : MethodId} {args : Array Value} {below : List Frame} {meth : Method} {c : Code} {D : va_G} {cA : Nat → ClassId} {N0 : Nat} {Sh : jS} {I : jI} {P : jP} {L : jL} (C : jC p (jRm 2 0 0) s m args meth c D cA N0 cX6_store 3 RX6 2) (hr : meth.sig.returnType = (some .int)) {x : Nat} (hS : mS Sh x) (hP : mP P x) {q0 : Nat} (hq0 : I x 3 = nI q0) (hqq : q0 ≤ 6) {cv g : Int32} : jJ p l e (jRm 2 0 0) s m args below meth c D cA N0 3 (MQ below (jQn D cA N0 Sh (mDo I P L x (sstore (I (x + 1)) cv g))) args s 0 0 (fun q => N0 ≤ q)) (fun _ => True) Sh I P L 0 0 0 [some (.ref x), some (.int cv), some (.int g)] [] := by
  refine jx_aload_n (pc := 0) C dX6_store_0 rfl ?_
  refine jx_iconst (pc := 1) C dX6_store_1 nc_0 ?_
  refine jx_putI (pc := 2) C kf_X6_28 rfl rfl rfl rfl hS.1 dX6_store_2 ?_
  refine jx_iload_n (pc := 5) C dX6_store_5 rfl ?_
  refine jx_callD (pc := 6) C (go_X6_110 C  (Nat.le_of_ble_eq_true rfl) dX6_store_6) t_X6_isColour (by decide) (by decide) ⟨Nat.zero_le _, Nat.zero_le _⟩ ?_
  refine jx_if_ne (pc := 9) C (tgt := 18) dX6_store_9 (by decide) (fun c9 => ?_) (fun c9 => ?_)
  · rw [bI_0, decide_eq_false_iff_not, Decidable.not_not] at c9
    obtain ⟨c0, hc, rfl⟩ := in_N (by decide) c9
    refine jx_iload_n (pc := 18) C dX6_store_18 rfl ?_
    refine jx_iconst (pc := 19) C dX6_store_19 nc_1 ?_
    refine jx_sipush (pc := 20) C dX6_store_20 ns_9999 ?_
    refine jx_callD (pc := 23) C (go_X6_32 C  (Nat.le_of_ble_eq_true rfl) dX6_store_23) t_X6_in (by decide) (by decide) ⟨Nat.zero_le _, Nat.zero_le _⟩ ?_
    refine jx_if_ne (pc := 26) C (tgt := 35) dX6_store_26 (by decide) (fun c26 => ?_) (fun c26 => ?_)
    · rw [bI_0, decide_eq_false_iff_not, Decidable.not_not] at c26
      refine jx_aload_n (pc := 35) C dX6_store_35 rfl ?_
      refine jx_getP (pc := 36) C kf_X6_7 rfl hS.1 hP.1 dX6_store_36 ?_
      refine jx_bipush (pc := 39) C dX6_store_39 nb_14 ?_
      refine jx_iload_n (pc := 41) C dX6_store_41 rfl ?_
      refine jx_iaddN (pc := 42) C dX6_store_42 ?_
      refine jx_ialdv (pc := 43) C hS.2.1 (by omega) (by decide) (congrFun (jst_ne (by omega)) _) dX6_store_43 ?_
      refine jx_iload_n (pc := 44) C dX6_store_44 rfl ?_
      refine jx_iadd (pc := 45) C dX6_store_45 ?_
      refine jx_ldc (pc := 46) C kk_X6_113 dX6_store_46 ?_
      refine jx_icmp_le (pc := 48) C (tgt := 57) dX6_store_48 (by decide) (fun c48 => ?_) (fun c48 => ?_)
      · refine jx_aload_n (pc := 57) C dX6_store_57 rfl ?_
        refine jx_callv (pc := 58) C (go_X6_107 C hS.1 (Nat.le_of_ble_eq_true rfl) dX6_store_58) (t_X6_saves hS hP ((congrFun jst_eq 3).trans ((upd_n (by decide)).trans hq0)) hqq) (by decide) (by decide) ⟨Nat.zero_le _, Nat.zero_le _⟩ (fun I58 P58 L58 q58 => ?_)
        obtain ⟨hsv, rfl, rfl⟩ := q58
        have hn : I58 (x + 1) = I (x + 1) := hsv.1.trans (jst_ne (by omega))
        refine jx_mem (I' := va_up I58 (x + 1) (I (x + 1))) (P' := _) (by rw [← hn]; exact va_up_id.symm) rfl ?_
        refine jx_aload_n (pc := 61) C dX6_store_61 rfl ?_
        refine jx_getP (pc := 62) C kf_X6_7 rfl hS.1 hP.1 dX6_store_62 ?_
        refine jx_bipush (pc := 65) C dX6_store_65 nb_14 ?_
        refine jx_iload_n (pc := 67) C dX6_store_67 rfl ?_
        refine jx_iaddN (pc := 68) C dX6_store_68 ?_
        refine jx_dup2_11 (pc := 69) C dX6_store_69 rfl rfl ?_
        refine jx_ialdv (pc := 70) C hS.2.1 (by omega) (by decide) (congrFun va_up_s _) dX6_store_70 ?_
        refine jx_iload_n (pc := 71) C dX6_store_71 rfl ?_
        refine jx_iadd (pc := 72) C dX6_store_72 ?_
        refine jx_iast (pc := 73) C hS.2.1 (by omega) (by decide) dX6_store_73 ?_
        rw [jst_up]
        refine jx_aload_n (pc := 74) C dX6_store_74 rfl ?_
        refine jx_getP (pc := 75) C kf_X6_7 rfl hS.1 hP.1 dX6_store_75 ?_
        refine jx_bipush (pc := 78) C dX6_store_78 nb_14 ?_
        refine jx_iload_n (pc := 80) C dX6_store_80 rfl ?_
        refine jx_iaddN (pc := 81) C dX6_store_81 ?_
        refine jx_ialdv (pc := 82) C hS.2.1 (by omega) (by decide) ((congrFun va_up_s _).trans upd_s) dX6_store_82 ?_
        exact jn_iret (pc := 83) C hr (mDo_okE hsv (by unfold sstore; rw [if_pos (nI_inn (by decide) hc), if_pos c26, sW_N (by omega), if_pos c48])) dX6_store_83
      · refine jx_aload_n (pc := 51) C dX6_store_51 rfl ?_
        refine jx_iconst (pc := 52) C dX6_store_52 nc_3 ?_
        refine jx_callD (pc := 53) C (go_X6_39 C hS.1 (Nat.le_of_ble_eq_true rfl) dX6_store_53) (t_X6_fails hS.1) (by decide) (by decide) ⟨Nat.zero_le _, Nat.zero_le _⟩ ?_
        exact jn_iret (pc := 56) C hr (mDo_fail (k := 3) (by unfold sstore; rw [if_pos (nI_inn (by decide) hc), if_pos c26, sW_N (by omega), if_neg c48]) (by decide)) dX6_store_56
    · rw [bI_0, decide_eq_false_iff_not] at c26
      refine jx_aload_n (pc := 29) C dX6_store_29 rfl ?_
      refine jx_iconst (pc := 30) C dX6_store_30 nc_2 ?_
      refine jx_callD (pc := 31) C (go_X6_39 C hS.1 (Nat.le_of_ble_eq_true rfl) dX6_store_31) (t_X6_fails hS.1) (by decide) (by decide) ⟨Nat.zero_le _, Nat.zero_le _⟩ ?_
      exact jn_iret (pc := 34) C hr (mDo_fail (k := 2) (by unfold sstore; rw [if_pos (nI_inn (by decide) hc), if_neg c26]) (by decide)) dX6_store_34
  · rw [bI_0, decide_eq_false_iff_not] at c9
    refine jx_aload_n (pc := 12) C dX6_store_12 rfl ?_
    refine jx_iconst (pc := 13) C dX6_store_13 nc_1 ?_
    refine jx_callD (pc := 14) C (go_X6_39 C hS.1 (Nat.le_of_ble_eq_true rfl) dX6_store_14) (t_X6_fails hS.1) (by decide) (by decide) ⟨Nat.zero_le _, Nat.zero_le _⟩ ?_
    exact jn_iret (pc := 17) C hr (mDo_fail (k := 1) (by unfold sstore; rw [if_neg c9]) (by decide)) dX6_store_17
theorem t_X6_store {l : Launch} {D : va_G} {cA : Nat → ClassId} {N0 : Nat} {Sh : jS} {I : jI} {P : jP} {L : jL} {x : Nat} (hS : mS Sh x) (hP : mP P x) {q0 : Nat} (hq0 : I x 3 = nI q0) (hqq : q0 ≤ 6) {cv g : Int32} : jN l D cA N0 2 yX6_store cX6_store 3 (some .int) [.ref x, .int cv, .int g] Sh I P L (mDo I P L x (sstore (I (x + 1)) cv g)) := jN_of (by decide) (Nat.le_of_ble_eq_true rfl) (fun _ _ _ _ _ _ _ _ C hr => b_X6_store C hr hS hP hq0 hqq)
set_option maxHeartbeats 4000000 in
theorem b_X6_give {p : Program} {l : Launch} {e : Env} {s : State} {m : MethodId} {args : Array Value} {below : List Frame} {meth : Method} {c : Code} {D : va_G} {cA : Nat → ClassId} {N0 : Nat} {Sh : jS} {I : jI} {P : jP} {L : jL} (C : jC p (jRm 2 0 0) s m args meth c D cA N0 cX6_give 5 RX6 2) (hr : meth.sig.returnType = (some .int)) {x : Nat} (hS : mS Sh x) (hP : mP P x) {q0 : Nat} (hq0 : I x 3 = nI q0) (hqq : q0 ≤ 6) {wv ov cv g : Int32} : jJ p l e (jRm 2 0 0) s m args below meth c D cA N0 5 (MQ below (jQn D cA N0 Sh (mDo I P L x (sgive (I (x + 1)) wv ov cv g))) args s 0 0 (fun q => N0 ≤ q)) (fun _ => True) Sh I P L 0 0 0 [some (.ref x), some (.int wv), some (.int ov), some (.int cv), some (.int g)] [] := by
  refine jx_aload_n (pc := 0) C dX6_give_0 rfl ?_
  refine jx_iconst (pc := 1) C dX6_give_1 nc_0 ?_
  refine jx_putI (pc := 2) C kf_X6_28 rfl rfl rfl rfl hS.1 dX6_give_2 ?_
  refine jx_iload_n (pc := 5) C dX6_give_5 rfl ?_
  refine jx_callD (pc := 6) C (go_X6_103 C  (Nat.le_of_ble_eq_true rfl) dX6_give_6) t_X6_isWeaver (by decide) (by decide) ⟨Nat.zero_le _, Nat.zero_le _⟩ ?_
  refine jx_if_eq (pc := 9) C (tgt := 26) dX6_give_9 (by decide) (fun c9 => ?_) (fun c9 => ?_)
  · rw [bI_0, decide_eq_false_iff_not] at c9
    refine jx_aload_n (pc := 26) C dX6_give_26 rfl ?_
    refine jx_iconst (pc := 27) C dX6_give_27 nc_1 ?_
    refine jx_callD (pc := 28) C (go_X6_39 C hS.1 (Nat.le_of_ble_eq_true rfl) dX6_give_28) (t_X6_fails hS.1) (by decide) (by decide) ⟨Nat.zero_le _, Nat.zero_le _⟩ ?_
    exact jn_iret (pc := 31) C hr (mDo_fail (k := 1) (by unfold sgive; rw [if_neg (by rintro ⟨h1, h2, h3⟩; contradiction)]) (by decide)) dX6_give_31
  · rw [bI_0, decide_eq_false_iff_not, Decidable.not_not] at c9
    refine jx_iload_n (pc := 12) C dX6_give_12 rfl ?_
    refine jx_callD (pc := 13) C (go_X6_103 C  (Nat.le_of_ble_eq_true rfl) dX6_give_13) t_X6_isWeaver (by decide) (by decide) ⟨Nat.zero_le _, Nat.zero_le _⟩ ?_
    refine jx_if_eq (pc := 16) C (tgt := 26) dX6_give_16 (by decide) (fun c16 => ?_) (fun c16 => ?_)
    · rw [bI_0, decide_eq_false_iff_not] at c16
      refine jx_aload_n (pc := 26) C dX6_give_26 rfl ?_
      refine jx_iconst (pc := 27) C dX6_give_27 nc_1 ?_
      refine jx_callD (pc := 28) C (go_X6_39 C hS.1 (Nat.le_of_ble_eq_true rfl) dX6_give_28) (t_X6_fails hS.1) (by decide) (by decide) ⟨Nat.zero_le _, Nat.zero_le _⟩ ?_
      exact jn_iret (pc := 31) C hr (mDo_fail (k := 1) (by unfold sgive; rw [if_neg (by rintro ⟨h1, h2, h3⟩; contradiction)]) (by decide)) dX6_give_31
    · rw [bI_0, decide_eq_false_iff_not, Decidable.not_not] at c16
      refine jx_iload_n (pc := 19) C dX6_give_19 rfl ?_
      refine jx_callD (pc := 20) C (go_X6_110 C  (Nat.le_of_ble_eq_true rfl) dX6_give_20) t_X6_isColour (by decide) (by decide) ⟨Nat.zero_le _, Nat.zero_le _⟩ ?_
      refine jx_if_ne (pc := 23) C (tgt := 32) dX6_give_23 (by decide) (fun c23 => ?_) (fun c23 => ?_)
      · rw [bI_0, decide_eq_false_iff_not, Decidable.not_not] at c23
        obtain ⟨w, hw, rfl⟩ := in_N (by decide) c9
        obtain ⟨o, ho, rfl⟩ := in_N (by decide) c16
        obtain ⟨c0, hc, rfl⟩ := in_N (by decide) c23
        refine jx_iload_n (pc := 32) C dX6_give_32 rfl ?_
        refine jx_iload_n (pc := 33) C dX6_give_33 rfl ?_
        refine jx_icmp_eq (pc := 34) C (tgt := 49) dX6_give_34 (by decide) (fun c34 => ?_) (fun c34 => ?_)
        · refine jx_aload_n (pc := 49) C dX6_give_49 rfl ?_
          refine jx_iconst (pc := 50) C dX6_give_50 nc_2 ?_
          refine jx_callD (pc := 51) C (go_X6_39 C hS.1 (Nat.le_of_ble_eq_true rfl) dX6_give_51) (t_X6_fails hS.1) (by decide) (by decide) ⟨Nat.zero_le _, Nat.zero_le _⟩ ?_
          exact jn_iret (pc := 54) C hr (mDo_fail (k := 2) (by unfold sgive; rw [if_pos ⟨nI_inn (by decide) hw, nI_inn (by decide) ho, nI_inn (by decide) hc⟩, if_neg (by rintro ⟨h1, h2⟩; contradiction)]) (by decide)) dX6_give_54
        · refine jx_iload (pc := 37) C dX6_give_37 rfl ?_
          refine jx_iconst (pc := 39) C dX6_give_39 nc_1 ?_
          refine jx_sipush (pc := 40) C dX6_give_40 ns_9999 ?_
          refine jx_callD (pc := 43) C (go_X6_32 C  (Nat.le_of_ble_eq_true rfl) dX6_give_43) t_X6_in (by decide) (by decide) ⟨Nat.zero_le _, Nat.zero_le _⟩ ?_
          refine jx_if_ne (pc := 46) C (tgt := 55) dX6_give_46 (by decide) (fun c46 => ?_) (fun c46 => ?_)
          · rw [bI_0, decide_eq_false_iff_not, Decidable.not_not] at c46
            refine jx_aload_n (pc := 55) C dX6_give_55 rfl ?_
            refine jx_getP (pc := 56) C kf_X6_7 rfl hS.1 hP.1 dX6_give_56 ?_
            refine jx_iload_n (pc := 59) C dX6_give_59 rfl ?_
            refine jx_bipush (pc := 60) C dX6_give_60 nb_8 ?_
            refine jx_iload_n (pc := 62) C dX6_give_62 rfl ?_
            refine jx_iaddN (pc := 63) C dX6_give_63 ?_
            refine jx_callD (pc := 64) C (go_X6_47 C  (Nat.le_of_ble_eq_true rfl) dX6_give_64) (t_X6_ofv hS.2.1 (by omega) (congrFun (jst_ne (by omega)) _)) (by decide) (by decide) ⟨Nat.zero_le _, Nat.zero_le _⟩ ?_
            refine jx_iload (pc := 67) C dX6_give_67 rfl ?_
            refine jx_icmp_lt (pc := 69) C (tgt := 93) dX6_give_69 (by decide) (fun c69 => ?_) (fun c69 => ?_)
            · refine jx_aload_n (pc := 93) C dX6_give_93 rfl ?_
              refine jx_iconst (pc := 94) C dX6_give_94 nc_3 ?_
              refine jx_callD (pc := 95) C (go_X6_39 C hS.1 (Nat.le_of_ble_eq_true rfl) dX6_give_95) (t_X6_fails hS.1) (by decide) (by decide) ⟨Nat.zero_le _, Nat.zero_le _⟩ ?_
              exact jn_iret (pc := 98) C hr (mDo_fail (k := 3) (by unfold sgive; rw [if_pos ⟨nI_inn (by decide) hw, nI_inn (by decide) ho, nI_inn (by decide) hc⟩, if_pos ⟨c34, c46⟩, sW_N (show w < 2 ^ 31 by omega), sW_N (show o < 2 ^ 31 by omega), sW_N (show c0 < 2 ^ 31 by omega), if_neg (by first | exact fun h => i32_nlt.mpr h.1 c69 | exact fun h => c90 h.2)]) (by decide)) dX6_give_98
            · refine jx_aload_n (pc := 72) C dX6_give_72 rfl ?_
              refine jx_getP (pc := 73) C kf_X6_7 rfl hS.1 hP.1 dX6_give_73 ?_
              refine jx_iload_n (pc := 76) C dX6_give_76 rfl ?_
              refine jx_bipush (pc := 77) C dX6_give_77 nb_8 ?_
              refine jx_iload_n (pc := 79) C dX6_give_79 rfl ?_
              refine jx_iaddN (pc := 80) C dX6_give_80 ?_
              refine jx_callD (pc := 81) C (go_X6_47 C  (Nat.le_of_ble_eq_true rfl) dX6_give_81) (t_X6_ofv hS.2.1 (by omega) (congrFun (jst_ne (by omega)) _)) (by decide) (by decide) ⟨Nat.zero_le _, Nat.zero_le _⟩ ?_
              refine jx_iload (pc := 84) C dX6_give_84 rfl ?_
              refine jx_iadd (pc := 86) C dX6_give_86 ?_
              refine jx_sipush (pc := 87) C dX6_give_87 ns_9999 ?_
              refine jx_icmp_le (pc := 90) C (tgt := 99) dX6_give_90 (by decide) (fun c90 => ?_) (fun c90 => ?_)
              · refine jx_aload_n (pc := 99) C dX6_give_99 rfl ?_
                refine jx_callv (pc := 100) C (go_X6_107 C hS.1 (Nat.le_of_ble_eq_true rfl) dX6_give_100) (t_X6_saves hS hP ((congrFun jst_eq 3).trans ((upd_n (by decide)).trans hq0)) hqq) (by decide) (by decide) ⟨Nat.zero_le _, Nat.zero_le _⟩ (fun I100 P100 L100 q100 => ?_)
                obtain ⟨hsv, rfl, rfl⟩ := q100
                have hn : I100 (x + 1) = I (x + 1) := hsv.1.trans (jst_ne (by omega))
                refine jx_mem (I' := va_up I100 (x + 1) (I (x + 1))) (P' := _) (by rw [← hn]; exact va_up_id.symm) rfl ?_
                refine jx_aload_n (pc := 103) C dX6_give_103 rfl ?_
                refine jx_getP (pc := 104) C kf_X6_7 rfl hS.1 hP.1 dX6_give_104 ?_
                refine jx_iload_n (pc := 107) C dX6_give_107 rfl ?_
                refine jx_bipush (pc := 108) C dX6_give_108 nb_8 ?_
                refine jx_iload_n (pc := 110) C dX6_give_110 rfl ?_
                refine jx_iaddN (pc := 111) C dX6_give_111 ?_
                refine jx_iload (pc := 112) C dX6_give_112 rfl ?_
                refine jx_ineg (pc := 114) C dX6_give_114 ?_
                refine jx_callDv (pc := 115) C (go_X6_66 C  (Nat.le_of_ble_eq_true rfl) dX6_give_115) (t_X6_adds hS.2.1 (by omega)) (by decide) (by decide) ⟨Nat.zero_le _, Nat.zero_le _⟩ ?_
                rw [jst_up, va_up_s]
                refine jx_aload_n (pc := 118) C dX6_give_118 rfl ?_
                refine jx_getP (pc := 119) C kf_X6_7 rfl hS.1 hP.1 dX6_give_119 ?_
                refine jx_iload_n (pc := 122) C dX6_give_122 rfl ?_
                refine jx_bipush (pc := 123) C dX6_give_123 nb_8 ?_
                refine jx_iload_n (pc := 125) C dX6_give_125 rfl ?_
                refine jx_iaddN (pc := 126) C dX6_give_126 ?_
                refine jx_iload (pc := 127) C dX6_give_127 rfl ?_
                refine jx_callDv (pc := 129) C (go_X6_66 C  (Nat.le_of_ble_eq_true rfl) dX6_give_129) (t_X6_adds hS.2.1 (by omega)) (by decide) (by decide) ⟨Nat.zero_le _, Nat.zero_le _⟩ ?_
                rw [jst_up, va_up_s, upd_n (show 18 + 12 * o + (8 + c0) ≠ 18 + 12 * w + (8 + c0) from fun h => c34 (congrArg nI (by omega)))]
                refine jx_aload_n (pc := 132) C dX6_give_132 rfl ?_
                refine jx_getP (pc := 133) C kf_X6_7 rfl hS.1 hP.1 dX6_give_133 ?_
                refine jx_iload_n (pc := 136) C dX6_give_136 rfl ?_
                refine jx_bipush (pc := 137) C dX6_give_137 nb_8 ?_
                refine jx_iload_n (pc := 139) C dX6_give_139 rfl ?_
                refine jx_iaddN (pc := 140) C dX6_give_140 ?_
                refine jx_callD (pc := 141) C (go_X6_47 C  (Nat.le_of_ble_eq_true rfl) dX6_give_141) (t_X6_ofv hS.2.1 (by omega) ((congrFun va_up_s _).trans upd_s)) (by decide) (by decide) ⟨Nat.zero_le _, Nat.zero_le _⟩ ?_
                exact jn_iret (pc := 144) C hr (mDo_okE hsv (by unfold sgive; rw [if_pos ⟨nI_inn (by decide) hw, nI_inn (by decide) ho, nI_inn (by decide) hc⟩, if_pos ⟨c34, c46⟩, sW_N (show w < 2 ^ 31 by omega), sW_N (show o < 2 ^ 31 by omega), sW_N (show c0 < 2 ^ 31 by omega), if_pos ⟨i32_nlt.mp c69, c90⟩])) dX6_give_144
              · refine jx_aload_n (pc := 93) C dX6_give_93 rfl ?_
                refine jx_iconst (pc := 94) C dX6_give_94 nc_3 ?_
                refine jx_callD (pc := 95) C (go_X6_39 C hS.1 (Nat.le_of_ble_eq_true rfl) dX6_give_95) (t_X6_fails hS.1) (by decide) (by decide) ⟨Nat.zero_le _, Nat.zero_le _⟩ ?_
                exact jn_iret (pc := 98) C hr (mDo_fail (k := 3) (by unfold sgive; rw [if_pos ⟨nI_inn (by decide) hw, nI_inn (by decide) ho, nI_inn (by decide) hc⟩, if_pos ⟨c34, c46⟩, sW_N (show w < 2 ^ 31 by omega), sW_N (show o < 2 ^ 31 by omega), sW_N (show c0 < 2 ^ 31 by omega), if_neg (by first | exact fun h => i32_nlt.mpr h.1 c69 | exact fun h => c90 h.2)]) (by decide)) dX6_give_98
          · rw [bI_0, decide_eq_false_iff_not] at c46
            refine jx_aload_n (pc := 49) C dX6_give_49 rfl ?_
            refine jx_iconst (pc := 50) C dX6_give_50 nc_2 ?_
            refine jx_callD (pc := 51) C (go_X6_39 C hS.1 (Nat.le_of_ble_eq_true rfl) dX6_give_51) (t_X6_fails hS.1) (by decide) (by decide) ⟨Nat.zero_le _, Nat.zero_le _⟩ ?_
            exact jn_iret (pc := 54) C hr (mDo_fail (k := 2) (by unfold sgive; rw [if_pos ⟨nI_inn (by decide) hw, nI_inn (by decide) ho, nI_inn (by decide) hc⟩, if_neg (by rintro ⟨h1, h2⟩; contradiction)]) (by decide)) dX6_give_54
      · rw [bI_0, decide_eq_false_iff_not] at c23
        refine jx_aload_n (pc := 26) C dX6_give_26 rfl ?_
        refine jx_iconst (pc := 27) C dX6_give_27 nc_1 ?_
        refine jx_callD (pc := 28) C (go_X6_39 C hS.1 (Nat.le_of_ble_eq_true rfl) dX6_give_28) (t_X6_fails hS.1) (by decide) (by decide) ⟨Nat.zero_le _, Nat.zero_le _⟩ ?_
        exact jn_iret (pc := 31) C hr (mDo_fail (k := 1) (by unfold sgive; rw [if_neg (by rintro ⟨h1, h2, h3⟩; contradiction)]) (by decide)) dX6_give_31
theorem t_X6_give {l : Launch} {D : va_G} {cA : Nat → ClassId} {N0 : Nat} {Sh : jS} {I : jI} {P : jP} {L : jL} {x : Nat} (hS : mS Sh x) (hP : mP P x) {q0 : Nat} (hq0 : I x 3 = nI q0) (hqq : q0 ≤ 6) {wv ov cv g : Int32} : jN l D cA N0 2 yX6_give cX6_give 5 (some .int) [.ref x, .int wv, .int ov, .int cv, .int g] Sh I P L (mDo I P L x (sgive (I (x + 1)) wv ov cv g)) := jN_of (by decide) (Nat.le_of_ble_eq_true rfl) (fun _ _ _ _ _ _ _ _ C hr => b_X6_give C hr hS hP hq0 hqq)
set_option maxHeartbeats 4000000 in
theorem b_X6_cancel {p : Program} {l : Launch} {e : Env} {s : State} {m : MethodId} {args : Array Value} {below : List Frame} {meth : Method} {c : Code} {D : va_G} {cA : Nat → ClassId} {N0 : Nat} {Sh : jS} {I : jI} {P : jP} {L : jL} (C : jC p (jRm 2 0 0) s m args meth c D cA N0 cX6_cancel 4 RX6 2) (hr : meth.sig.returnType = (some .int)) {x : Nat} (hS : mS Sh x) (hP : mP P x) {q0 : Nat} (hq0 : I x 3 = nI q0) (hqq : q0 ≤ 6) {num : Int32} (hok : sOK (I (x + 1))) : jJ p l e (jRm 2 0 0) s m args below meth c D cA N0 4 (MQ below (jQn D cA N0 Sh (mDo I P L x (scancel (I (x + 1)) num))) args s 0 0 (fun q => N0 ≤ q)) (fun _ => True) Sh I P L 0 0 0 [some (.ref x), some (.int num), none, none] [] := by
  have e0 : jst I x 6 (nI 0) (x + 1) = I (x + 1) := jst_ne (by omega)
  refine jx_aload_n (pc := 0) C dX6_cancel_0 rfl ?_
  refine jx_iconst (pc := 1) C dX6_cancel_1 nc_0 ?_
  refine jx_putI (pc := 2) C kf_X6_28 rfl rfl rfl rfl hS.1 dX6_cancel_2 ?_
  refine jx_aload_n (pc := 5) C dX6_cancel_5 rfl ?_
  refine jx_getP (pc := 6) C kf_X6_7 rfl hS.1 hP.1 dX6_cancel_6 ?_
  refine jx_iload_n (pc := 9) C dX6_cancel_9 rfl ?_
  refine jx_callD (pc := 10) C (go_X6_118 C  (Nat.le_of_ble_eq_true rfl) dX6_cancel_10) (t_X6_placeOf hS.2.1 (by rw [e0]; exact hok.1) (by rw [e0]; exact hok.2.1)) (by decide) (by decide) ⟨Nat.zero_le _, Nat.zero_le _⟩ ?_
  rw [e0]
  cases hq : splace (I (x + 1)) num with
  | none =>
    refine jx_top C (show Value.int (oI none) = .int (-1 : Int32) from rfl) ?_
    refine jx_istore_n (pc := 13) C dX6_cancel_13 (jset_2 jc_i) (by decide) ?_
    refine jx_iload_n (pc := 14) C dX6_cancel_14 rfl ?_
    refine jx_iconst (pc := 15) C dX6_cancel_15 nc_m1 ?_
    refine jx_icmp_ne (pc := 16) C (tgt := 25) dX6_cancel_16 (by decide) (fun c16 => (by exfalso; revert c16; decide)) (fun c16 => ?_)
    refine jx_aload_n (pc := 19) C dX6_cancel_19 rfl ?_
    refine jx_iconst (pc := 20) C dX6_cancel_20 nc_1 ?_
    refine jx_callD (pc := 21) C (go_X6_39 C hS.1 (Nat.le_of_ble_eq_true rfl) dX6_cancel_21) (t_X6_fails hS.1) (by decide) (by decide) ⟨Nat.zero_le _, Nat.zero_le _⟩ ?_
    exact jn_iret (pc := 24) C hr (mDo_fail (k := 1) (by unfold scancel; rw [hq]) (by decide)) dX6_cancel_24
  | some o =>
    obtain ⟨hq1, hq2⟩ := sfst_lt hq
    have hk := hok.2.1
    refine jx_top C (show Value.int (oI (some o)) = .int (nI o) from rfl) ?_
    refine jx_istore_n (pc := 13) C dX6_cancel_13 (jset_2 jc_i) (by decide) ?_
    refine jx_iload_n (pc := 14) C dX6_cancel_14 rfl ?_
    refine jx_iconst (pc := 15) C dX6_cancel_15 nc_m1 ?_
    refine jx_icmp_ne (pc := 16) C (tgt := 25) dX6_cancel_16 (by decide) (fun c16 => ?_) (fun c16 => (by exfalso; rw [nI_m1 (by omega)] at c16; exact c16))
    refine jx_aload_n (pc := 25) C dX6_cancel_25 rfl ?_
    refine jx_callv (pc := 26) C (go_X6_107 C hS.1 (Nat.le_of_ble_eq_true rfl) dX6_cancel_26) (t_X6_saves hS hP ((congrFun jst_eq 3).trans ((upd_n (by decide)).trans hq0)) hqq) (by decide) (by decide) ⟨Nat.zero_le _, Nat.zero_le _⟩ (fun I26 P26 L26 q26 => ?_)
    obtain ⟨hsv, rfl, rfl⟩ := q26
    have hn : I26 (x + 1) = I (x + 1) := hsv.1.trans (jst_ne (by omega))
    refine jx_mem (I' := va_up I26 (x + 1) (I (x + 1))) (P' := _) (by rw [← hn]; exact va_up_id.symm) rfl ?_
    refine jx_aload_n (pc := 29) C dX6_cancel_29 rfl ?_
    refine jx_getP (pc := 30) C kf_X6_7 rfl hS.1 hP.1 dX6_cancel_30 ?_
    refine jx_iload_n (pc := 33) C dX6_cancel_33 rfl ?_
    refine jx_callD (pc := 34) C (go_X6_90 C  (Nat.le_of_ble_eq_true rfl) dX6_cancel_34) (t_X6_good hS.2.1 (by omega)) (by decide) (by decide) ⟨Nat.zero_le _, Nat.zero_le _⟩ ?_
    rw [va_up_s]
    refine jx_istore_n (pc := 37) C dX6_cancel_37 (jset_3 jc_i) (by decide) ?_
    refine jx_aload_n (pc := 38) C dX6_cancel_38 rfl ?_
    refine jx_getP (pc := 39) C kf_X6_7 rfl hS.1 hP.1 dX6_cancel_39 ?_
    refine jx_iload_n (pc := 42) C dX6_cancel_42 rfl ?_
    refine jx_callDv (pc := 43) C (go_X6_69 C  (Nat.le_of_ble_eq_true rfl) dX6_cancel_43) (t_X6_goes hS.2.1 (by omega) (by rw [va_up_s]; exact hok.1) (by rw [va_up_s]; exact hk) (by rw [va_up_s]; exact hq1)) (by decide) (by decide) ⟨Nat.zero_le _, Nat.zero_le _⟩ ?_
    rw [va_up_s, va_up_u]
    refine jx_iload_n (pc := 46) C dX6_cancel_46 rfl ?_
    exact jn_iret (pc := 47) C hr (mDo_okE hsv (by unfold scancel; rw [hq])) dX6_cancel_47
theorem t_X6_cancel {l : Launch} {D : va_G} {cA : Nat → ClassId} {N0 : Nat} {Sh : jS} {I : jI} {P : jP} {L : jL} {x : Nat} (hS : mS Sh x) (hP : mP P x) {q0 : Nat} (hq0 : I x 3 = nI q0) (hqq : q0 ≤ 6) {num : Int32} (hok : sOK (I (x + 1))) : jN l D cA N0 2 yX6_cancel cX6_cancel 4 (some .int) [.ref x, .int num] Sh I P L (mDo I P L x (scancel (I (x + 1)) num)) := jN_of (by decide) (Nat.le_of_ble_eq_true rfl) (fun _ _ _ _ _ _ _ _ C hr => b_X6_cancel C hr hS hP hq0 hqq hok)
set_option maxHeartbeats 4000000 in
theorem b_X6_set {p : Program} {l : Launch} {e : Env} {s : State} {m : MethodId} {args : Array Value} {below : List Frame} {meth : Method} {c : Code} {D : va_G} {cA : Nat → ClassId} {N0 : Nat} {Sh : jS} {I : jI} {P : jP} {L : jL} (C : jC p (jRm 1 0 0) s m args meth c D cA N0 cX6_set 4 RX6 1) (hr : meth.sig.returnType = (some .int)) {x : Nat} (hS : mS Sh x) (hP : mP P x) {q0 : Nat} (hq0 : I x 3 = nI q0) (hqq : q0 ≤ 6) {sv v : Int32} : jJ p l e (jRm 1 0 0) s m args below meth c D cA N0 4 (MQ below (jQn D cA N0 Sh (mDo I P L x (sset (I (x + 1)) sv v))) args s 0 0 (fun q => N0 ≤ q)) (fun _ => True) Sh I P L 0 0 0 [some (.ref x), some (.int sv), some (.int v), none] [] := by
  have key : nI 0 ≤ sv ∧ sv ≤ nI 3 → ∀ y, y = smax sv → jJ p l e (jRm 1 0 0) s m args below meth c D cA N0 4 (MQ below (jQn D cA N0 Sh (mDo I P L x (sset (I (x + 1)) sv v))) args s 0 0 (fun q => N0 ≤ q)) (fun _ => True) Sh (jst I x 6 (nI 0)) P L 0 0 51 [some (.ref x), some (.int sv), some (.int v), none] [.int y, .int (nI 0), .int v] := by
    intro hin y hy
    subst hy
    obtain ⟨w, hw, rfl⟩ := in_N (by decide) hin
    refine jx_callD (pc := 51) C (go_X6_32 C  (Nat.le_of_ble_eq_true rfl) dX6_set_51) t_X6_in (by decide) (by decide) ⟨Nat.zero_le _, Nat.zero_le _⟩ ?_
    refine jx_if_ne (pc := 54) C (tgt := 63) dX6_set_54 (by decide) (fun c54 => ?_) (fun c54 => ?_)
    · rw [bI_0, decide_eq_false_iff_not, Decidable.not_not] at c54
      refine jx_aload_n (pc := 63) C dX6_set_63 rfl ?_
      refine jx_callv (pc := 64) C (go_X6_107 C hS.1 (Nat.le_of_ble_eq_true rfl) dX6_set_64) (t_X6_saves hS hP ((congrFun jst_eq 3).trans ((upd_n (by decide)).trans hq0)) hqq) (by decide) (by decide) ⟨Nat.zero_le _, Nat.zero_le _⟩ (fun I64 P64 L64 q64 => ?_)
      obtain ⟨hsv, rfl, rfl⟩ := q64
      have hn : I64 (x + 1) = I (x + 1) := hsv.1.trans (jst_ne (by omega))
      refine jx_mem (I' := va_up I64 (x + 1) (I (x + 1))) (P' := _) (by rw [← hn]; exact va_up_id.symm) rfl ?_
      refine jx_aload_n (pc := 67) C dX6_set_67 rfl ?_
      refine jx_getP (pc := 68) C kf_X6_7 rfl hS.1 hP.1 dX6_set_68 ?_
      refine jx_iload_n (pc := 71) C dX6_set_71 rfl ?_
      refine jx_ialdv (pc := 72) C hS.2.1 (by omega) (by decide) (congrFun va_up_s _) dX6_set_72 ?_
      refine jx_istore_n (pc := 73) C dX6_set_73 (jset_3 jc_i) (by decide) ?_
      refine jx_aload_n (pc := 74) C dX6_set_74 rfl ?_
      refine jx_getP (pc := 75) C kf_X6_7 rfl hS.1 hP.1 dX6_set_75 ?_
      refine jx_iload_n (pc := 78) C dX6_set_78 rfl ?_
      refine jx_iload_n (pc := 79) C dX6_set_79 rfl ?_
      refine jx_iast (pc := 80) C hS.2.1 (by omega) (by decide) dX6_set_80 ?_
      rw [jst_up]
      refine jx_iload_n (pc := 81) C dX6_set_81 rfl ?_
      exact jn_iret (pc := 82) C hr (mDo_okE hsv (by unfold sset; rw [if_pos hin, if_pos c54, sW_N (by omega)])) dX6_set_82
    · rw [bI_0, decide_eq_false_iff_not] at c54
      refine jx_aload_n (pc := 57) C dX6_set_57 rfl ?_
      refine jx_iconst (pc := 58) C dX6_set_58 nc_2 ?_
      refine jx_callD (pc := 59) C (go_X6_39 C hS.1 (Nat.le_of_ble_eq_true rfl) dX6_set_59) (t_X6_fails hS.1) (by decide) (by decide) ⟨Nat.zero_le _, Nat.zero_le _⟩ ?_
      exact jn_iret (pc := 62) C hr (mDo_fail (k := 2) (by unfold sset; rw [if_pos hin, if_neg c54]) (by decide)) dX6_set_62
  refine jx_aload_n (pc := 0) C dX6_set_0 rfl ?_
  refine jx_iconst (pc := 1) C dX6_set_1 nc_0 ?_
  refine jx_putI (pc := 2) C kf_X6_28 rfl rfl rfl rfl hS.1 dX6_set_2 ?_
  refine jx_iload_n (pc := 5) C dX6_set_5 rfl ?_
  refine jx_iconst (pc := 6) C dX6_set_6 nc_0 ?_
  refine jx_iconst (pc := 7) C dX6_set_7 nc_3 ?_
  refine jx_callD (pc := 8) C (go_X6_32 C  (Nat.le_of_ble_eq_true rfl) dX6_set_8) t_X6_in (by decide) (by decide) ⟨Nat.zero_le _, Nat.zero_le _⟩ ?_
  refine jx_if_ne (pc := 11) C (tgt := 20) dX6_set_11 (by decide) (fun c11 => ?_) (fun c11 => ?_)
  · rw [bI_0, decide_eq_false_iff_not, Decidable.not_not] at c11
    refine jx_iload_n (pc := 20) C dX6_set_20 rfl ?_
    refine jx_iconst (pc := 21) C dX6_set_21 nc_0 ?_
    refine jx_iload_n (pc := 22) C dX6_set_22 rfl ?_
    refine jx_if_ne (pc := 23) C (tgt := 30) dX6_set_23 (by decide) (fun c23 => ?_) (fun c23 => ?_)
    · refine jx_iload_n (pc := 30) C dX6_set_30 rfl ?_
      refine jx_iconst (pc := 31) C dX6_set_31 nc_1 ?_
      refine jx_icmp_ne (pc := 32) C (tgt := 39) dX6_set_32 (by decide) (fun c32 => ?_) (fun c32 => ?_)
      · refine jx_iload_n (pc := 39) C dX6_set_39 rfl ?_
        refine jx_iconst (pc := 40) C dX6_set_40 nc_2 ?_
        refine jx_icmp_ne (pc := 41) C (tgt := 49) dX6_set_41 (by decide) (fun c41 => ?_) (fun c41 => ?_)
        · refine jx_bipush (pc := 49) C dX6_set_49 nb_9 ?_
          exact key c11 _ (by unfold smax; first | exact (if_pos c23).symm | (rw [if_neg c23]; first | exact (if_pos c32).symm | (rw [if_neg c32]; first | exact (if_pos c41).symm | exact (if_neg c41).symm)))
        · refine jx_bipush (pc := 44) C dX6_set_44 nb_50 ?_
          refine jx_goto (pc := 46) C (tgt := 51) dX6_set_46 (by decide) ?_
          exact key c11 _ (by unfold smax; first | exact (if_pos c23).symm | (rw [if_neg c23]; first | exact (if_pos c32).symm | (rw [if_neg c32]; first | exact (if_pos c41).symm | exact (if_neg c41).symm)))
      · refine jx_iconst (pc := 35) C dX6_set_35 nc_1 ?_
        refine jx_goto (pc := 36) C (tgt := 51) dX6_set_36 (by decide) ?_
        exact key c11 _ (by unfold smax; first | exact (if_pos c23).symm | (rw [if_neg c23]; first | exact (if_pos c32).symm | (rw [if_neg c32]; first | exact (if_pos c41).symm | exact (if_neg c41).symm)))
    · refine jx_iconst (pc := 26) C dX6_set_26 nc_2 ?_
      refine jx_goto (pc := 27) C (tgt := 51) dX6_set_27 (by decide) ?_
      exact key c11 _ (by unfold smax; first | exact (if_pos c23).symm | (rw [if_neg c23]; first | exact (if_pos c32).symm | (rw [if_neg c32]; first | exact (if_pos c41).symm | exact (if_neg c41).symm)))
  · rw [bI_0, decide_eq_false_iff_not] at c11
    refine jx_aload_n (pc := 14) C dX6_set_14 rfl ?_
    refine jx_iconst (pc := 15) C dX6_set_15 nc_1 ?_
    refine jx_callD (pc := 16) C (go_X6_39 C hS.1 (Nat.le_of_ble_eq_true rfl) dX6_set_16) (t_X6_fails hS.1) (by decide) (by decide) ⟨Nat.zero_le _, Nat.zero_le _⟩ ?_
    exact jn_iret (pc := 19) C hr (mDo_fail (k := 1) (by unfold sset; rw [if_neg c11]) (by decide)) dX6_set_19
theorem t_X6_set {l : Launch} {D : va_G} {cA : Nat → ClassId} {N0 : Nat} {Sh : jS} {I : jI} {P : jP} {L : jL} {x : Nat} (hS : mS Sh x) (hP : mP P x) {q0 : Nat} (hq0 : I x 3 = nI q0) (hqq : q0 ≤ 6) {sv v : Int32} : jN l D cA N0 1 yX6_set cX6_set 4 (some .int) [.ref x, .int sv, .int v] Sh I P L (mDo I P L x (sset (I (x + 1)) sv v)) := jN_of (by decide) (Nat.le_of_ble_eq_true rfl) (fun _ _ _ _ _ _ _ _ C hr => b_X6_set C hr hS hP hq0 hqq)
set_option maxHeartbeats 4000000 in
theorem b_X6_pass {p : Program} {l : Launch} {e : Env} {s : State} {m : MethodId} {args : Array Value} {below : List Frame} {meth : Method} {c : Code} {D : va_G} {cA : Nat → ClassId} {N0 : Nat} {Sh : jS} {I : jI} {P : jP} {L : jL} (C : jC p (jRm 7 0 0) s m args meth c D cA N0 cX6_pass 3 RX6 7) (hr : meth.sig.returnType = (some .int)) {x : Nat} (hS : mS Sh x) (hP : mP P x) {q0 : Nat} (hq0 : I x 3 = nI q0) (hqq : q0 ≤ 6) {hv : Int32} (hok : sOK (I (x + 1))) : jJ p l e (jRm 7 0 0) s m args below meth c D cA N0 3 (MQ below (jQn D cA N0 Sh (mDo I P L x (spass (I (x + 1)) hv))) args s 0 0 (fun q => N0 ≤ q)) (fun _ => True) Sh I P L 0 0 0 [some (.ref x), some (.int hv), none] [] := by
  refine jx_aload_n (pc := 0) C dX6_pass_0 rfl ?_
  refine jx_iconst (pc := 1) C dX6_pass_1 nc_0 ?_
  refine jx_putI (pc := 2) C kf_X6_28 rfl rfl rfl rfl hS.1 dX6_pass_2 ?_
  refine jx_iload_n (pc := 5) C dX6_pass_5 rfl ?_
  refine jx_iconst (pc := 6) C dX6_pass_6 nc_1 ?_
  refine jx_bipush (pc := 7) C dX6_pass_7 nb_99 ?_
  refine jx_callD (pc := 9) C (go_X6_32 C  (Nat.le_of_ble_eq_true rfl) dX6_pass_9) t_X6_in (by decide) (by decide) ⟨Nat.zero_le _, Nat.zero_le _⟩ ?_
  refine jx_if_ne (pc := 12) C (tgt := 21) dX6_pass_12 (by decide) (fun c12 => ?_) (fun c12 => ?_)
  · rw [bI_0, decide_eq_false_iff_not, Decidable.not_not] at c12
    refine jx_aload_n (pc := 21) C dX6_pass_21 rfl ?_
    refine jx_getP (pc := 22) C kf_X6_7 rfl hS.1 hP.1 dX6_pass_22 ?_
    refine jx_iconst (pc := 25) C dX6_pass_25 nc_4 ?_
    refine jx_ialdv (pc := 26) C hS.2.1 (by omega) (by decide) (congrFun (jst_ne (by omega)) _) dX6_pass_26 ?_
    refine jx_iload_n (pc := 27) C dX6_pass_27 rfl ?_
    refine jx_iadd (pc := 28) C dX6_pass_28 ?_
    refine jx_sipush (pc := 29) C dX6_pass_29 ns_9999 ?_
    refine jx_icmp_le (pc := 32) C (tgt := 41) dX6_pass_32 (by decide) (fun c32 => ?_) (fun c32 => ?_)
    · obtain ⟨h0, hh1, hh, rfl⟩ := in1_N (by decide) c12
      refine jx_aload_n (pc := 41) C dX6_pass_41 rfl ?_
      refine jx_callv (pc := 42) C (go_X6_107 C hS.1 (Nat.le_of_ble_eq_true rfl) dX6_pass_42) (t_X6_saves hS hP ((congrFun jst_eq 3).trans ((upd_n (by decide)).trans hq0)) hqq) (by decide) (by decide) ⟨Nat.zero_le _, Nat.zero_le _⟩ (fun I42 P42 L42 q42 => ?_)
      obtain ⟨hsv, rfl, rfl⟩ := q42
      have hn : I42 (x + 1) = I (x + 1) := hsv.1.trans (jst_ne (by omega))
      refine jx_mem (I' := va_up I42 (x + 1) (I (x + 1))) (P' := _) (by rw [← hn]; exact va_up_id.symm) rfl ?_
      refine jx_aload_n (pc := 45) C dX6_pass_45 rfl ?_
      refine jx_getP (pc := 46) C kf_X6_7 rfl hS.1 hP.1 dX6_pass_46 ?_
      refine jx_bipush (pc := 49) C dX6_pass_49 nb_7 ?_
      refine jx_ialdv (pc := 51) C hS.2.1 (by omega) (by decide) (congrFun va_up_s _) dX6_pass_51 ?_
      refine jx_istore_n (pc := 52) C dX6_pass_52 (jset_2 jc_i) (by decide) ?_
      refine jx_aload_n (pc := 53) C dX6_pass_53 rfl ?_
      refine jx_aload_n (pc := 54) C dX6_pass_54 rfl ?_
      refine jx_getP (pc := 55) C kf_X6_7 rfl hS.1 hP.1 dX6_pass_55 ?_
      refine jx_iload_n (pc := 58) C dX6_pass_58 rfl ?_
      refine jx_callv (pc := 59) C (go_X6_121 C hS.1 (Nat.le_of_ble_eq_true rfl) dX6_pass_59) (t_X6_hours hS hP hS.2.1 (by omega) (by rw [va_up_s]; exact hok) (by omega)) (by decide) (by decide) ⟨Nat.zero_le _, Nat.zero_le _⟩ (fun I59 P59 L59 q59 => ?_)
      obtain ⟨⟨d59, rfl⟩, rfl, rfl⟩ := q59
      refine jx_aload_n (pc := 62) C dX6_pass_62 rfl ?_
      refine jx_getP (pc := 63) C kf_X6_7 rfl hS.1 hP.1 dX6_pass_63 ?_
      refine jx_bipush (pc := 66) C dX6_pass_66 nb_7 ?_
      refine jx_ialdv (pc := 68) C hS.2.1 (by omega) (by decide) ((congrFun mm_a _).trans (by rw [va_up_s])) dX6_pass_68 ?_
      refine jx_iload_n (pc := 69) C dX6_pass_69 rfl ?_
      refine jx_isub (pc := 70) C dX6_pass_70 ?_
      exact jn_iret (pc := 71) C hr (mDo_okG hsv (by unfold spass; rw [if_pos c12, if_pos c32, sW_N (by omega)]) (by rw [mm_a, va_up_s]) (fun b h1 h2 h3 => by unfold mm; rw [va_up_n h1, va_up_n h3, va_up_n h1])) dX6_pass_71
    · refine jx_aload_n (pc := 35) C dX6_pass_35 rfl ?_
      refine jx_iconst (pc := 36) C dX6_pass_36 nc_2 ?_
      refine jx_callD (pc := 37) C (go_X6_39 C hS.1 (Nat.le_of_ble_eq_true rfl) dX6_pass_37) (t_X6_fails hS.1) (by decide) (by decide) ⟨Nat.zero_le _, Nat.zero_le _⟩ ?_
      exact jn_iret (pc := 40) C hr (mDo_fail (k := 2) (by unfold spass; rw [if_pos c12, if_neg c32]) (by decide)) dX6_pass_40
  · rw [bI_0, decide_eq_false_iff_not] at c12
    refine jx_aload_n (pc := 15) C dX6_pass_15 rfl ?_
    refine jx_iconst (pc := 16) C dX6_pass_16 nc_1 ?_
    refine jx_callD (pc := 17) C (go_X6_39 C hS.1 (Nat.le_of_ble_eq_true rfl) dX6_pass_17) (t_X6_fails hS.1) (by decide) (by decide) ⟨Nat.zero_le _, Nat.zero_le _⟩ ?_
    exact jn_iret (pc := 20) C hr (mDo_fail (k := 1) (by unfold spass; rw [if_neg c12]) (by decide)) dX6_pass_20
theorem t_X6_pass {l : Launch} {D : va_G} {cA : Nat → ClassId} {N0 : Nat} {Sh : jS} {I : jI} {P : jP} {L : jL} {x : Nat} (hS : mS Sh x) (hP : mP P x) {q0 : Nat} (hq0 : I x 3 = nI q0) (hqq : q0 ≤ 6) {hv : Int32} (hok : sOK (I (x + 1))) : jN l D cA N0 7 yX6_pass cX6_pass 3 (some .int) [.ref x, .int hv] Sh I P L (mDo I P L x (spass (I (x + 1)) hv)) := jN_of (by decide) (Nat.le_of_ble_eq_true rfl) (fun _ _ _ _ _ _ _ _ C hr => b_X6_pass C hr hS hP hq0 hqq hok)
