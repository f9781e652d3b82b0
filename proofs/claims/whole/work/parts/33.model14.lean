def tS0 : tS := (0, 0, tNew, 0, fun _ _ => 0)
def tErr (ch : Nat → Nat) : Nat → Nat | 0 => 0 | n + 1 => if (tRun ch tS0 (n + 1)).isSome = true then n + 1 else tErr ch n
theorem tRun_none {ch : Nat → Nat} {s0 : tS} {a : Nat} (h : tRun ch s0 a = none) : ∀ k, tRun ch s0 (a + k) = none := by
  intro k
  induction k with
  | zero => exact h
  | succ k ih =>
    show (match tRun ch s0 (a + k) with | none => none | some s => tStep s (ch (a + k))) = none
    rw [ih]
theorem tErr_eq {ch : Nat → Nat} {a : Nat} {s : tS} (h : tRun ch tS0 a = some s) : ∀ {t}, a ≤ t → (a < t → tStep s (ch a) = none) → tErr ch t = a := by
  intro t
  induction t with
  | zero => intro h1 _; show 0 = a; omega
  | succ n ih =>
    intro h1 h2
    unfold tErr
    by_cases e1 : a = n + 1
    · subst e1; rw [h]; exact if_pos rfl
    · have h3 : tRun ch tS0 (a + 1) = none := (tRun_s h).trans (h2 (by omega))
      have h4 := tRun_none h3 (n - a)
      rw [show a + 1 + (n - a) = n + 1 by omega] at h4
      rw [h4, if_neg (by decide)]
      exact ih (by omega) (fun _ => h2 (by omega))
def tText (I : jI) (x t : Nat) (ch : Nat → Nat) (b : Bool) (I' : jI) : Prop := ∃ a1 fld dg g1 q prev, tRun ch tS0 a1 = some (fld, dg, g1, q, prev) ∧ a1 ≤ t ∧ mTx I x I' ∧ I' x 7 = nI a1 ∧ (b = true → a1 = t ∧ tDone (fld, dg, g1, q, prev) = true ∧ I' x 11 = nI (q + 1) ∧ q ≤ 8 ∧ (∀ i, i < q → ∀ k, k < 5 → I' (x + 5) (5 * i + k) = nI (prev i k)) ∧ ∀ k, k < 5 → I' (x + 5) (5 * q + k) = nI (g1 k)) ∧ (b = false → I' x 8 = bI (decide (a1 < t)) ∧ (a1 < t → tStep (fld, dg, g1, q, prev) (ch a1) = none) ∧ (a1 = t → tDone (fld, dg, g1, q, prev) = false))
theorem tText_pf {I I1 I' : jI} {x t a q : Nat} {ch : Nat → Nat} {r : Nat × (Nat → Nat → Nat)} (hm : mTx I x I1) (h : tPart I1 x t ch tS0 a q r false I') : tText I x t ch false I' := by
  obtain ⟨a1, fld, dg, g1, h1, h2, _, h4⟩ := h
  obtain ⟨p1, p2⟩ := h4 rfl
  exact ⟨a1, fld, dg, g1, r.1, r.2, h1.2.1, h1.1, hm.tr h1.2.2.1, h1.2.2.2.1, fun h => absurd h (by decide), fun _ => ⟨p1, p2, fun _ => h2.symm⟩⟩
set_option maxHeartbeats 4000000 in
theorem lp_X6_isText {p : Program} {l : Launch} {e : Env} {s : State} {m : MethodId} {args : Array Value} {below : List Frame} {meth : Method} {c : Code} {D : va_G} {cA : Nat → ClassId} {N0 : Nat} {Sh : jS} {I : jI} {P : jP} {L : jL} (C : jC p (jRm 4 0 0) s m args meth c D cA N0 cX6_isText 2 RX6 4) (hr : meth.sig.returnType = some .boolean) {x : Nat} (hS : mS Sh x) (hP : mP P x) {t : Nat} {ch : Nat → Nat} (hE : tEnv I x t ch) : ∀ n, ∀ {I1 : jI} a q prev, mTx I x I1 → I1 x 7 = nI a → a ≤ t → I1 x 11 = nI q → 7 * q ≤ a → tRun ch tS0 a = some (0, 0, tNew, q, prev) → t ≤ a + n → (∀ i, i < q → ∀ k, k < 5 → I1 (x + 5) (5 * i + k) = nI (prev i k)) → jJ p l e (jRm 4 0 0) s m args below meth c D cA N0 2 (MQ below (jQn D cA N0 Sh (jNi (fun v I' P' L' => (∃ b, v = bI b ∧ tText I x t ch b I') ∧ P' = P ∧ L' = L))) args s 0 0 (fun q => N0 ≤ q)) (fun _ => True) Sh I1 P L 0 0 17 [some (.ref x), some (.int (nI 1))] [] := by
  intro n
  induction n with
  | zero =>
    intro I1 a q prev hm ha hat hq h7q hrun hn hrw
    have ht60 := hE.2.1
    have hE1 := hE.mv hm
    have hq8 : q ≤ 8 := by omega
    refine jx_iload_n (pc := 17) C dX6_isText_17 rfl ?_
    refine jx_if_eq (pc := 18) C (tgt := 70) dX6_isText_18 (by decide) (fun c18 => (by rw [nI_eq0 (by omega)] at c18; exfalso; exact absurd c18 (by decide))) (fun c18 => ?_)
    rw [nI_eq0 (by omega)] at c18
    refine jx_aload_n (pc := 21) C dX6_isText_21 rfl ?_
    refine jx_calli (pc := 22) C (go_X6_157 C hS.1 (Nat.le_of_ble_eq_true rfl) dX6_isText_22) (t_X6_isPart hS hP hE1 ha hat hq hq8 hrun rfl rfl) (by decide) (by decide) ⟨Nat.zero_le _, Nat.zero_le _⟩ (fun r22 I22 P22 L22 q22 => ?_)
    obtain ⟨⟨b22, rfl, z22⟩, rfl, rfl⟩ := q22
    refine jx_if_ne (pc := 25) C (tgt := 30) dX6_isText_25 (by decide) (fun c25 => ?_) (fun c25 => ?_)
    · have hb22 : b22 = true := by
        cases b22 with
        | true => rfl
        | false => exact absurd (bI_eq0.mpr rfl) c25
      subst hb22
      obtain ⟨a1, fld, dg, g1, h1, h2, h3, _⟩ := z22
      obtain ⟨p1, p2, p3, p4⟩ := h3 rfl
      have ha1t := h1.1
      have hst : tStands (fld, dg, g1, q, prev) = true := by
        have h := h2.symm
        unfold tDone at h
        rw [Bool.and_eq_true] at h
        exact h.2
      have h2f : 2 ≤ fld := by
        rcases Nat.lt_or_ge fld 2 with h | h
        · exact absurd (h2.trans (tDone_f (Or.inl h))) (by decide)
        · exact h
      refine jx_aload_n (pc := 30) C dX6_isText_30 rfl ?_
      refine jx_dup (pc := 31) C dX6_isText_31 rfl ?_
      refine jx_getIv (pc := 32) C kf_X6_148 rfl hS.1 h1.2.2.2.2.1 dX6_isText_32 ?_
      refine jx_iconst (pc := 35) C dX6_isText_35 nc_1 ?_
      refine jx_iaddN (pc := 36) C dX6_isText_36 ?_
      refine jx_putI (pc := 37) C kf_X6_148 rfl rfl rfl rfl hS.1 dX6_isText_37 ?_
      refine jx_aload_n (pc := 40) C dX6_isText_40 rfl ?_
      refine jx_bipush (pc := 41) C dX6_isText_41 nb_59 ?_
      refine jx_bipush (pc := 43) C dX6_isText_43 nb_59 ?_
      refine jx_callD (pc := 45) C (go_X6_134 C hS.1 (Nat.le_of_ble_eq_true rfl) dX6_isText_45) (t_X6_isAt hS hP ((hE1.mv h1.2.2.1).mv (mTx.fld (Or.inr (Or.inr (Or.inr rfl))))) ((congrFun jst_eq 7).trans ((upd_n (by decide)).trans h1.2.2.2.1)) h1.1 (by decide) (by decide)) (by decide) (by decide) ⟨Nat.zero_le _, Nat.zero_le _⟩ ?_
      refine jx_istore_n (pc := 48) C dX6_isText_48 (jset_1 jc_r) (by decide) ?_
      refine jx_aload_n (pc := 49) C dX6_isText_49 rfl ?_
      refine jx_dup (pc := 50) C dX6_isText_50 rfl ?_
      refine jx_getIv (pc := 51) C kf_X6_127 rfl hS.1 ((congrFun jst_eq 7).trans ((upd_n (by decide)).trans h1.2.2.2.1)) dX6_isText_51 ?_
      refine jx_iload_n (pc := 54) C dX6_isText_54 rfl ?_
      refine jx_if_eq (pc := 55) C (tgt := 62) dX6_isText_55 (by decide) (fun c55 => ?_) (fun c55 => ?_)
      · rw [bI_0, decide_eq_false_iff_not] at c55
        have c48 := c55
        rw [decide_eq_false c55]
        refine jx_iconst (pc := 62) C dX6_isText_62 nc_0 ?_
        refine jx_iaddN (pc := 63) C dX6_isText_63 ?_
        refine jx_putI (pc := 64) C kf_X6_127 rfl rfl rfl rfl hS.1 dX6_isText_64 ?_
        refine jx_goto (pc := 67) C (tgt := 17) dX6_isText_67 (by decide) ?_
        refine jx_iload_n (pc := 17) C dX6_isText_17 rfl ?_
        refine jx_if_eq (pc := 18) C (tgt := 70) dX6_isText_18 (by decide) (fun c18 => ?_) (fun c18 => (by exfalso; exact c18 (bI_eq0.mpr rfl)))
        have h5t : jst (jst I22 x 11 (nI (q + 1))) x 7 (nI (a1 + 0)) x 5 = nI t := (hE.mv ((hm.tr h1.2.2.1).tr ((mTx.fld (Or.inr (Or.inr (Or.inr rfl)))).tr (mTx.fld (Or.inl rfl))))).1
        have hmm8 : ∀ {v}, mTx I x (jst (jst (jst I22 x 11 (nI (q + 1))) x 7 (nI (a1 + 0))) x 8 v) := (hm.tr h1.2.2.1).tr (((mTx.fld (Or.inr (Or.inr (Or.inr rfl)))).tr (mTx.fld (Or.inl rfl))).tr (mTx.fld (Or.inr (Or.inl rfl))))
        refine jx_aload_n (pc := 70) C dX6_isText_70 rfl ?_
        refine jx_aload_n (pc := 71) C dX6_isText_71 rfl ?_
        refine jx_getIv (pc := 72) C kf_X6_127 rfl hS.1 ((congrFun jst_eq 7).trans upd_s) dX6_isText_72 ?_
        refine jx_aload_n (pc := 75) C dX6_isText_75 rfl ?_
        refine jx_getIv (pc := 76) C kf_X6_124 rfl hS.1 h5t dX6_isText_76 ?_
        refine jx_icmp_ge (pc := 79) C (tgt := 86) dX6_isText_79 (by decide) (fun c79 => ?_) (fun c79 => ?_)
        · rw [nI_leI (by omega) (by omega)] at c79
          refine jx_iconst (pc := 86) C dX6_isText_86 nc_0 ?_
          refine jx_putI (pc := 87) C kf_X6_130 rfl rfl rfl rfl hS.1 dX6_isText_87 ?_
          refine jx_aload_n (pc := 90) C dX6_isText_90 rfl ?_
          refine jx_getIv (pc := 91) C kf_X6_127 rfl hS.1 ((congrFun jst_eq 7).trans ((upd_n (by decide)).trans ((congrFun jst_eq 7).trans upd_s))) dX6_isText_91 ?_
          refine jx_aload_n (pc := 94) C dX6_isText_94 rfl ?_
          refine jx_getIv (pc := 95) C kf_X6_124 rfl hS.1 ((congrFun jst_eq 5).trans ((upd_n (by decide)).trans h5t)) dX6_isText_95 ?_
          refine jx_icmp_ne (pc := 98) C (tgt := 105) dX6_isText_98 (by decide) (fun c98 => ?_) (fun c98 => ?_)
          · rw [nI_eq (by omega) (by omega)] at c98
            refine jx_iconst (pc := 105) C dX6_isText_105 nc_0 ?_
            exact jn_zret (pc := 106) C hr (rfl) (⟨_, rfl, ⟨false, rfl, a1, fld, dg, g1, q, prev, h1.2.1, h1.1, hmm8, by rw [jst_eq, upd_n (by decide), jst_eq]; exact upd_s, fun h => absurd h (by decide), fun _ => ⟨by first | (rw [jst_eq, upd_s, decide_eq_true (show a1 < t by omega)]; rfl) | (exfalso; omega), fun h => p4 h (fun h9 => c48 ⟨h, by omega, by omega⟩), fun h => by omega⟩⟩, rfl, rfl⟩) dX6_isText_106
          · rw [nI_eq (by omega) (by omega)] at c98
            refine jx_iconst (pc := 101) C dX6_isText_101 nc_1 ?_
            refine jx_goto (pc := 102) C (tgt := 106) dX6_isText_102 (by decide) ?_
            exact jn_zret (pc := 106) C hr (rfl) (⟨_, rfl, ⟨true, rfl, a1, fld, dg, g1, q, prev, h1.2.1, h1.1, hmm8, by rw [jst_eq, upd_n (by decide), jst_eq]; exact upd_s, fun _ => ⟨by omega, h2.symm, by rw [jst_eq, upd_n (by decide), jst_eq, upd_n (by decide), jst_eq]; exact upd_s, hq8, fun i hi k hk => by rw [jst_ne (by omega), jst_ne (by omega), jst_ne (by omega), h1.2.2.2.2.2 _ (by omega)]; exact hrw i hi k hk, fun k hk => by rw [jst_ne (by omega), jst_ne (by omega), jst_ne (by omega)]; exact p3 k hk⟩, fun h => absurd h (by decide)⟩, rfl, rfl⟩) dX6_isText_106
        · rw [nI_leI (by omega) (by omega)] at c79
          refine jx_iconst (pc := 82) C dX6_isText_82 nc_1 ?_
          refine jx_goto (pc := 83) C (tgt := 87) dX6_isText_83 (by decide) ?_
          refine jx_putI (pc := 87) C kf_X6_130 rfl rfl rfl rfl hS.1 dX6_isText_87 ?_
          refine jx_aload_n (pc := 90) C dX6_isText_90 rfl ?_
          refine jx_getIv (pc := 91) C kf_X6_127 rfl hS.1 ((congrFun jst_eq 7).trans ((upd_n (by decide)).trans ((congrFun jst_eq 7).trans upd_s))) dX6_isText_91 ?_
          refine jx_aload_n (pc := 94) C dX6_isText_94 rfl ?_
          refine jx_getIv (pc := 95) C kf_X6_124 rfl hS.1 ((congrFun jst_eq 5).trans ((upd_n (by decide)).trans h5t)) dX6_isText_95 ?_
          refine jx_icmp_ne (pc := 98) C (tgt := 105) dX6_isText_98 (by decide) (fun c98 => ?_) (fun c98 => ?_)
          · rw [nI_eq (by omega) (by omega)] at c98
            refine jx_iconst (pc := 105) C dX6_isText_105 nc_0 ?_
            exact jn_zret (pc := 106) C hr (rfl) (⟨_, rfl, ⟨false, rfl, a1, fld, dg, g1, q, prev, h1.2.1, h1.1, hmm8, by rw [jst_eq, upd_n (by decide), jst_eq]; exact upd_s, fun h => absurd h (by decide), fun _ => ⟨by first | (rw [jst_eq, upd_s, decide_eq_true (show a1 < t by omega)]; rfl) | (exfalso; omega), fun h => p4 h (fun h9 => c48 ⟨h, by omega, by omega⟩), fun h => by omega⟩⟩, rfl, rfl⟩) dX6_isText_106
          · rw [nI_eq (by omega) (by omega)] at c98
            refine jx_iconst (pc := 101) C dX6_isText_101 nc_1 ?_
            refine jx_goto (pc := 102) C (tgt := 106) dX6_isText_102 (by decide) ?_
            exact jn_zret (pc := 106) C hr (rfl) (⟨_, rfl, ⟨true, rfl, a1, fld, dg, g1, q, prev, h1.2.1, h1.1, hmm8, by rw [jst_eq, upd_n (by decide), jst_eq]; exact upd_s, fun _ => ⟨by omega, h2.symm, by rw [jst_eq, upd_n (by decide), jst_eq, upd_n (by decide), jst_eq]; exact upd_s, hq8, fun i hi k hk => by rw [jst_ne (by omega), jst_ne (by omega), jst_ne (by omega), h1.2.2.2.2.2 _ (by omega)]; exact hrw i hi k hk, fun k hk => by rw [jst_ne (by omega), jst_ne (by omega), jst_ne (by omega)]; exact p3 k hk⟩, fun h => absurd h (by decide)⟩, rfl, rfl⟩) dX6_isText_106
      · rw [bI_0, decide_eq_false_iff_not, Decidable.not_not] at c55
        have c48 := c55
        rw [decide_eq_true c55, bI_t]
        refine jx_iconst (pc := 58) C dX6_isText_58 nc_1 ?_
        refine jx_goto (pc := 59) C (tgt := 63) dX6_isText_59 (by decide) ?_
        refine jx_iaddN (pc := 63) C dX6_isText_63 ?_
        refine jx_putI (pc := 64) C kf_X6_127 rfl rfl rfl rfl hS.1 dX6_isText_64 ?_
        refine jx_goto (pc := 67) C (tgt := 17) dX6_isText_67 (by decide) ?_
        exact absurd hn (by have := c48.1; omega)
    · refine jx_iconst (pc := 28) C dX6_isText_28 nc_0 ?_
      exact jn_zret (pc := 29) C hr (rfl) (⟨_, rfl, ⟨false, rfl, by rw [bI_eq0.mp c25] at z22; exact tText_pf hm z22⟩, rfl, rfl⟩) dX6_isText_29
  | succ n ih =>
    intro I1 a q prev hm ha hat hq h7q hrun hn hrw
    have ht60 := hE.2.1
    have hE1 := hE.mv hm
    have hq8 : q ≤ 8 := by omega
    refine jx_iload_n (pc := 17) C dX6_isText_17 rfl ?_
    refine jx_if_eq (pc := 18) C (tgt := 70) dX6_isText_18 (by decide) (fun c18 => (by rw [nI_eq0 (by omega)] at c18; exfalso; exact absurd c18 (by decide))) (fun c18 => ?_)
    rw [nI_eq0 (by omega)] at c18
    refine jx_aload_n (pc := 21) C dX6_isText_21 rfl ?_
    refine jx_calli (pc := 22) C (go_X6_157 C hS.1 (Nat.le_of_ble_eq_true rfl) dX6_isText_22) (t_X6_isPart hS hP hE1 ha hat hq hq8 hrun rfl rfl) (by decide) (by decide) ⟨Nat.zero_le _, Nat.zero_le _⟩ (fun r22 I22 P22 L22 q22 => ?_)
    obtain ⟨⟨b22, rfl, z22⟩, rfl, rfl⟩ := q22
    refine jx_if_ne (pc := 25) C (tgt := 30) dX6_isText_25 (by decide) (fun c25 => ?_) (fun c25 => ?_)
    · have hb22 : b22 = true := by
        cases b22 with
        | true => rfl
        | false => exact absurd (bI_eq0.mpr rfl) c25
      subst hb22
      obtain ⟨a1, fld, dg, g1, h1, h2, h3, _⟩ := z22
      obtain ⟨p1, p2, p3, p4⟩ := h3 rfl
      have ha1t := h1.1
      have hst : tStands (fld, dg, g1, q, prev) = true := by
        have h := h2.symm
        unfold tDone at h
        rw [Bool.and_eq_true] at h
        exact h.2
      have h2f : 2 ≤ fld := by
        rcases Nat.lt_or_ge fld 2 with h | h
        · exact absurd (h2.trans (tDone_f (Or.inl h))) (by decide)
        · exact h
      refine jx_aload_n (pc := 30) C dX6_isText_30 rfl ?_
      refine jx_dup (pc := 31) C dX6_isText_31 rfl ?_
      refine jx_getIv (pc := 32) C kf_X6_148 rfl hS.1 h1.2.2.2.2.1 dX6_isText_32 ?_
      refine jx_iconst (pc := 35) C dX6_isText_35 nc_1 ?_
      refine jx_iaddN (pc := 36) C dX6_isText_36 ?_
      refine jx_putI (pc := 37) C kf_X6_148 rfl rfl rfl rfl hS.1 dX6_isText_37 ?_
      refine jx_aload_n (pc := 40) C dX6_isText_40 rfl ?_
      refine jx_bipush (pc := 41) C dX6_isText_41 nb_59 ?_
      refine jx_bipush (pc := 43) C dX6_isText_43 nb_59 ?_
      refine jx_callD (pc := 45) C (go_X6_134 C hS.1 (Nat.le_of_ble_eq_true rfl) dX6_isText_45) (t_X6_isAt hS hP ((hE1.mv h1.2.2.1).mv (mTx.fld (Or.inr (Or.inr (Or.inr rfl))))) ((congrFun jst_eq 7).trans ((upd_n (by decide)).trans h1.2.2.2.1)) h1.1 (by decide) (by decide)) (by decide) (by decide) ⟨Nat.zero_le _, Nat.zero_le _⟩ ?_
      refine jx_istore_n (pc := 48) C dX6_isText_48 (jset_1 jc_r) (by decide) ?_
      refine jx_aload_n (pc := 49) C dX6_isText_49 rfl ?_
      refine jx_dup (pc := 50) C dX6_isText_50 rfl ?_
      refine jx_getIv (pc := 51) C kf_X6_127 rfl hS.1 ((congrFun jst_eq 7).trans ((upd_n (by decide)).trans h1.2.2.2.1)) dX6_isText_51 ?_
      refine jx_iload_n (pc := 54) C dX6_isText_54 rfl ?_
      refine jx_if_eq (pc := 55) C (tgt := 62) dX6_isText_55 (by decide) (fun c55 => ?_) (fun c55 => ?_)
      · rw [bI_0, decide_eq_false_iff_not] at c55
        have c48 := c55
        rw [decide_eq_false c55]
        refine jx_iconst (pc := 62) C dX6_isText_62 nc_0 ?_
        refine jx_iaddN (pc := 63) C dX6_isText_63 ?_
        refine jx_putI (pc := 64) C kf_X6_127 rfl rfl rfl rfl hS.1 dX6_isText_64 ?_
        refine jx_goto (pc := 67) C (tgt := 17) dX6_isText_67 (by decide) ?_
        refine jx_iload_n (pc := 17) C dX6_isText_17 rfl ?_
        refine jx_if_eq (pc := 18) C (tgt := 70) dX6_isText_18 (by decide) (fun c18 => ?_) (fun c18 => (by exfalso; exact c18 (bI_eq0.mpr rfl)))
        have h5t : jst (jst I22 x 11 (nI (q + 1))) x 7 (nI (a1 + 0)) x 5 = nI t := (hE.mv ((hm.tr h1.2.2.1).tr ((mTx.fld (Or.inr (Or.inr (Or.inr rfl)))).tr (mTx.fld (Or.inl rfl))))).1
        have hmm8 : ∀ {v}, mTx I x (jst (jst (jst I22 x 11 (nI (q + 1))) x 7 (nI (a1 + 0))) x 8 v) := (hm.tr h1.2.2.1).tr (((mTx.fld (Or.inr (Or.inr (Or.inr rfl)))).tr (mTx.fld (Or.inl rfl))).tr (mTx.fld (Or.inr (Or.inl rfl))))
        refine jx_aload_n (pc := 70) C dX6_isText_70 rfl ?_
        refine jx_aload_n (pc := 71) C dX6_isText_71 rfl ?_
        refine jx_getIv (pc := 72) C kf_X6_127 rfl hS.1 ((congrFun jst_eq 7).trans upd_s) dX6_isText_72 ?_
        refine jx_aload_n (pc := 75) C dX6_isText_75 rfl ?_
        refine jx_getIv (pc := 76) C kf_X6_124 rfl hS.1 h5t dX6_isText_76 ?_
        refine jx_icmp_ge (pc := 79) C (tgt := 86) dX6_isText_79 (by decide) (fun c79 => ?_) (fun c79 => ?_)
        · rw [nI_leI (by omega) (by omega)] at c79
          refine jx_iconst (pc := 86) C dX6_isText_86 nc_0 ?_
          refine jx_putI (pc := 87) C kf_X6_130 rfl rfl rfl rfl hS.1 dX6_isText_87 ?_
          refine jx_aload_n (pc := 90) C dX6_isText_90 rfl ?_
          refine jx_getIv (pc := 91) C kf_X6_127 rfl hS.1 ((congrFun jst_eq 7).trans ((upd_n (by decide)).trans ((congrFun jst_eq 7).trans upd_s))) dX6_isText_91 ?_
          refine jx_aload_n (pc := 94) C dX6_isText_94 rfl ?_
          refine jx_getIv (pc := 95) C kf_X6_124 rfl hS.1 ((congrFun jst_eq 5).trans ((upd_n (by decide)).trans h5t)) dX6_isText_95 ?_
          refine jx_icmp_ne (pc := 98) C (tgt := 105) dX6_isText_98 (by decide) (fun c98 => ?_) (fun c98 => ?_)
          · rw [nI_eq (by omega) (by omega)] at c98
            refine jx_iconst (pc := 105) C dX6_isText_105 nc_0 ?_
            exact jn_zret (pc := 106) C hr (rfl) (⟨_, rfl, ⟨false, rfl, a1, fld, dg, g1, q, prev, h1.2.1, h1.1, hmm8, by rw [jst_eq, upd_n (by decide), jst_eq]; exact upd_s, fun h => absurd h (by decide), fun _ => ⟨by first | (rw [jst_eq, upd_s, decide_eq_true (show a1 < t by omega)]; rfl) | (exfalso; omega), fun h => p4 h (fun h9 => c48 ⟨h, by omega, by omega⟩), fun h => by omega⟩⟩, rfl, rfl⟩) dX6_isText_106
          · rw [nI_eq (by omega) (by omega)] at c98
            refine jx_iconst (pc := 101) C dX6_isText_101 nc_1 ?_
            refine jx_goto (pc := 102) C (tgt := 106) dX6_isText_102 (by decide) ?_
            exact jn_zret (pc := 106) C hr (rfl) (⟨_, rfl, ⟨true, rfl, a1, fld, dg, g1, q, prev, h1.2.1, h1.1, hmm8, by rw [jst_eq, upd_n (by decide), jst_eq]; exact upd_s, fun _ => ⟨by omega, h2.symm, by rw [jst_eq, upd_n (by decide), jst_eq, upd_n (by decide), jst_eq]; exact upd_s, hq8, fun i hi k hk => by rw [jst_ne (by omega), jst_ne (by omega), jst_ne (by omega), h1.2.2.2.2.2 _ (by omega)]; exact hrw i hi k hk, fun k hk => by rw [jst_ne (by omega), jst_ne (by omega), jst_ne (by omega)]; exact p3 k hk⟩, fun h => absurd h (by decide)⟩, rfl, rfl⟩) dX6_isText_106
        · rw [nI_leI (by omega) (by omega)] at c79
          refine jx_iconst (pc := 82) C dX6_isText_82 nc_1 ?_
          refine jx_goto (pc := 83) C (tgt := 87) dX6_isText_83 (by decide) ?_
          refine jx_putI (pc := 87) C kf_X6_130 rfl rfl rfl rfl hS.1 dX6_isText_87 ?_
          refine jx_aload_n (pc := 90) C dX6_isText_90 rfl ?_
          refine jx_getIv (pc := 91) C kf_X6_127 rfl hS.1 ((congrFun jst_eq 7).trans ((upd_n (by decide)).trans ((congrFun jst_eq 7).trans upd_s))) dX6_isText_91 ?_
          refine jx_aload_n (pc := 94) C dX6_isText_94 rfl ?_
          refine jx_getIv (pc := 95) C kf_X6_124 rfl hS.1 ((congrFun jst_eq 5).trans ((upd_n (by decide)).trans h5t)) dX6_isText_95 ?_
          refine jx_icmp_ne (pc := 98) C (tgt := 105) dX6_isText_98 (by decide) (fun c98 => ?_) (fun c98 => ?_)
          · rw [nI_eq (by omega) (by omega)] at c98
            refine jx_iconst (pc := 105) C dX6_isText_105 nc_0 ?_
            exact jn_zret (pc := 106) C hr (rfl) (⟨_, rfl, ⟨false, rfl, a1, fld, dg, g1, q, prev, h1.2.1, h1.1, hmm8, by rw [jst_eq, upd_n (by decide), jst_eq]; exact upd_s, fun h => absurd h (by decide), fun _ => ⟨by first | (rw [jst_eq, upd_s, decide_eq_true (show a1 < t by omega)]; rfl) | (exfalso; omega), fun h => p4 h (fun h9 => c48 ⟨h, by omega, by omega⟩), fun h => by omega⟩⟩, rfl, rfl⟩) dX6_isText_106
          · rw [nI_eq (by omega) (by omega)] at c98
            refine jx_iconst (pc := 101) C dX6_isText_101 nc_1 ?_
            refine jx_goto (pc := 102) C (tgt := 106) dX6_isText_102 (by decide) ?_
            exact jn_zret (pc := 106) C hr (rfl) (⟨_, rfl, ⟨true, rfl, a1, fld, dg, g1, q, prev, h1.2.1, h1.1, hmm8, by rw [jst_eq, upd_n (by decide), jst_eq]; exact upd_s, fun _ => ⟨by omega, h2.symm, by rw [jst_eq, upd_n (by decide), jst_eq, upd_n (by decide), jst_eq]; exact upd_s, hq8, fun i hi k hk => by rw [jst_ne (by omega), jst_ne (by omega), jst_ne (by omega), h1.2.2.2.2.2 _ (by omega)]; exact hrw i hi k hk, fun k hk => by rw [jst_ne (by omega), jst_ne (by omega), jst_ne (by omega)]; exact p3 k hk⟩, fun h => absurd h (by decide)⟩, rfl, rfl⟩) dX6_isText_106
      · rw [bI_0, decide_eq_false_iff_not, Decidable.not_not] at c55
        have c48 := c55
        rw [decide_eq_true c55, bI_t]
        refine jx_iconst (pc := 58) C dX6_isText_58 nc_1 ?_
        refine jx_goto (pc := 59) C (tgt := 63) dX6_isText_59 (by decide) ?_
        refine jx_iaddN (pc := 63) C dX6_isText_63 ?_
        refine jx_putI (pc := 64) C kf_X6_127 rfl rfl rfl rfl hS.1 dX6_isText_64 ?_
        refine jx_goto (pc := 67) C (tgt := 17) dX6_isText_67 (by decide) ?_
        refine ih (a1 + 1) (q + 1) (fun i => if i = q then g1 else prev i) ((hm.tr h1.2.2.1).tr ((mTx.fld (Or.inr (Or.inr (Or.inr rfl)))).tr (mTx.fld (Or.inl rfl)))) (by rw [jst_eq]; exact upd_s) c48.1 (by rw [jst_eq, upd_n (by decide), jst_eq]; exact upd_s) (by omega) ((tRun_s h1.2.1).trans (tStep_p (by omega) hst (by show tMark fld (ch a1) = _; rw [show ch a1 = 59 by omega]; unfold tMark; rw [if_neg (by decide), if_neg (by decide), if_neg (by decide), if_neg (by decide), if_pos rfl, if_pos h2f]))) (by omega) (fun i hi k hk => ?_)
        rw [jst_ne (by omega), jst_ne (by omega)]
        by_cases hiq : i = q
        · subst hiq; rw [if_pos rfl]; exact p3 k hk
        · rw [if_neg hiq, h1.2.2.2.2.2 _ (by omega)]; exact hrw i (by omega) k hk
    · refine jx_iconst (pc := 28) C dX6_isText_28 nc_0 ?_
      exact jn_zret (pc := 29) C hr (rfl) (⟨_, rfl, ⟨false, rfl, by rw [bI_eq0.mp c25] at z22; exact tText_pf hm z22⟩, rfl, rfl⟩) dX6_isText_29
set_option maxHeartbeats 4000000 in
theorem b_X6_isText {p : Program} {l : Launch} {e : Env} {s : State} {m : MethodId} {args : Array Value} {below : List Frame} {meth : Method} {c : Code} {D : va_G} {cA : Nat → ClassId} {N0 : Nat} {Sh : jS} {I : jI} {P : jP} {L : jL} (C : jC p (jRm 4 0 0) s m args meth c D cA N0 cX6_isText 2 RX6 4) (hr : meth.sig.returnType = (some .boolean)) {x : Nat} (hS : mS Sh x) (hP : mP P x) {t : Nat} {ch : Nat → Nat} (hE : tEnv I x t ch) : jJ p l e (jRm 4 0 0) s m args below meth c D cA N0 2 (MQ below (jQn D cA N0 Sh (jNi (fun v I' P' L' => (∃ b, v = bI b ∧ tText I x t ch b I') ∧ P' = P ∧ L' = L))) args s 0 0 (fun q => N0 ≤ q)) (fun _ => True) Sh I P L 0 0 0 [some (.ref x), none] [] := by
  have ht60 := hE.2.1
  refine jx_aload_n (pc := 0) C dX6_isText_0 rfl ?_
  refine jx_iconst (pc := 1) C dX6_isText_1 nc_0 ?_
  refine jx_putI (pc := 2) C kf_X6_127 rfl rfl rfl rfl hS.1 dX6_isText_2 ?_
  refine jx_aload_n (pc := 5) C dX6_isText_5 rfl ?_
  refine jx_iconst (pc := 6) C dX6_isText_6 nc_0 ?_
  refine jx_putI (pc := 7) C kf_X6_148 rfl rfl rfl rfl hS.1 dX6_isText_7 ?_
  refine jx_aload_n (pc := 10) C dX6_isText_10 rfl ?_
  refine jx_iconst (pc := 11) C dX6_isText_11 nc_0 ?_
  refine jx_putI (pc := 12) C kf_X6_130 rfl rfl rfl rfl hS.1 dX6_isText_12 ?_
  refine jx_iconst (pc := 15) C dX6_isText_15 nc_1 ?_
  refine jx_istore_n (pc := 16) C dX6_isText_16 (jset_1 jc_r) (by decide) ?_
  exact lp_X6_isText (I := I) C hr hS hP hE t 0 0 (fun _ _ => 0) ((mTx.fld (Or.inl rfl)).tr ((mTx.fld (Or.inr (Or.inr (Or.inr rfl)))).tr (mTx.fld (Or.inr (Or.inl rfl))))) (by rw [jst_eq, upd_n (by decide), jst_eq, upd_n (by decide), jst_eq]; exact upd_s) (by omega) (by rw [jst_eq, upd_n (by decide), jst_eq]; exact upd_s) (by omega) rfl (by omega) (fun i hi => absurd hi (by omega))
theorem t_X6_isText {l : Launch} {D : va_G} {cA : Nat → ClassId} {N0 : Nat} {Sh : jS} {I : jI} {P : jP} {L : jL} {x : Nat} (hS : mS Sh x) (hP : mP P x) {t : Nat} {ch : Nat → Nat} (hE : tEnv I x t ch) : jN l D cA N0 4 yX6_isText cX6_isText 2 (some .boolean) [.ref x] Sh I P L (jNi (fun v I' P' L' => (∃ b, v = bI b ∧ tText I x t ch b I') ∧ P' = P ∧ L' = L)) := jN_of (by decide) (Nat.le_of_ble_eq_true rfl) (fun _ _ _ _ _ _ _ _ C hr => b_X6_isText C hr hS hP hE)
set_option maxHeartbeats 4000000 in
theorem b_X6_firstError {p : Program} {l : Launch} {e : Env} {s : State} {m : MethodId} {args : Array Value} {below : List Frame} {meth : Method} {c : Code} {D : va_G} {cA : Nat → ClassId} {N0 : Nat} {Sh : jS} {I : jI} {P : jP} {L : jL} (C : jC p (jRm 5 0 0) s m args meth c D cA N0 cX6_firstError 2 RX6 5) (hr : meth.sig.returnType = (some .int)) {x : Nat} (hS : mS Sh x) (hP : mP P x) {t : Nat} {ch : Nat → Nat} (hE : tEnv I x t ch) : jJ p l e (jRm 5 0 0) s m args below meth c D cA N0 2 (MQ below (jQn D cA N0 Sh (jNi (fun v I' P' L' => v = nI (tErr ch t) ∧ mTx (jst I x 6 (nI 0)) x I' ∧ P' = P ∧ L' = L))) args s 0 0 (fun q => N0 ≤ q)) (fun _ => True) Sh I P L 0 0 0 [some (.ref x), none] [] := by
  have ht60 := hE.2.1
  refine jx_aload_n (pc := 0) C dX6_firstError_0 rfl ?_
  refine jx_iconst (pc := 1) C dX6_firstError_1 nc_0 ?_
  refine jx_putI (pc := 2) C kf_X6_28 rfl rfl rfl rfl hS.1 dX6_firstError_2 ?_
  refine jx_aload_n (pc := 5) C dX6_firstError_5 rfl ?_
  refine jx_calli (pc := 6) C (go_X6_160 C hS.1 (Nat.le_of_ble_eq_true rfl) dX6_firstError_6) (t_X6_isText hS hP ⟨(congrFun jst_eq 5).trans ((upd_n (by decide)).trans hE.1), hE.2.1, fun j hj => by rw [jst_ne (by omega)]; exact hE.2.2 j hj⟩) (by decide) (by decide) ⟨Nat.zero_le _, Nat.zero_le _⟩ (fun r6 I6 P6 L6 q6 => ?_)
  obtain ⟨⟨b6, rfl, z6⟩, rfl, rfl⟩ := q6
  obtain ⟨a1, fld, dg, g1, q, prev, h1, h2, h3, h4, h5, h6⟩ := z6
  refine jx_istore_n (pc := 9) C dX6_firstError_9 (jset_1 jc_r) (by decide) ?_
  refine jx_iload_n (pc := 10) C dX6_firstError_10 rfl ?_
  refine jx_if_ne (pc := 11) C (tgt := 28) dX6_firstError_11 (by decide) (fun c11 => ?_) (fun c11 => ?_)
  · refine jx_aload_n (pc := 28) C dX6_firstError_28 rfl ?_
    refine jx_getIv (pc := 29) C kf_X6_124 rfl hS.1 ((h3.2 5 (by decide) (by decide) (by decide) (by decide)).trans ((congrFun jst_eq 5).trans ((upd_n (by decide)).trans hE.1))) dX6_firstError_29 ?_
    exact jn_iret (pc := 32) C hr (⟨_, rfl, by
      first
        | exact congrArg nI (tErr_eq h1 h2 h9).symm
        | (have hb6 : b6 = true := Bool.of_not_eq_false (fun z => c11 (bI_eq0.mpr z))
           have h7 := (h5 hb6).1
           subst h7
           exact congrArg nI (tErr_eq h1 h2 (fun z => absurd z (Nat.lt_irrefl _))).symm)
        | (rw [bI_eq0] at c18
           have h7 : a1 = t := by have h70 := of_decide_eq_false c18; omega
           subst h7
           exact congrArg nI (tErr_eq h1 h2 (fun z => absurd z (Nat.lt_irrefl _))).symm), h3, rfl, rfl⟩) dX6_firstError_32
  · have hb6 : b6 = false := bI_eq0.mp (by first | exact c11 | exact Decidable.not_not.mp c11)
    subst hb6
    obtain ⟨h8, h9, h10⟩ := h6 rfl
    refine jx_aload_n (pc := 14) C dX6_firstError_14 rfl ?_
    refine jx_getIv (pc := 15) C kf_X6_130 rfl hS.1 h8 dX6_firstError_15 ?_
    refine jx_if_eq (pc := 18) C (tgt := 28) dX6_firstError_18 (by decide) (fun c18 => ?_) (fun c18 => ?_)
    · refine jx_aload_n (pc := 28) C dX6_firstError_28 rfl ?_
      refine jx_getIv (pc := 29) C kf_X6_124 rfl hS.1 ((h3.2 5 (by decide) (by decide) (by decide) (by decide)).trans ((congrFun jst_eq 5).trans ((upd_n (by decide)).trans hE.1))) dX6_firstError_29 ?_
      exact jn_iret (pc := 32) C hr (⟨_, rfl, by
        first
          | exact congrArg nI (tErr_eq h1 h2 h9).symm
          | (have hb6 : b6 = true := Bool.of_not_eq_false (fun z => c11 (bI_eq0.mpr z))
             have h7 := (h5 hb6).1
             subst h7
             exact congrArg nI (tErr_eq h1 h2 (fun z => absurd z (Nat.lt_irrefl _))).symm)
          | (rw [bI_eq0] at c18
             have h7 : a1 = t := by have h70 := of_decide_eq_false c18; omega
             subst h7
             exact congrArg nI (tErr_eq h1 h2 (fun z => absurd z (Nat.lt_irrefl _))).symm), h3, rfl, rfl⟩) dX6_firstError_32
    · refine jx_aload_n (pc := 21) C dX6_firstError_21 rfl ?_
      refine jx_getIv (pc := 22) C kf_X6_127 rfl hS.1 h4 dX6_firstError_22 ?_
      refine jx_goto (pc := 25) C (tgt := 32) dX6_firstError_25 (by decide) ?_
      exact jn_iret (pc := 32) C hr (⟨_, rfl, by
        first
          | exact congrArg nI (tErr_eq h1 h2 h9).symm
          | (have hb6 : b6 = true := Bool.of_not_eq_false (fun z => c11 (bI_eq0.mpr z))
             have h7 := (h5 hb6).1
             subst h7
             exact congrArg nI (tErr_eq h1 h2 (fun z => absurd z (Nat.lt_irrefl _))).symm)
          | (rw [bI_eq0] at c18
             have h7 : a1 = t := by have h70 := of_decide_eq_false c18; omega
             subst h7
             exact congrArg nI (tErr_eq h1 h2 (fun z => absurd z (Nat.lt_irrefl _))).symm), h3, rfl, rfl⟩) dX6_firstError_32
theorem t_X6_firstError {l : Launch} {D : va_G} {cA : Nat → ClassId} {N0 : Nat} {Sh : jS} {I : jI} {P : jP} {L : jL} {x : Nat} (hS : mS Sh x) (hP : mP P x) {t : Nat} {ch : Nat → Nat} (hE : tEnv I x t ch) : jN l D cA N0 5 yX6_firstError cX6_firstError 2 (some .int) [.ref x] Sh I P L (jNi (fun v I' P' L' => v = nI (tErr ch t) ∧ mTx (jst I x 6 (nI 0)) x I' ∧ P' = P ∧ L' = L)) := jN_of (by decide) (Nat.le_of_ble_eq_true rfl) (fun _ _ _ _ _ _ _ _ C hr => b_X6_firstError C hr hS hP hE)
set_option maxHeartbeats 4000000 in
theorem b_X6_clearBuffer {p : Program} {l : Launch} {e : Env} {s : State} {m : MethodId} {args : Array Value} {below : List Frame} {meth : Method} {c : Code} {D : va_G} {cA : Nat → ClassId} {N0 : Nat} {Sh : jS} {I : jI} {P : jP} {L : jL} (C : jC p (jRm 0 0 0) s m args meth c D cA N0 cX6_clearBuffer 2 RX6 0) (hr : meth.sig.returnType = (some .int)) {x n0 : Nat} (hs : Sh x = some (6, n0)) : jJ p l e (jRm 0 0 0) s m args below meth c D cA N0 2 (MQ below (jQn D cA N0 Sh (jD (some (.int (I x 5))) (jst (jst I x 6 (nI 0)) x 5 (nI 0)) P L)) args s 0 0 (fun q => N0 ≤ q)) (fun _ => True) Sh I P L 0 0 0 [some (.ref x), none] [] := by
  refine jx_aload_n (pc := 0) C dX6_clearBuffer_0 rfl ?_
  refine jx_iconst (pc := 1) C dX6_clearBuffer_1 nc_0 ?_
  refine jx_putI (pc := 2) C kf_X6_28 rfl rfl rfl rfl hs dX6_clearBuffer_2 ?_
  refine jx_aload_n (pc := 5) C dX6_clearBuffer_5 rfl ?_
  refine jx_getIv (pc := 6) C kf_X6_124 rfl hs ((congrFun jst_eq 5).trans (upd_n (by decide))) dX6_clearBuffer_6 ?_
  refine jx_istore_n (pc := 9) C dX6_clearBuffer_9 (jset_1 jc_r) (by decide) ?_
  refine jx_aload_n (pc := 10) C dX6_clearBuffer_10 rfl ?_
  refine jx_iconst (pc := 11) C dX6_clearBuffer_11 nc_0 ?_
  refine jx_putI (pc := 12) C kf_X6_124 rfl rfl rfl rfl hs dX6_clearBuffer_12 ?_
  refine jx_iload_n (pc := 15) C dX6_clearBuffer_15 rfl ?_
  exact jn_iret (pc := 16) C hr (jD_r) dX6_clearBuffer_16
theorem t_X6_clearBuffer {l : Launch} {D : va_G} {cA : Nat → ClassId} {N0 : Nat} {Sh : jS} {I : jI} {P : jP} {L : jL} {x n0 : Nat} (hs : Sh x = some (6, n0)) : jN l D cA N0 0 yX6_clearBuffer cX6_clearBuffer 2 (some .int) [.ref x] Sh I P L (jD (some (.int (I x 5))) (jst (jst I x 6 (nI 0)) x 5 (nI 0)) P L) := jN_of (by decide) (Nat.le_of_ble_eq_true rfl) (fun _ _ _ _ _ _ _ _ C hr => b_X6_clearBuffer C hr hs)
def mAp (I : jI) (P : jP) (L : jL) (x t : Nat) (cv : Int32) : Option Value → jI → jP → jL → Prop := fun v I' P' L' => P' = P ∧ L' = L ∧ if nI 33 ≤ cv ∧ cv ≤ nI 126 then if t = 60 then v = some (.int (nI 0)) ∧ I' = jst (jst I x 6 (nI 0)) x 6 (nI 2) else v = some (.int (nI (t + 1))) ∧ I' = jst (jst (jst I x 6 (nI 0)) (x + 4) t cv) x 5 (nI (t + 1)) else v = some (.int (nI 0)) ∧ I' = jst (jst I x 6 (nI 0)) x 6 (nI 1)
set_option maxHeartbeats 4000000 in
theorem b_X6_append {p : Program} {l : Launch} {e : Env} {s : State} {m : MethodId} {args : Array Value} {below : List Frame} {meth : Method} {c : Code} {D : va_G} {cA : Nat → ClassId} {N0 : Nat} {Sh : jS} {I : jI} {P : jP} {L : jL} (C : jC p (jRm 1 0 0) s m args meth c D cA N0 cX6_append 2 RX6 1) (hr : meth.sig.returnType = (some .int)) {x : Nat} (hS : mS Sh x) (hP : mP P x) {t : Nat} (h5 : I x 5 = nI t) (ht : t ≤ 60) {cv : Int32} : jJ p l e (jRm 1 0 0) s m args below meth c D cA N0 2 (MQ below (jQn D cA N0 Sh (mAp I P L x t cv)) args s 0 0 (fun q => N0 ≤ q)) (fun _ => True) Sh I P L 0 0 0 [some (.ref x), some (.int cv)] [] := by
  refine jx_aload_n (pc := 0) C dX6_append_0 rfl ?_
  refine jx_iconst (pc := 1) C dX6_append_1 nc_0 ?_
  refine jx_putI (pc := 2) C kf_X6_28 rfl rfl rfl rfl hS.1 dX6_append_2 ?_
  have h5a : jst I x 6 (nI 0) x 5 = nI t := (congrFun jst_eq 5).trans ((upd_n (by decide)).trans h5)
  refine jx_iload_n (pc := 5) C dX6_append_5 rfl ?_
  refine jx_bipush (pc := 6) C dX6_append_6 nb_33 ?_
  refine jx_bipush (pc := 8) C dX6_append_8 nb_126 ?_
  refine jx_callD (pc := 10) C (go_X6_32 C  (Nat.le_of_ble_eq_true rfl) dX6_append_10) t_X6_in (by decide) (by decide) ⟨Nat.zero_le _, Nat.zero_le _⟩ ?_
  refine jx_if_ne (pc := 13) C (tgt := 22) dX6_append_13 (by decide) (fun c13 => ?_) (fun c13 => ?_)
  · rw [bI_0, decide_eq_false_iff_not, Decidable.not_not] at c13
    refine jx_aload_n (pc := 22) C dX6_append_22 rfl ?_
    refine jx_getIv (pc := 23) C kf_X6_124 rfl hS.1 h5a dX6_append_23 ?_
    refine jx_bipush (pc := 26) C dX6_append_26 nb_60 ?_
    refine jx_icmp_ne (pc := 28) C (tgt := 37) dX6_append_28 (by decide) (fun c28 => ?_) (fun c28 => ?_)
    · rw [nI_eq (by omega) (by omega)] at c28
      refine jx_aload_n (pc := 37) C dX6_append_37 rfl ?_
      refine jx_getP (pc := 38) C kf_X6_19 rfl hS.1 hP.2.2.2.1 dX6_append_38 ?_
      refine jx_aload_n (pc := 41) C dX6_append_41 rfl ?_
      refine jx_getIv (pc := 42) C kf_X6_124 rfl hS.1 h5a dX6_append_42 ?_
      refine jx_iload_n (pc := 45) C dX6_append_45 rfl ?_
      refine jx_iast (pc := 46) C hS.2.2.2.2.1 (by omega) (by decide) dX6_append_46 ?_
      refine jx_aload_n (pc := 47) C dX6_append_47 rfl ?_
      refine jx_dup (pc := 48) C dX6_append_48 rfl ?_
      refine jx_getIv (pc := 49) C kf_X6_124 rfl hS.1 ((congrFun (jst_ne (by omega)) 5).trans h5a) dX6_append_49 ?_
      refine jx_iconst (pc := 52) C dX6_append_52 nc_1 ?_
      refine jx_iaddN (pc := 53) C dX6_append_53 ?_
      refine jx_putI (pc := 54) C kf_X6_124 rfl rfl rfl rfl hS.1 dX6_append_54 ?_
      refine jx_aload_n (pc := 57) C dX6_append_57 rfl ?_
      refine jx_getIv (pc := 58) C kf_X6_124 rfl hS.1 ((congrFun jst_eq 5).trans upd_s) dX6_append_58 ?_
      exact jn_iret (pc := 61) C hr (⟨rfl, rfl, by rw [if_pos c13, if_neg c28]; exact ⟨rfl, rfl⟩⟩) dX6_append_61
    · rw [nI_eq (by omega) (by omega)] at c28
      refine jx_aload_n (pc := 31) C dX6_append_31 rfl ?_
      refine jx_iconst (pc := 32) C dX6_append_32 nc_2 ?_
      refine jx_callD (pc := 33) C (go_X6_39 C hS.1 (Nat.le_of_ble_eq_true rfl) dX6_append_33) (t_X6_fails hS.1) (by decide) (by decide) ⟨Nat.zero_le _, Nat.zero_le _⟩ ?_
      exact jn_iret (pc := 36) C hr (⟨rfl, rfl, by rw [if_pos c13, if_pos c28]; exact ⟨rfl, rfl⟩⟩) dX6_append_36
  · rw [bI_0, decide_eq_false_iff_not] at c13
    refine jx_aload_n (pc := 16) C dX6_append_16 rfl ?_
    refine jx_iconst (pc := 17) C dX6_append_17 nc_1 ?_
    refine jx_callD (pc := 18) C (go_X6_39 C hS.1 (Nat.le_of_ble_eq_true rfl) dX6_append_18) (t_X6_fails hS.1) (by decide) (by decide) ⟨Nat.zero_le _, Nat.zero_le _⟩ ?_
    exact jn_iret (pc := 21) C hr (⟨rfl, rfl, by rw [if_neg c13]; exact ⟨rfl, rfl⟩⟩) dX6_append_21
theorem t_X6_append {l : Launch} {D : va_G} {cA : Nat → ClassId} {N0 : Nat} {Sh : jS} {I : jI} {P : jP} {L : jL} {x : Nat} (hS : mS Sh x) (hP : mP P x) {t : Nat} (h5 : I x 5 = nI t) (ht : t ≤ 60) {cv : Int32} : jN l D cA N0 1 yX6_append cX6_append 2 (some .int) [.ref x, .int cv] Sh I P L (mAp I P L x t cv) := jN_of (by decide) (Nat.le_of_ble_eq_true rfl) (fun _ _ _ _ _ _ _ _ C hr => b_X6_append C hr hS hP h5 ht)
