def sput (f : sF) (rows : Nat → Nat → Nat) : Nat → sF | 0 => f | n + 1 => scomes (sput f rows n) (nI (rows n 2)) (nI (rows n 1)) (nI (rows n 0)) (nI (rows n 3)) (nI (rows n 4))
def stext (ch : Nat → Nat) (t : Nat) : Option (Nat × (Nat → Nat → Nat)) := match tRun ch tS0 t with | none => none | some s => if tDone s = true then some (s.2.2.2.1 + 1, fun i => if i = s.2.2.2.1 then s.2.2.1 else s.2.2.2.2 i) else none
def sall (f : sF) (ch : Nat → Nat) (t : Nat) : Nat × Int32 × sF := match stext ch t with | none => (1, nI 0, f) | some u => if smany f + u.1 ≤ 10 then (0, (sput f u.2 u.1) 5, sput f u.2 u.1) else (2, nI 0, f)
theorem stext_f {ch : Nat → Nat} {t a : Nat} {s : tS} (h : tRun ch tS0 a = some s) (hat : a ≤ t) (h1 : a < t → tStep s (ch a) = none) (h2 : a = t → tDone s = false) : stext ch t = none := by
  unfold stext
  rcases Nat.lt_or_ge a t with h3 | h3
  · have h4 := tRun_none ((tRun_s h).trans (h1 h3)) (t - (a + 1))
    rw [show a + 1 + (t - (a + 1)) = t by omega] at h4
    rw [h4]
  · obtain rfl : a = t := by omega
    rw [h]
    show (if tDone s = true then _ else none) = none
    rw [h2 rfl, if_neg (by decide)]
theorem stext_t {ch : Nat → Nat} {t fld dg q : Nat} {g : Nat → Nat} {prev : Nat → Nat → Nat} (h : tRun ch tS0 t = some (fld, dg, g, q, prev)) (h2 : tDone (fld, dg, g, q, prev) = true) : stext ch t = some (q + 1, fun i => if i = q then g else prev i) := by
  unfold stext
  rw [h]
  exact if_pos h2
theorem sput_5 {f : sF} {rows : Nat → Nat → Nat} (h : f 5 = nI (smany f)) : ∀ {n}, smany f + n ≤ 100 → (sput f rows n) 5 = nI (smany f + n) := by
  intro n
  induction n with
  | zero => intro _; exact h
  | succ n ih =>
    intro hn
    show (scomes (sput f rows n) (nI (rows n 2)) (nI (rows n 1)) (nI (rows n 0)) (nI (rows n 3)) (nI (rows n 4))) 5 = _
    unfold scomes
    rw [if_neg (by omega), if_neg (by omega), upd_n (by decide), upd_s, ih (by omega), nI_add]
    rfl
theorem sput_m {f : sF} {rows : Nat → Nat → Nat} (h : f 5 = nI (smany f)) {n : Nat} (hn : smany f + n ≤ 100) : smany (sput f rows n) = smany f + n := by
  show ((sput f rows n) 5).toNatClampNeg = _
  rw [sput_5 h hn]
  exact nI_clamp (by omega)
def mTk (I : jI) (P : jP) (L : jL) (x : Nat) (S : Nat × Int32 × sF) : Option Value → jI → jP → jL → Prop := fun v I' P' L' => P' = P ∧ L' = L ∧ ∃ r, v = some (.int r) ∧ I' x 6 = nI S.1 ∧ (∀ b, b < x ∨ x + 6 < b → I' b = I b) ∧ I' (x + 4) = I (x + 4) ∧ (S.1 = 0 → r = S.2.1 ∧ I' (x + 1) = S.2.2 ∧ mPush I x I' ∧ I' x 5 = nI 0) ∧ (S.1 ≠ 0 → I' (x + 1) = I (x + 1) ∧ I' x 3 = I x 3 ∧ I' (x + 3) = I (x + 3) ∧ I' x 5 = I x 5)
theorem mTk_fail {I I1 : jI} {P : jP} {L : jL} {x k : Nat} {S : Nat × Int32 × sF} (hm : mTx (jst I x 6 (nI 0)) x I1) (e : S.1 = k) (hk : k ≠ 0) : mTk I P L x S (some (.int (nI 0))) (jst I1 x 6 (nI k)) P L := by
  have h2 : ∀ j, j ≠ 6 → j ≠ 7 → j ≠ 8 → j ≠ 9 → j ≠ 11 → jst I1 x 6 (nI k) x j = I x j := fun j h6 h7 h8 h9 h11 => by rw [jst_eq, upd_n h6, hm.2 j h7 h8 h9 h11, jst_eq, upd_n h6]
  have h3 : ∀ b, b ≠ x → b ≠ x + 5 → jst I1 x 6 (nI k) b = I b := fun b h1 h5 => by rw [jst_ne h1, hm.1 b h1 h5, jst_ne h1]
  exact ⟨rfl, rfl, _, rfl, by rw [jst_eq, upd_s, e], fun b hb => h3 b (by omega) (by omega), h3 _ (by omega) (by omega), fun h => absurd (e.symm.trans h) hk, fun _ => ⟨h3 _ (by omega) (by omega), h2 3 (by decide) (by decide) (by decide) (by decide) (by decide), h3 _ (by omega) (by omega), h2 5 (by decide) (by decide) (by decide) (by decide) (by decide)⟩⟩
theorem mTk_ok {I I1 I2 : jI} {P : jP} {L : jL} {x : Nat} {S : Nat × Int32 × sF} {r : Int32} {g : sF} (hm : mTx (jst I x 6 (nI 0)) x I1) (hs : mSv I1 x I2) (e : S = (0, r, g)) : mTk I P L x S (some (.int r)) (va_up (jst I2 x 5 (nI 0)) (x + 1) g) P L := by
  obtain ⟨h1, h2, h4, h6, hb, hp⟩ := hs
  subst e
  have h2 : ∀ j, j ≠ 6 → j ≠ 7 → j ≠ 8 → j ≠ 9 → j ≠ 11 → I1 x j = I x j := fun j h6 h7 h8 h9 h11 => by rw [hm.2 j h7 h8 h9 h11, jst_eq, upd_n h6]
  have h3 : ∀ b, b ≠ x → b ≠ x + 5 → I1 b = I b := fun b h1 h5 => by rw [hm.1 b h1 h5, jst_ne h1]
  obtain ⟨q, p1, p2, p3, p4, p5⟩ := hp
  have h33 : I1 x 3 = I x 3 := h2 3 (by decide) (by decide) (by decide) (by decide) (by decide)
  refine ⟨rfl, rfl, _, rfl, ?_, fun b hb2 => ?_, ?_, fun _ => ⟨rfl, va_up_s, ⟨q, h33.symm.trans p1, p2, ?_, fun k hk => ?_, fun i hi k hk => ?_⟩, ?_⟩, fun h => absurd rfl h⟩
  · rw [va_up_n (by omega), jst_eq, upd_n (by decide), h6 6 (by decide), hm.2 6 (by decide) (by decide) (by decide) (by decide), jst_eq, upd_s]
  · rw [va_up_n (by omega), jst_ne (by omega), hb b (by omega), h3 b (by omega) (by omega)]
  · rw [va_up_n (by omega), jst_ne (by omega), h4, h3 _ (by omega) (by omega)]
  · rw [va_up_n (by omega), jst_eq, upd_n (by decide)]; exact p3
  · rw [va_up_n (by omega), jst_ne (by omega), p4 k hk, h3 _ (by omega) (by omega)]
  · rw [va_up_n (by omega), jst_ne (by omega), p5 i hi k hk, h3 _ (by omega) (by omega)]
  · rw [va_up_n (by omega), jst_eq, upd_s]
set_option maxHeartbeats 4000000 in
theorem lp_X6_takeAll {p : Program} {l : Launch} {e : Env} {s : State} {m : MethodId} {args : Array Value} {below : List Frame} {meth : Method} {c : Code} {D : va_G} {cA : Nat → ClassId} {N0 : Nat} {Sh : jS} {I : jI} {P : jP} {L : jL} {Qf : State → Prop} (C : jC p (jRm 5 0 0) s m args meth c D cA N0 cX6_takeAll 2 RX6 5) {x : Nat} (hS : mS Sh x) (hP : mP P x) {f : sF} {rows : Nat → Nat → Nat} {n : Nat} (hn : I x 11 = nI n) (hm : f 5 = nI (smany f)) (h10 : smany f + n ≤ 10) (hT : ∀ i, i < n → ∀ k, k < 5 → I (x + 5) (5 * i + k) = nI (rows i k)) (hx : jJ p l e (jRm 5 0 0) s m args below meth c D cA N0 2 Qf (fun _ => True) Sh (va_up I (x + 1) (sput f rows n)) P L 0 0 124 [some (.ref x), some (.int (nI n))] [.int ((sput f rows n) 5)]) : ∀ k i, i + k = n → jJ p l e (jRm 5 0 0) s m args below meth c D cA N0 2 Qf (fun _ => True) Sh (va_up I (x + 1) (sput f rows i)) P L 0 0 51 [some (.ref x), some (.int (nI i))] [] := by
  intro k
  have hT0 : ∀ i, i < n → I (x + 5) (5 * i) = nI (rows i 0) := fun i hi => hT i hi 0 (by decide)
  induction k with
  | zero =>
    intro i hik
    obtain rfl : i = n := by omega
    refine jx_iload_n (pc := 51) C dX6_takeAll_51 rfl ?_
    refine jx_aload_n (pc := 52) C dX6_takeAll_52 rfl ?_
    refine jx_getIv (pc := 53) C kf_X6_148 rfl hS.1 ((congrFun (va_up_n (by omega)) 11).trans hn) dX6_takeAll_53 ?_
    refine jx_icmp_ge (pc := 56) C (tgt := 118) dX6_takeAll_56 (by decide) (fun c56 => ?_) (fun c56 => (by rw [nI_leI (by omega) (by omega)] at c56; exfalso; omega))
    rw [nI_leI (by omega) (by omega)] at c56
    refine jx_aload_n (pc := 118) C dX6_takeAll_118 rfl ?_
    refine jx_getP (pc := 119) C kf_X6_7 rfl hS.1 hP.1 dX6_takeAll_119 ?_
    refine jx_iconst (pc := 122) C dX6_takeAll_122 nc_5 ?_
    refine jx_ialdv (pc := 123) C hS.2.1 (by omega) (by decide) (congrFun va_up_s 5) dX6_takeAll_123 ?_
    exact hx
  | succ k ih =>
    intro i hik
    refine jx_iload_n (pc := 51) C dX6_takeAll_51 rfl ?_
    refine jx_aload_n (pc := 52) C dX6_takeAll_52 rfl ?_
    refine jx_getIv (pc := 53) C kf_X6_148 rfl hS.1 ((congrFun (va_up_n (by omega)) 11).trans hn) dX6_takeAll_53 ?_
    refine jx_icmp_ge (pc := 56) C (tgt := 118) dX6_takeAll_56 (by decide) (fun c56 => (by rw [nI_leI (by omega) (by omega)] at c56; exfalso; omega)) (fun c56 => ?_)
    rw [nI_leI (by omega) (by omega)] at c56
    have hi : i < n := by omega
    refine jx_aload_n (pc := 59) C dX6_takeAll_59 rfl ?_
    refine jx_aload_n (pc := 60) C dX6_takeAll_60 rfl ?_
    refine jx_getP (pc := 61) C kf_X6_22 rfl hS.1 hP.2.2.2.2.1 dX6_takeAll_61 ?_
    refine jx_iconst (pc := 64) C dX6_takeAll_64 nc_5 ?_
    refine jx_iload_n (pc := 65) C dX6_takeAll_65 rfl ?_
    refine jx_imulN (pc := 66) C dX6_takeAll_66 ?_
    refine jx_iconst (pc := 67) C dX6_takeAll_67 nc_2 ?_
    refine jx_iaddN (pc := 68) C dX6_takeAll_68 ?_
    refine jx_ialdv (pc := 69) C hS.2.2.2.2.2.1 (by omega) (by decide) ((congrFun (va_up_n (by omega)) _).trans (hT i hi 2 (by decide))) dX6_takeAll_69 ?_
    refine jx_aload_n (pc := 70) C dX6_takeAll_70 rfl ?_
    refine jx_getP (pc := 71) C kf_X6_22 rfl hS.1 hP.2.2.2.2.1 dX6_takeAll_71 ?_
    refine jx_iconst (pc := 74) C dX6_takeAll_74 nc_5 ?_
    refine jx_iload_n (pc := 75) C dX6_takeAll_75 rfl ?_
    refine jx_imulN (pc := 76) C dX6_takeAll_76 ?_
    refine jx_iconst (pc := 77) C dX6_takeAll_77 nc_1 ?_
    refine jx_iaddN (pc := 78) C dX6_takeAll_78 ?_
    refine jx_ialdv (pc := 79) C hS.2.2.2.2.2.1 (by omega) (by decide) ((congrFun (va_up_n (by omega)) _).trans (hT i hi 1 (by decide))) dX6_takeAll_79 ?_
    refine jx_aload_n (pc := 80) C dX6_takeAll_80 rfl ?_
    refine jx_getP (pc := 81) C kf_X6_22 rfl hS.1 hP.2.2.2.2.1 dX6_takeAll_81 ?_
    refine jx_iconst (pc := 84) C dX6_takeAll_84 nc_5 ?_
    refine jx_iload_n (pc := 85) C dX6_takeAll_85 rfl ?_
    refine jx_imulN (pc := 86) C dX6_takeAll_86 ?_
    refine jx_ialdv (pc := 87) C hS.2.2.2.2.2.1 (by omega) (by decide) ((congrFun (va_up_n (by omega)) _).trans (hT0 i hi)) dX6_takeAll_87 ?_
    refine jx_aload_n (pc := 88) C dX6_takeAll_88 rfl ?_
    refine jx_getP (pc := 89) C kf_X6_22 rfl hS.1 hP.2.2.2.2.1 dX6_takeAll_89 ?_
    refine jx_iconst (pc := 92) C dX6_takeAll_92 nc_5 ?_
    refine jx_iload_n (pc := 93) C dX6_takeAll_93 rfl ?_
    refine jx_imulN (pc := 94) C dX6_takeAll_94 ?_
    refine jx_iconst (pc := 95) C dX6_takeAll_95 nc_3 ?_
    refine jx_iaddN (pc := 96) C dX6_takeAll_96 ?_
    refine jx_ialdv (pc := 97) C hS.2.2.2.2.2.1 (by omega) (by decide) ((congrFun (va_up_n (by omega)) _).trans (hT i hi 3 (by decide))) dX6_takeAll_97 ?_
    refine jx_aload_n (pc := 98) C dX6_takeAll_98 rfl ?_
    refine jx_getP (pc := 99) C kf_X6_22 rfl hS.1 hP.2.2.2.2.1 dX6_takeAll_99 ?_
    refine jx_iconst (pc := 102) C dX6_takeAll_102 nc_5 ?_
    refine jx_iload_n (pc := 103) C dX6_takeAll_103 rfl ?_
    refine jx_imulN (pc := 104) C dX6_takeAll_104 ?_
    refine jx_iconst (pc := 105) C dX6_takeAll_105 nc_4 ?_
    refine jx_iaddN (pc := 106) C dX6_takeAll_106 ?_
    refine jx_ialdv (pc := 107) C hS.2.2.2.2.2.1 (by omega) (by decide) ((congrFun (va_up_n (by omega)) _).trans (hT i hi 4 (by decide))) dX6_takeAll_107 ?_
    refine jx_callD (pc := 108) C (go_X6_114 C hS.1 (Nat.le_of_ble_eq_true rfl) dX6_takeAll_108) (t_X6_comes hS hP (by rw [va_up_s]; exact (sput_5 hm (by omega)).trans (congrArg nI (sput_m hm (by omega)).symm)) (by rw [va_up_s, sput_m hm (by omega)]; omega)) (by decide) (by decide) ⟨Nat.zero_le _, Nat.zero_le _⟩ ?_
    rw [va_up_u, va_up_s]
    refine jx_pop (pc := 111) C dX6_takeAll_111 rfl ?_
    refine jx_iincN (pc := 112) C dX6_takeAll_112 rfl (jset_1 jc_r) (by decide) ?_
    refine jx_goto (pc := 115) C (tgt := 51) dX6_takeAll_115 (by decide) ?_
    exact ih (i + 1) (by omega)
set_option maxHeartbeats 4000000 in
theorem b_X6_takeAll {p : Program} {l : Launch} {e : Env} {s : State} {m : MethodId} {args : Array Value} {below : List Frame} {meth : Method} {c : Code} {D : va_G} {cA : Nat → ClassId} {N0 : Nat} {Sh : jS} {I : jI} {P : jP} {L : jL} (C : jC p (jRm 5 0 0) s m args meth c D cA N0 cX6_takeAll 2 RX6 5) (hr : meth.sig.returnType = (some .int)) {x : Nat} (hS : mS Sh x) (hP : mP P x) {t : Nat} {ch : Nat → Nat} (hE : tEnv I x t ch) {q0 : Nat} (hq0 : I x 3 = nI q0) (hqq : q0 ≤ 6) (hok : sOK (I (x + 1))) : jJ p l e (jRm 5 0 0) s m args below meth c D cA N0 2 (MQ below (jQn D cA N0 Sh (mTk I P L x (sall (I (x + 1)) ch t))) args s 0 0 (fun q => N0 ≤ q)) (fun _ => True) Sh I P L 0 0 0 [some (.ref x), none] [] := by
  have ht60 := hE.2.1
  refine jx_aload_n (pc := 0) C dX6_takeAll_0 rfl ?_
  refine jx_iconst (pc := 1) C dX6_takeAll_1 nc_0 ?_
  refine jx_putI (pc := 2) C kf_X6_28 rfl rfl rfl rfl hS.1 dX6_takeAll_2 ?_
  refine jx_aload_n (pc := 5) C dX6_takeAll_5 rfl ?_
  refine jx_calli (pc := 6) C (go_X6_160 C hS.1 (Nat.le_of_ble_eq_true rfl) dX6_takeAll_6) (t_X6_isText hS hP ⟨(congrFun jst_eq 5).trans ((upd_n (by decide)).trans hE.1), hE.2.1, fun j hj => by rw [jst_ne (by omega)]; exact hE.2.2 j hj⟩) (by decide) (by decide) ⟨Nat.zero_le _, Nat.zero_le _⟩ (fun r6 I6 P6 L6 q6 => ?_)
  obtain ⟨⟨b6, rfl, z6⟩, rfl, rfl⟩ := q6
  obtain ⟨a1, fld, dg, g1, q, prev, h1, h2, h3, h4, h5, h6⟩ := z6
  have hnow : I6 (x + 1) = I (x + 1) := (h3.1 _ (by omega) (by omega)).trans (jst_ne (by omega))
  refine jx_if_ne (pc := 9) C (tgt := 18) dX6_takeAll_9 (by decide) (fun c9 => ?_) (fun c9 => ?_)
  · have hb6 : b6 = true := Bool.of_not_eq_false (fun z => c9 (bI_eq0.mpr z))
    obtain ⟨p0, p1, p2, p3, p4, p5⟩ := h5 hb6
    subst p0
    have hst := stext_t h1 p1
    have hmm := hok.2.1
    refine jx_aload_n (pc := 18) C dX6_takeAll_18 rfl ?_
    refine jx_getP (pc := 19) C kf_X6_7 rfl hS.1 hP.1 dX6_takeAll_19 ?_
    refine jx_iconst (pc := 22) C dX6_takeAll_22 nc_5 ?_
    refine jx_ialdv (pc := 23) C hS.2.1 (by omega) (by decide) ((congrFun hnow 5).trans hok.1) dX6_takeAll_23 ?_
    refine jx_aload_n (pc := 24) C dX6_takeAll_24 rfl ?_
    refine jx_getIv (pc := 25) C kf_X6_148 rfl hS.1 p2 dX6_takeAll_25 ?_
    refine jx_iaddN (pc := 28) C dX6_takeAll_28 ?_
    refine jx_bipush (pc := 29) C dX6_takeAll_29 nb_10 ?_
    refine jx_icmp_le (pc := 31) C (tgt := 40) dX6_takeAll_31 (by decide) (fun c31 => ?_) (fun c31 => ?_)
    · rw [nI_leI (by omega) (by omega)] at c31
      refine jx_aload_n (pc := 40) C dX6_takeAll_40 rfl ?_
      refine jx_callv (pc := 41) C (go_X6_107 C hS.1 (Nat.le_of_ble_eq_true rfl) dX6_takeAll_41) (t_X6_saves hS hP ((h3.2 3 (by decide) (by decide) (by decide) (by decide)).trans ((congrFun jst_eq 3).trans ((upd_n (by decide)).trans hq0))) hqq) (by decide) (by decide) ⟨Nat.zero_le _, Nat.zero_le _⟩ (fun I41 P41 L41 q41 => ?_)
      obtain ⟨hsv, rfl, rfl⟩ := q41
      refine jx_aload_n (pc := 44) C dX6_takeAll_44 rfl ?_
      refine jx_iconst (pc := 45) C dX6_takeAll_45 nc_0 ?_
      refine jx_putI (pc := 46) C kf_X6_124 rfl rfl rfl rfl hS.1 dX6_takeAll_46 ?_
      refine jx_iconst (pc := 49) C dX6_takeAll_49 nc_0 ?_
      refine jx_istore_n (pc := 50) C dX6_takeAll_50 (jset_1 jc_r) (by decide) ?_
      have hcc : va_up (jst I41 x 5 (nI 0)) (x + 1) (sput (I (x + 1)) (fun i => if i = q then g1 else prev i) 0) = jst I41 x 5 (nI 0) := by
        have h0 : jst I41 x 5 (nI 0) (x + 1) = I (x + 1) := by rw [jst_ne (by omega), hsv.1, hnow]
        show va_up (jst I41 x 5 (nI 0)) (x + 1) (I (x + 1)) = _
        rw [← h0]; exact va_up_id
      rw [← hcc]
      refine lp_X6_takeAll (I := jst I41 x 5 (nI 0)) C hS hP (f := I (x + 1)) (n := q + 1) (by rw [jst_eq, upd_n (by decide), hsv.2.2.2.1 11 (by decide)]; exact p2) hok.1 (by omega) (fun i hi k hk => ?_) ?_ (q + 1) 0 (by omega)
      · rw [jst_ne (by omega), hsv.2.2.2.2.1 _ (by omega)]
        by_cases hiq : i = q
        · subst hiq; rw [if_pos rfl]; exact p5 k hk
        · rw [if_neg hiq]; exact p4 i (by omega) k hk
      · exact jn_iret (pc := 124) C hr (mTk_ok h3 hsv (by unfold sall; rw [hst]; exact if_pos (by show smany (I (x + 1)) + (q + 1) ≤ 10; omega))) dX6_takeAll_124
    · rw [nI_leI (by omega) (by omega)] at c31
      refine jx_aload_n (pc := 34) C dX6_takeAll_34 rfl ?_
      refine jx_iconst (pc := 35) C dX6_takeAll_35 nc_2 ?_
      refine jx_callD (pc := 36) C (go_X6_39 C hS.1 (Nat.le_of_ble_eq_true rfl) dX6_takeAll_36) (t_X6_fails hS.1) (by decide) (by decide) ⟨Nat.zero_le _, Nat.zero_le _⟩ ?_
      exact jn_iret (pc := 39) C hr (mTk_fail h3 (by unfold sall; rw [hst]; exact congrArg Prod.fst (if_neg (by show ¬ smany (I (x + 1)) + (q + 1) ≤ 10; omega))) (by decide)) dX6_takeAll_39
  · refine jx_aload_n (pc := 12) C dX6_takeAll_12 rfl ?_
    refine jx_iconst (pc := 13) C dX6_takeAll_13 nc_1 ?_
    refine jx_callD (pc := 14) C (go_X6_39 C hS.1 (Nat.le_of_ble_eq_true rfl) dX6_takeAll_14) (t_X6_fails hS.1) (by decide) (by decide) ⟨Nat.zero_le _, Nat.zero_le _⟩ ?_
    exact jn_iret (pc := 17) C hr (by
      have hb6 : b6 = false := bI_eq0.mp (by first | exact c9 | exact Decidable.not_not.mp c9)
      obtain ⟨_, p1, p2⟩ := h6 hb6
      have hst := stext_f h1 h2 p1 p2
      exact mTk_fail h3 (by unfold sall; rw [hst]) (by decide)) dX6_takeAll_17
theorem t_X6_takeAll {l : Launch} {D : va_G} {cA : Nat → ClassId} {N0 : Nat} {Sh : jS} {I : jI} {P : jP} {L : jL} {x : Nat} (hS : mS Sh x) (hP : mP P x) {t : Nat} {ch : Nat → Nat} (hE : tEnv I x t ch) {q0 : Nat} (hq0 : I x 3 = nI q0) (hqq : q0 ≤ 6) (hok : sOK (I (x + 1))) : jN l D cA N0 5 yX6_takeAll cX6_takeAll 2 (some .int) [.ref x] Sh I P L (mTk I P L x (sall (I (x + 1)) ch t)) := jN_of (by decide) (Nat.le_of_ble_eq_true rfl) (fun _ _ _ _ _ _ _ _ C hr => b_X6_takeAll C hr hS hP hE hq0 hqq hok)
