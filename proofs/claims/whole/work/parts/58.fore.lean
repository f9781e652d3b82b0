set_option maxHeartbeats 4000000 in
theorem b_X5_counted {p : Program} {l : Launch} {e : Env} {s : State} {m : MethodId} {args : Array Value} {below : List Frame} {meth : Method} {c : Code} {D : va_G} {cA : Nat → ClassId} {N0 : Nat} {Sh : jS} {I : jI} {P : jP} {L : jL} (C : jC p (jRm 3 0 0) s m args meth c D cA N0 cX5_counted 2 RX5 3) (hr : meth.sig.returnType = (some .int)) {y : Nat} (S : cS Sh y) (T : cP P y) {f : sF} (M : cM I P y f) (V : sI f) {kq : Int32} (hq : I y 6 = kq) {k : Nat} (hk : k < 12) : jJ p l e (jRm 3 0 0) s m args below meth c D cA N0 2 (MQ below (jQn D cA N0 Sh (jD (some (.int (scounted f kq k))) I P L)) args s 0 0 (fun q => N0 ≤ q)) (fun _ => True) Sh I P L 0 0 0 [some (.ref y), some (.int (nI k))] [] := by
  obtain ⟨og, H, G⟩ := M
  by_cases h11 : k = 11
  · subst h11
    refine jx_iload_n (pc := 0) C dX5_counted_0 rfl ?_
    refine jx_bipush (pc := 1) C dX5_counted_1 nb_11 ?_
    refine jx_icmp_ne (pc := 3) C (tgt := 13) dX5_counted_3 (by decide) (fun c3 => (by rw [nI_eq (by omega) (by omega)] at c3; exfalso; omega)) (fun c3 => ?_)
    rw [nI_eq (by omega) (by omega)] at c3
    refine jx_aload_n (pc := 6) C dX5_counted_6 rfl ?_
    refine jx_getIv (pc := 7) C kf_X5_180 rfl S.obj hq dX5_counted_7 ?_
    refine jx_goto (pc := 10) C (tgt := 21) dX5_counted_10 (by decide) ?_
    exact jn_iret (pc := 21) C hr (jD_i rfl) dX5_counted_21
  · refine jx_iload_n (pc := 0) C dX5_counted_0 rfl ?_
    refine jx_bipush (pc := 1) C dX5_counted_1 nb_11 ?_
    refine jx_icmp_ne (pc := 3) C (tgt := 13) dX5_counted_3 (by decide) (fun c3 => ?_) (fun c3 => (by rw [nI_eq (by omega) (by omega)] at c3; exfalso; omega))
    rw [nI_eq (by omega) (by omega)] at c3
    refine jx_aload_n (pc := 13) C dX5_counted_13 rfl ?_
    refine jx_getP (pc := 14) C kf_X5_10 rfl S.obj T.hall dX5_counted_14 ?_
    refine jx_iload_n (pc := 17) C dX5_counted_17 rfl ?_
    refine jx_callD (pc := 18) C (go_X5_281 C S.h.hall (Nat.le_of_ble_eq_true rfl) dX5_counted_18) (t_X0_number S.h T.h G H V (by omega) (kept := kq)) (by decide) (by decide) ⟨Nat.zero_le _, Nat.zero_le _⟩ ?_
    exact jn_iret (pc := 21) C hr (jD_r) dX5_counted_21
theorem t_X5_counted {l : Launch} {D : va_G} {cA : Nat → ClassId} {N0 : Nat} {Sh : jS} {I : jI} {P : jP} {L : jL} {y : Nat} (S : cS Sh y) (T : cP P y) {f : sF} (M : cM I P y f) (V : sI f) {kq : Int32} (hq : I y 6 = kq) {k : Nat} (hk : k < 12) : jN l D cA N0 3 yX5_counted cX5_counted 2 (some .int) [.ref y, .int (nI k)] Sh I P L (jD (some (.int (scounted f kq k))) I P L) := jN_of (by decide) (Nat.le_of_ble_eq_true rfl) (fun _ _ _ _ _ _ _ _ C hr => b_X5_counted C hr S T M V hq hk)
theorem sQ_debts {f g : sF} (h : sQ f g) : sdebts f = sdebts g := ssum_c (fun w hw => h _ (by omega) (by omega) (by omega))
theorem sQ_place {f g : sF} {num : Int32} (h : sQ f g) (hk : smany f ≤ 10) : splace f num = splace g num := by
  have hm := sQ_many h
  unfold splace
  rw [hm]
  exact sfst_c (fun i hi => by rw [h _ (by omega) (by omega) (by omega)])
set_option maxHeartbeats 4000000 in
theorem b_X5_foreseen {p : Program} {l : Launch} {e : Env} {s : State} {m : MethodId} {args : Array Value} {below : List Frame} {meth : Method} {c : Code} {D : va_G} {cA : Nat → ClassId} {N0 : Nat} {Sh : jS} {I : jI} {P : jP} {L : jL} (C : jC p (jRm 6 0 0) s m args meth c D cA N0 cX5_foreseen 3 RX5 6) (hr : meth.sig.returnType = (some .int)) {y : Nat} (S : cS Sh y) (T : cP P y) {f : sF} (M : cM I P y f) (V : sI f) (U : cT P y) {n k : Nat} (hn : n < 1000) (hk4 : k < 5) : jJ p l e (jRm 6 0 0) s m args below meth c D cA N0 3 (MQ below (jQn D cA N0 Sh (jNi (fun v' I' P' L' => v' = sbyH f n k ∧ hF I (y + 46) I' ∧ hFP P (y + 46) P' ∧ cT P' y ∧ L' = L))) args s 0 0 (fun q => N0 ≤ q)) (fun _ => True) Sh I P L 0 0 0 [some (.ref y), some (.int (nI n)), some (.int (nI k))] [] := by
  obtain ⟨og, H, G⟩ := M
  obtain ⟨ot, Gt⟩ := U
  have hk := V.1.2.1
  refine jx_aload_n (pc := 0) C dX5_foreseen_0 rfl ?_
  refine jx_getP (pc := 1) C kf_X5_16 rfl S.obj T.trial dX5_foreseen_1 ?_
  refine jx_aload_n (pc := 4) C dX5_foreseen_4 rfl ?_
  refine jx_getP (pc := 5) C kf_X5_10 rfl S.obj T.hall dX5_foreseen_5 ?_
  refine jx_callv (pc := 8) C (go_X5_185 C S.tr.hall (Nat.le_of_ble_eq_true rfl) dX5_foreseen_8) (t_X0_copyFrom S.tr T.tr Gt S.h T.h G H hk (by omega)) (by decide) (by decide) ⟨Nat.zero_le _, Nat.zero_le _⟩ (fun I8 P8 L8 q8 => ?_)
  obtain ⟨H1, F1, rfl, rfl⟩ := q8
  refine jx_aload_n (pc := 11) C dX5_foreseen_11 rfl ?_
  refine jx_getP (pc := 12) C kf_X5_16 rfl S.obj T.trial dX5_foreseen_12 ?_
  refine jx_iload_n (pc := 15) C dX5_foreseen_15 rfl ?_
  refine jx_callv (pc := 16) C (go_X5_284 C S.tr.hall (Nat.le_of_ble_eq_true rfl) dX5_foreseen_16) (t_X0_foresee S.tr T.tr Gt H1 V hn) (by decide) (by decide) ⟨Nat.zero_le _, Nat.zero_le _⟩ (fun I16 P16 L16 q16 => ?_)
  obtain ⟨⟨og2, g, H2, Vg, G2, Q2⟩, F2, E2, rfl⟩ := q16
  have Hm := H.ag hk G.lt (fun b h1 h2 => (F2 b (by omega)).trans (F1 b (by omega)))
  have Gm := G.fo E2 (by omega)
  have T2 := T.ag (cE.trial E2)
  have hfin : hF I (y + 46) I16 ∧ hFP P8 (y + 46) P16 ∧ cT P16 y := ⟨F1.tr F2, E2, og2, G2⟩
  match k, hk4 with
  | 0, _ =>
    refine jx_iload_n (pc := 19) C dX5_foreseen_19 rfl ?_
    refine jx_tableIn (pc := 20) C (off := 32) (tgt := 52) dX5_foreseen_20 (by decide) (by decide) rfl (by decide) ?_
    refine jx_aload_n (pc := 52) C dX5_foreseen_52 rfl ?_
    refine jx_getP (pc := 53) C kf_X5_16 rfl S.obj T2.trial dX5_foreseen_53 ?_
    refine jx_getIv (pc := 56) C kf_X5_151 rfl S.tr.hall (H2.n8.trans (Q2 7 (by decide) (by decide) (by decide))) dX5_foreseen_56 ?_
    refine jx_aload_n (pc := 59) C dX5_foreseen_59 rfl ?_
    refine jx_getP (pc := 60) C kf_X5_10 rfl S.obj T2.hall dX5_foreseen_60 ?_
    refine jx_getIv (pc := 63) C kf_X5_151 rfl S.h.hall Hm.n8 dX5_foreseen_63 ?_
    refine jx_isub (pc := 66) C dX5_foreseen_66 ?_
    exact jn_iret (pc := 67) C hr (⟨_, rfl, rfl, hfin.1, hfin.2.1, hfin.2.2, rfl⟩) dX5_foreseen_67
  | 1, _ =>
    refine jx_iload_n (pc := 19) C dX5_foreseen_19 rfl ?_
    refine jx_tableIn (pc := 20) C (off := 48) (tgt := 68) dX5_foreseen_20 (by decide) (by decide) rfl (by decide) ?_
    refine jx_aload_n (pc := 68) C dX5_foreseen_68 rfl ?_
    refine jx_getP (pc := 69) C kf_X5_16 rfl S.obj T2.trial dX5_foreseen_69 ?_
    refine jx_getIv (pc := 72) C kf_X5_288 rfl S.tr.hall (H2.n10.trans (Q2 9 (by decide) (by decide) (by decide))) dX5_foreseen_72 ?_
    refine jx_aload_n (pc := 75) C dX5_foreseen_75 rfl ?_
    refine jx_getP (pc := 76) C kf_X5_10 rfl S.obj T2.hall dX5_foreseen_76 ?_
    refine jx_getIv (pc := 79) C kf_X5_288 rfl S.h.hall Hm.n10 dX5_foreseen_79 ?_
    refine jx_isub (pc := 82) C dX5_foreseen_82 ?_
    exact jn_iret (pc := 83) C hr (⟨_, rfl, rfl, hfin.1, hfin.2.1, hfin.2.2, rfl⟩) dX5_foreseen_83
  | 2, _ =>
    refine jx_iload_n (pc := 19) C dX5_foreseen_19 rfl ?_
    refine jx_tableIn (pc := 20) C (off := 64) (tgt := 84) dX5_foreseen_20 (by decide) (by decide) rfl (by decide) ?_
    refine jx_aload_n (pc := 84) C dX5_foreseen_84 rfl ?_
    refine jx_getP (pc := 85) C kf_X5_16 rfl S.obj T2.trial dX5_foreseen_85 ?_
    refine jx_bipush (pc := 88) C dX5_foreseen_88 nb_6 ?_
    refine jx_callD (pc := 90) C (go_X5_291 C S.tr.hall (Nat.le_of_ble_eq_true rfl) dX5_foreseen_90) (t_X0_sumOf S.tr T2.tr G2 H2 Vg (k := 6) (by decide)) (by decide) (by decide) ⟨Nat.zero_le _, Nat.zero_le _⟩ ?_
    refine jx_aload_n (pc := 93) C dX5_foreseen_93 rfl ?_
    refine jx_getP (pc := 94) C kf_X5_10 rfl S.obj T2.hall dX5_foreseen_94 ?_
    refine jx_bipush (pc := 97) C dX5_foreseen_97 nb_6 ?_
    refine jx_callD (pc := 99) C (go_X5_291 C S.h.hall (Nat.le_of_ble_eq_true rfl) dX5_foreseen_99) (t_X0_sumOf S.h T2.h Gm Hm V (k := 6) (by decide)) (by decide) (by decide) ⟨Nat.zero_le _, Nat.zero_le _⟩ ?_
    refine jx_isub (pc := 102) C dX5_foreseen_102 ?_
    exact jn_iret (pc := 103) C hr (⟨_, rfl, by rw [← Vg.2.1.2.2.2.2, ← V.2.1.2.2.2.2, Q2 11 (by decide) (by decide) (by decide)]; rfl, hfin.1, hfin.2.1, hfin.2.2, rfl⟩) dX5_foreseen_103
  | 3, _ =>
    refine jx_iload_n (pc := 19) C dX5_foreseen_19 rfl ?_
    refine jx_tableIn (pc := 20) C (off := 84) (tgt := 104) dX5_foreseen_20 (by decide) (by decide) rfl (by decide) ?_
    refine jx_aload_n (pc := 104) C dX5_foreseen_104 rfl ?_
    refine jx_getP (pc := 105) C kf_X5_16 rfl S.obj T2.trial dX5_foreseen_105 ?_
    refine jx_iconst (pc := 108) C dX5_foreseen_108 nc_3 ?_
    refine jx_callD (pc := 109) C (go_X5_291 C S.tr.hall (Nat.le_of_ble_eq_true rfl) dX5_foreseen_109) (t_X0_sumOf S.tr T2.tr G2 H2 Vg (k := 3) (by decide)) (by decide) (by decide) ⟨Nat.zero_le _, Nat.zero_le _⟩ ?_
    exact jn_iret (pc := 112) C hr (⟨_, rfl, sQ_debts Q2, hfin.1, hfin.2.1, hfin.2.2, rfl⟩) dX5_foreseen_112
  | 4, _ =>
    refine jx_iload_n (pc := 19) C dX5_foreseen_19 rfl ?_
    refine jx_tableOut (pc := 20) C (tgt := 113) dX5_foreseen_20 (by decide) (by decide) ?_
    refine jx_aload_n (pc := 113) C dX5_foreseen_113 rfl ?_
    refine jx_getP (pc := 114) C kf_X5_16 rfl S.obj T2.trial dX5_foreseen_114 ?_
    refine jx_getIv (pc := 117) C kf_X5_294 rfl S.tr.hall (H2.n9.trans (Q2 8 (by decide) (by decide) (by decide))) dX5_foreseen_117 ?_
    refine jx_aload_n (pc := 120) C dX5_foreseen_120 rfl ?_
    refine jx_getP (pc := 121) C kf_X5_10 rfl S.obj T2.hall dX5_foreseen_121 ?_
    refine jx_getIv (pc := 124) C kf_X5_294 rfl S.h.hall Hm.n9 dX5_foreseen_124 ?_
    refine jx_isub (pc := 127) C dX5_foreseen_127 ?_
    exact jn_iret (pc := 128) C hr (⟨_, rfl, rfl, hfin.1, hfin.2.1, hfin.2.2, rfl⟩) dX5_foreseen_128
theorem t_X5_foreseen {l : Launch} {D : va_G} {cA : Nat → ClassId} {N0 : Nat} {Sh : jS} {I : jI} {P : jP} {L : jL} {y : Nat} (S : cS Sh y) (T : cP P y) {f : sF} (M : cM I P y f) (V : sI f) (U : cT P y) {n k : Nat} (hn : n < 1000) (hk4 : k < 5) : jN l D cA N0 6 yX5_foreseen cX5_foreseen 3 (some .int) [.ref y, .int (nI n), .int (nI k)] Sh I P L (jNi (fun v' I' P' L' => v' = sbyH f n k ∧ hF I (y + 46) I' ∧ hFP P (y + 46) P' ∧ cT P' y ∧ L' = L)) := jN_of (by decide) (Nat.le_of_ble_eq_true rfl) (fun _ _ _ _ _ _ _ _ C hr => b_X5_foreseen C hr S T M V U hn hk4)
def endR (f g : sF) (e : Nat → Int32) (i m : Nat) : Nat → Int32 := fun k => if k < m ∧ k < smany f ∧ e k = -1 ∧ splace g (f (90 + 12 * k + 0)) = none then nI i else e k
theorem endR_0 {f g : sF} {e : Nat → Int32} {i : Nat} : endR f g e i 0 = e := by funext k; exact if_neg (fun z => absurd z.1 (Nat.not_lt_zero k))
theorem endR_y {f g : sF} {e : Nat → Int32} {i m : Nat} (h : m < smany f ∧ e m = -1 ∧ splace g (f (90 + 12 * m + 0)) = none) : upd (endR f g e i m) m (nI i) = endR f g e i (m + 1) := by
  funext k
  simp only [upd, endR]
  by_cases h1 : k = m
  · subst h1
    rw [if_pos rfl, if_pos ⟨Nat.lt_succ_self k, h⟩]
  · rw [if_neg h1]
    by_cases h2 : k < m ∧ k < smany f ∧ e k = -1 ∧ splace g (f (90 + 12 * k + 0)) = none
    · rw [if_pos h2, if_pos ⟨by omega, h2.2⟩]
    · rw [if_neg h2, if_neg (fun z => h2 ⟨by omega, z.2⟩)]
theorem endR_n {f g : sF} {e : Nat → Int32} {i m : Nat} (h : ¬ (m < smany f ∧ e m = -1 ∧ splace g (f (90 + 12 * m + 0)) = none)) : endR f g e i m = endR f g e i (m + 1) := by
  funext k
  unfold endR
  by_cases h2 : k < m ∧ k < smany f ∧ e k = -1 ∧ splace g (f (90 + 12 * k + 0)) = none
  · rw [if_pos h2, if_pos ⟨by omega, h2.2⟩]
  · rw [if_neg h2, if_neg (fun z => h2 ⟨by
      rcases Nat.lt_or_ge k m with h3 | h3
      · exact h3
      · have h4 : k = m := by omega
        rw [h4] at z
        exact absurd z.2 h, z.2⟩)]
theorem endR_m {f g : sF} {e : Nat → Int32} {i m : Nat} : endR f g e i m m = e m := if_neg (fun z => absurd z.1 (Nat.lt_irrefl m))
set_option maxHeartbeats 4000000 in
theorem lp_X5_noteEnds {p : Program} {l : Launch} {e : Env} {s : State} {m : MethodId} {args : Array Value} {below : List Frame} {meth : Method} {c : Code} {D : va_G} {cA : Nat → ClassId} {N0 : Nat} {Sh : jS} {I : jI} {P : jP} {L : jL} {Qf : State → Prop} (C : jC p (jRm 1 0 0) s m args meth c D cA N0 cX5_noteEnds 4 RX5 1) {y : Nat} (S : cS Sh y) (T : cP P y) {f g : sF} {og ot : Nat → Nat} (G : hG P (y + 1) og) (H : hR I (y + 1) og f) (V : sI f) (Gt : hG P (y + 46) ot) (Ht : hR I (y + 46) ot g) (Vg : sI g) {i : Nat} {e0 : Nat → Int32} (he : I (y + 95) = e0) (hx : ∀ x, jJ p l e (jRm 1 0 0) s m args below meth c D cA N0 4 Qf (fun _ => True) Sh (va_up I (y + 95) (endR f g e0 i 10)) P L 0 0 62 [some (.ref y), some (.int (nI i)), some (.int (nI 10)), x] []) : ∀ d u x, u + d = 10 → jJ p l e (jRm 1 0 0) s m args below meth c D cA N0 4 Qf (fun _ => True) Sh (va_up I (y + 95) (endR f g e0 i u)) P L 0 0 2 [some (.ref y), some (.int (nI i)), some (.int (nI u)), x] [] := by
  have hk := V.1.2.1
  intro d
  induction d with
  | zero =>
    intro u x hi
    obtain rfl : u = 10 := by omega
    refine jx_iload_n (pc := 2) C dX5_noteEnds_2 rfl ?_
    refine jx_aload_n (pc := 3) C dX5_noteEnds_3 rfl ?_
    refine jx_getP (pc := 4) C kf_X5_34 rfl S.obj T.ends dX5_noteEnds_4 ?_
    refine jx_alen10 (pc := 7) C S.en dX5_noteEnds_7 ?_
    refine jx_icmp_ge (pc := 8) C (tgt := 62) dX5_noteEnds_8 (by decide) (fun c8 => ?_) (fun c8 => (by rw [nI_leI (by omega) (by omega)] at c8; exfalso; omega))
    rw [nI_leI (by omega) (by omega)] at c8
    exact hx _
  | succ d ih =>
    intro u x hi
    have H1 : hR (va_up I (y + 95) (endR f g e0 i u)) (y + 1) og f := H.ag hk G.lt (fun b h1 h2 => va_up_n (by omega))
    have H2 : hR (va_up I (y + 95) (endR f g e0 i u)) (y + 46) ot g := Ht.ag Vg.1.2.1 Gt.lt (fun b h1 h2 => va_up_n (by omega))
    have em : (va_up I (y + 95) (endR f g e0 i u)) (y + 95) u = e0 u := by rw [va_up_s]; exact endR_m
    by_cases hm : u < smany f
    · by_cases he1 : e0 u = -1
      · cases hq : splace g (f (90 + 12 * u + 0)) with
        | none =>
          have hy := endR_y (i := i) ⟨hm, he1, hq⟩
          refine jx_iload_n (pc := 2) C dX5_noteEnds_2 rfl ?_
          refine jx_aload_n (pc := 3) C dX5_noteEnds_3 rfl ?_
          refine jx_getP (pc := 4) C kf_X5_34 rfl S.obj T.ends dX5_noteEnds_4 ?_
          refine jx_alen10 (pc := 7) C S.en dX5_noteEnds_7 ?_
          refine jx_icmp_ge (pc := 8) C (tgt := 62) dX5_noteEnds_8 (by decide) (fun c8 => (by rw [nI_leI (by omega) (by omega)] at c8; exfalso; omega)) (fun c8 => ?_)
          rw [nI_leI (by omega) (by omega)] at c8
          refine jx_aload_n (pc := 11) C dX5_noteEnds_11 rfl ?_
          refine jx_getP (pc := 12) C kf_X5_10 rfl S.obj T.hall dX5_noteEnds_12 ?_
          refine jx_iload_n (pc := 15) C dX5_noteEnds_15 rfl ?_
          refine jx_callD (pc := 16) C (go_X5_201 C S.h.hall (Nat.le_of_ble_eq_true rfl) dX5_noteEnds_16) (t_X0_orderAt_s S.h T.h G H1 V hm) (by decide) (by decide) ⟨Nat.zero_le _, Nat.zero_le _⟩ ?_
          refine jx_astore_n (pc := 19) C dX5_noteEnds_19 (jset_3 jc_i) (by decide) ?_
          refine jx_aload_n (pc := 20) C dX5_noteEnds_20 rfl ?_
          refine jx_ifnull (pc := 21) C dX5_noteEnds_21 ?_
          refine jx_aload_n (pc := 24) C dX5_noteEnds_24 rfl ?_
          refine jx_getP (pc := 25) C kf_X5_34 rfl S.obj T.ends dX5_noteEnds_25 ?_
          refine jx_iload_n (pc := 28) C dX5_noteEnds_28 rfl ?_
          refine jx_ialdv (pc := 29) C S.en (by omega) (by decide) (em.trans he1) dX5_noteEnds_29 ?_
          refine jx_iconst (pc := 30) C dX5_noteEnds_30 nc_m1 ?_
          refine jx_icmp_ne (pc := 31) C (tgt := 56) dX5_noteEnds_31 (by decide) (fun c31 => (by exfalso; exact c31 rfl)) (fun c31 => ?_)
          refine jx_aload_n (pc := 34) C dX5_noteEnds_34 rfl ?_
          refine jx_getP (pc := 35) C kf_X5_16 rfl S.obj T.trial dX5_noteEnds_35 ?_
          refine jx_aload_n (pc := 38) C dX5_noteEnds_38 rfl ?_
          refine jx_getIv (pc := 39) C kf_X5_300 rfl (S.h.od (G.lt u (by omega))) (H1.od (k := 0) hm (by decide)) dX5_noteEnds_39 ?_
          refine jx_callD (pc := 42) C (go_X5_226 C S.tr.hall (Nat.le_of_ble_eq_true rfl) dX5_noteEnds_42) (t_X0_placeOf S.tr T.tr Gt H2 Vg) (by decide) (by decide) ⟨Nat.zero_le _, Nat.zero_le _⟩ ?_
          refine jx_top C (show Value.int (oI (splace g (f (90 + 12 * u + 0)))) = .int (-1 : Int32) by rw [hq]; rfl) ?_
          refine jx_iconst (pc := 45) C dX5_noteEnds_45 nc_m1 ?_
          refine jx_icmp_ne (pc := 46) C (tgt := 56) dX5_noteEnds_46 (by decide) (fun c46 => (by exfalso; exact c46 rfl)) (fun c46 => ?_)
          refine jx_aload_n (pc := 49) C dX5_noteEnds_49 rfl ?_
          refine jx_getP (pc := 50) C kf_X5_34 rfl S.obj T.ends dX5_noteEnds_50 ?_
          refine jx_iload_n (pc := 53) C dX5_noteEnds_53 rfl ?_
          refine jx_iload_n (pc := 54) C dX5_noteEnds_54 rfl ?_
          refine jx_iast (pc := 55) C S.en (by omega) (by decide) dX5_noteEnds_55 ?_
          rw [jst_up, hy]
          refine jx_iincN (pc := 56) C dX5_noteEnds_56 rfl (jset_2 jc_i) (by decide) ?_
          refine jx_goto (pc := 59) C (tgt := 2) dX5_noteEnds_59 (by decide) ?_
          exact ih (u + 1) _ (by omega)
        | some o =>
          have ho := (sfst_lt hq).1
          have hkg := Vg.1.2.1
          have h4 := fun x => ih (u + 1) x (by omega)
          rw [← endR_n (fun z => by rw [hq] at z; cases z.2.2)] at h4
          refine jx_iload_n (pc := 2) C dX5_noteEnds_2 rfl ?_
          refine jx_aload_n (pc := 3) C dX5_noteEnds_3 rfl ?_
          refine jx_getP (pc := 4) C kf_X5_34 rfl S.obj T.ends dX5_noteEnds_4 ?_
          refine jx_alen10 (pc := 7) C S.en dX5_noteEnds_7 ?_
          refine jx_icmp_ge (pc := 8) C (tgt := 62) dX5_noteEnds_8 (by decide) (fun c8 => (by rw [nI_leI (by omega) (by omega)] at c8; exfalso; omega)) (fun c8 => ?_)
          rw [nI_leI (by omega) (by omega)] at c8
          refine jx_aload_n (pc := 11) C dX5_noteEnds_11 rfl ?_
          refine jx_getP (pc := 12) C kf_X5_10 rfl S.obj T.hall dX5_noteEnds_12 ?_
          refine jx_iload_n (pc := 15) C dX5_noteEnds_15 rfl ?_
          refine jx_callD (pc := 16) C (go_X5_201 C S.h.hall (Nat.le_of_ble_eq_true rfl) dX5_noteEnds_16) (t_X0_orderAt_s S.h T.h G H1 V hm) (by decide) (by decide) ⟨Nat.zero_le _, Nat.zero_le _⟩ ?_
          refine jx_astore_n (pc := 19) C dX5_noteEnds_19 (jset_3 jc_i) (by decide) ?_
          refine jx_aload_n (pc := 20) C dX5_noteEnds_20 rfl ?_
          refine jx_ifnull (pc := 21) C dX5_noteEnds_21 ?_
          refine jx_aload_n (pc := 24) C dX5_noteEnds_24 rfl ?_
          refine jx_getP (pc := 25) C kf_X5_34 rfl S.obj T.ends dX5_noteEnds_25 ?_
          refine jx_iload_n (pc := 28) C dX5_noteEnds_28 rfl ?_
          refine jx_ialdv (pc := 29) C S.en (by omega) (by decide) (em.trans he1) dX5_noteEnds_29 ?_
          refine jx_iconst (pc := 30) C dX5_noteEnds_30 nc_m1 ?_
          refine jx_icmp_ne (pc := 31) C (tgt := 56) dX5_noteEnds_31 (by decide) (fun c31 => (by exfalso; exact c31 rfl)) (fun c31 => ?_)
          refine jx_aload_n (pc := 34) C dX5_noteEnds_34 rfl ?_
          refine jx_getP (pc := 35) C kf_X5_16 rfl S.obj T.trial dX5_noteEnds_35 ?_
          refine jx_aload_n (pc := 38) C dX5_noteEnds_38 rfl ?_
          refine jx_getIv (pc := 39) C kf_X5_300 rfl (S.h.od (G.lt u (by omega))) (H1.od (k := 0) hm (by decide)) dX5_noteEnds_39 ?_
          refine jx_callD (pc := 42) C (go_X5_226 C S.tr.hall (Nat.le_of_ble_eq_true rfl) dX5_noteEnds_42) (t_X0_placeOf S.tr T.tr Gt H2 Vg) (by decide) (by decide) ⟨Nat.zero_le _, Nat.zero_le _⟩ ?_
          refine jx_top C (show Value.int (oI (splace g (f (90 + 12 * u + 0)))) = .int (nI o) by rw [hq]; rfl) ?_
          refine jx_iconst (pc := 45) C dX5_noteEnds_45 nc_m1 ?_
          refine jx_icmp_ne (pc := 46) C (tgt := 56) dX5_noteEnds_46 (by decide) (fun c46 => ?_) (fun c46 => (by exfalso; exact (nI_m1 (by omega)).mp c46))
          refine jx_iincN (pc := 56) C dX5_noteEnds_56 rfl (jset_2 jc_i) (by decide) ?_
          refine jx_goto (pc := 59) C (tgt := 2) dX5_noteEnds_59 (by decide) ?_
          exact h4 _
      · have h4 := fun x => ih (u + 1) x (by omega)
        rw [← endR_n (fun z => he1 z.2.1)] at h4
        refine jx_iload_n (pc := 2) C dX5_noteEnds_2 rfl ?_
        refine jx_aload_n (pc := 3) C dX5_noteEnds_3 rfl ?_
        refine jx_getP (pc := 4) C kf_X5_34 rfl S.obj T.ends dX5_noteEnds_4 ?_
        refine jx_alen10 (pc := 7) C S.en dX5_noteEnds_7 ?_
        refine jx_icmp_ge (pc := 8) C (tgt := 62) dX5_noteEnds_8 (by decide) (fun c8 => (by rw [nI_leI (by omega) (by omega)] at c8; exfalso; omega)) (fun c8 => ?_)
        rw [nI_leI (by omega) (by omega)] at c8
        refine jx_aload_n (pc := 11) C dX5_noteEnds_11 rfl ?_
        refine jx_getP (pc := 12) C kf_X5_10 rfl S.obj T.hall dX5_noteEnds_12 ?_
        refine jx_iload_n (pc := 15) C dX5_noteEnds_15 rfl ?_
        refine jx_callD (pc := 16) C (go_X5_201 C S.h.hall (Nat.le_of_ble_eq_true rfl) dX5_noteEnds_16) (t_X0_orderAt_s S.h T.h G H1 V hm) (by decide) (by decide) ⟨Nat.zero_le _, Nat.zero_le _⟩ ?_
        refine jx_astore_n (pc := 19) C dX5_noteEnds_19 (jset_3 jc_i) (by decide) ?_
        refine jx_aload_n (pc := 20) C dX5_noteEnds_20 rfl ?_
        refine jx_ifnull (pc := 21) C dX5_noteEnds_21 ?_
        refine jx_aload_n (pc := 24) C dX5_noteEnds_24 rfl ?_
        refine jx_getP (pc := 25) C kf_X5_34 rfl S.obj T.ends dX5_noteEnds_25 ?_
        refine jx_iload_n (pc := 28) C dX5_noteEnds_28 rfl ?_
        refine jx_ialdv (pc := 29) C S.en (by omega) (by decide) em dX5_noteEnds_29 ?_
        refine jx_iconst (pc := 30) C dX5_noteEnds_30 nc_m1 ?_
        refine jx_icmp_ne (pc := 31) C (tgt := 56) dX5_noteEnds_31 (by decide) (fun c31 => ?_) (fun c31 => (by exfalso; exact he1 c31))
        refine jx_iincN (pc := 56) C dX5_noteEnds_56 rfl (jset_2 jc_i) (by decide) ?_
        refine jx_goto (pc := 59) C (tgt := 2) dX5_noteEnds_59 (by decide) ?_
        exact h4 _
    · have h4 := fun x => ih (u + 1) x (by omega)
      rw [← endR_n (fun z => hm z.1)] at h4
      refine jx_iload_n (pc := 2) C dX5_noteEnds_2 rfl ?_
      refine jx_aload_n (pc := 3) C dX5_noteEnds_3 rfl ?_
      refine jx_getP (pc := 4) C kf_X5_34 rfl S.obj T.ends dX5_noteEnds_4 ?_
      refine jx_alen10 (pc := 7) C S.en dX5_noteEnds_7 ?_
      refine jx_icmp_ge (pc := 8) C (tgt := 62) dX5_noteEnds_8 (by decide) (fun c8 => (by rw [nI_leI (by omega) (by omega)] at c8; exfalso; omega)) (fun c8 => ?_)
      rw [nI_leI (by omega) (by omega)] at c8
      refine jx_aload_n (pc := 11) C dX5_noteEnds_11 rfl ?_
      refine jx_getP (pc := 12) C kf_X5_10 rfl S.obj T.hall dX5_noteEnds_12 ?_
      refine jx_iload_n (pc := 15) C dX5_noteEnds_15 rfl ?_
      refine jx_callD (pc := 16) C (go_X5_201 C S.h.hall (Nat.le_of_ble_eq_true rfl) dX5_noteEnds_16) (t_X0_orderAt_n S.h T.h G H1 V (fun z => hm (by rw [nI_ltI (by omega) (by omega)] at z; exact z.2))) (by decide) (by decide) ⟨Nat.zero_le _, Nat.zero_le _⟩ ?_
      refine jx_astore_nN (pc := 19) C dX5_noteEnds_19 (jset_3 jc_i) (by decide) ?_
      refine jx_aload_nN (pc := 20) C dX5_noteEnds_20 rfl ?_
      refine jx_ifnullN (pc := 21) C (tgt := 56) dX5_noteEnds_21 (by decide) ?_
      refine jx_iincN (pc := 56) C dX5_noteEnds_56 rfl (jset_2 jc_i) (by decide) ?_
      refine jx_goto (pc := 59) C (tgt := 2) dX5_noteEnds_59 (by decide) ?_
      exact h4 _
set_option maxHeartbeats 4000000 in
theorem b_X5_noteEnds {p : Program} {l : Launch} {e : Env} {s : State} {m : MethodId} {args : Array Value} {below : List Frame} {meth : Method} {c : Code} {D : va_G} {cA : Nat → ClassId} {N0 : Nat} {Sh : jS} {I : jI} {P : jP} {L : jL} (C : jC p (jRm 1 0 0) s m args meth c D cA N0 cX5_noteEnds 4 RX5 1) (hr : meth.sig.returnType = none) {y : Nat} (S : cS Sh y) (T : cP P y) {f g : sF} {og ot : Nat → Nat} (G : hG P (y + 1) og) (H : hR I (y + 1) og f) (V : sI f) (Gt : hG P (y + 46) ot) (Ht : hR I (y + 46) ot g) (Vg : sI g) {i : Nat} {e0 : Nat → Int32} (he : I (y + 95) = e0) : jJ p l e (jRm 1 0 0) s m args below meth c D cA N0 4 (MQ below (jQn D cA N0 Sh (jD none (va_up I (y + 95) (endR f g e0 i 10)) P L)) args s 0 0 (fun q => N0 ≤ q)) (fun _ => True) Sh I P L 0 0 0 [some (.ref y), some (.int (nI i)), none, none] [] := by
  refine jx_iconst (pc := 0) C dX5_noteEnds_0 nc_0 ?_
  refine jx_istore_n (pc := 1) C dX5_noteEnds_1 (jset_2 jc_i) (by decide) ?_
  refine jx_mem (I' := (va_up I (y + 95) (endR f g e0 i 0))) (P' := P) (by rw [endR_0, ← he]; exact va_up_id.symm) rfl ?_
  refine lp_X5_noteEnds C S T G H V Gt Ht Vg he (fun x => ?_) 10 0 none rfl
  exact jn_vret (pc := 62) C hr (jD_r) dX5_noteEnds_62
theorem t_X5_noteEnds {l : Launch} {D : va_G} {cA : Nat → ClassId} {N0 : Nat} {Sh : jS} {I : jI} {P : jP} {L : jL} {y : Nat} (S : cS Sh y) (T : cP P y) {f g : sF} {og ot : Nat → Nat} (G : hG P (y + 1) og) (H : hR I (y + 1) og f) (V : sI f) (Gt : hG P (y + 46) ot) (Ht : hR I (y + 46) ot g) (Vg : sI g) {i : Nat} {e0 : Nat → Int32} (he : I (y + 95) = e0) : jN l D cA N0 1 yX5_noteEnds cX5_noteEnds 4 none [.ref y, .int (nI i)] Sh I P L (jD none (va_up I (y + 95) (endR f g e0 i 10)) P L) := jN_of (by decide) (Nat.le_of_ble_eq_true rfl) (fun _ _ _ _ _ _ _ _ C hr => b_X5_noteEnds C hr S T G H V Gt Ht Vg he)
def snum (f g : sF) : Prop := smany g = smany f ∧ ∀ o, g (90 + 12 * o + 0) = f (90 + 12 * o + 0)
theorem snum.tr {f g h : sF} (a : snum f g) (b : snum g h) : snum f h := ⟨b.1.trans a.1, fun o => (b.2 o).trans (a.2 o)⟩
theorem snum_place {f g : sF} {num : Int32} (h : snum f g) : splace g num = splace f num := by
  unfold splace
  rw [h.1]
  exact sfst_c (fun i _ => by rw [h.2 i])
theorem stake_num {f f1 : sF} {w o : Nat} (hw : w < 6) (hc : scol f o < 4) (h : stake f w o = some f1) : f1 7 = f 7 ∧ snum f f1 :=
  ⟨stake_k h (by omega) (by omega) (by omega) (by omega) (by omega), by unfold smany; rw [stake_k h (by omega) (by omega) (by omega) (by omega) (by omega)], fun q => stake_k h (by omega) (by omega) (by omega) (by omega) (by omega)⟩
theorem smake_num {f : sF} {w o : Nat} (hw : w < 6) : smake f w o 7 = f 7 ∧ snum f (smake f w o) :=
  ⟨smake_k (by omega) (by omega) (by omega) (by omega) (by omega), by unfold smany; rw [smake_k (by omega) (by omega) (by omega) (by omega) (by omega)], fun q => smake_k (by omega) (by omega) (by omega) (by omega) (by omega)⟩
theorem spaysF_7 {f : sF} {o : Nat} : spaysF f o 7 = f 7 + nI 1 := by
  unfold spaysF
  rw [spays_A]
  unfold sgoes
  rw [if_neg (by omega), upd_n (by decide)]
  unfold spaysA
  rw [upd_n (by decide), upd_n (by decide), upd_s, spayN_k (fun w hw => ⟨by omega, by omega⟩)]
def sfin (f g : sF) : Prop := (g 7 = f 7 ∧ snum f g) ∨ g 7 = f 7 + nI 1
theorem swv_fin {w o : Nat} (hw : w < 6) : ∀ (r : Nat) (f : sF), sOK f → o < smany f → sfin f (swv w o r f).1 := by
  intro r
  induction r with
  | zero => intro f _ _; exact Or.inl ⟨rfl, rfl, fun _ => rfl⟩
  | succ r ih =>
    intro f h ho
    unfold swv
    cases ht : stake f w o with
    | none => exact Or.inl ⟨rfl, rfl, fun _ => rfl⟩
    | some f1 =>
      obtain ⟨b1, b2⟩ := stake_OK h hw ho ht
      obtain ⟨b3, b4⟩ := smake_OK b1 hw (show o < smany f1 by rw [b2]; exact ho)
      obtain ⟨n1, n2⟩ := stake_num hw (h.2.2.1 o ho).2 ht
      obtain ⟨n3, n4⟩ := smake_num (f := f1) (o := o) hw
      dsimp only
      split
      · exact Or.inr (by show spaysF (smake f1 w o) o 7 = _; rw [spaysF_7, n3, n1])
      · rcases ih _ b3 (by rw [b4, b2]; exact ho) with ⟨c1, c2⟩ | c1
        · exact Or.inl ⟨c1.trans (n3.trans n1), (n2.tr n4).tr c2⟩
        · exact Or.inr (by rw [c1, n3, n1])
theorem sweave_fin {f : sF} {w : Nat} (hw : w < 6) (h : sOK f) : sfin f (sweave f w) := by
  have h1 : sfin f (sweaves f w).1 := by
    unfold sweaves
    cases hq : schos f w with
    | none => exact Or.inl ⟨rfl, rfl, fun _ => rfl⟩
    | some o => exact swv_fin hw _ _ h (schosN_lt hq).1
  have e : snum (sweaves f w).1 (sweave f w) := ⟨by unfold smany sweave; rw [upd_n (by decide)], fun o => upd_n (by omega)⟩
  have e7 : sweave f w 7 = (sweaves f w).1 7 := upd_n (by decide)
  rcases h1 with ⟨a, b⟩ | a
  · exact Or.inl ⟨e7.trans a, b.tr e⟩
  · exact Or.inr (e7.trans a)
theorem shourN_fin {f : sF} (h : sOK f) : ∀ n, n ≤ 6 → ∃ d, d ≤ n ∧ shourN f n 7 = f 7 + nI d ∧ (d = 0 → snum f (shourN f n)) := by
  intro n
  induction n with
  | zero => intro _; exact ⟨0, Nat.le_refl 0, (Int32.add_zero (f 7)).symm, fun _ => ⟨rfl, fun _ => rfl⟩⟩
  | succ n ih =>
    intro hn
    obtain ⟨d, d1, d2, d3⟩ := ih (by omega)
    have hok := shourN_OK h n (by omega)
    unfold shourN
    split
    · rcases sweave_fin (show n < 6 by omega) hok with ⟨a, b⟩ | a
      · exact ⟨d, by omega, a.trans d2, fun z => (d3 z).tr b⟩
      · exact ⟨d + 1, by omega, by rw [a, d2, Int32.add_assoc, nI_add], fun z => absurd z (Nat.succ_ne_zero d)⟩
    · exact ⟨d, by omega, d2, d3⟩
theorem shour_fin {f : sF} (h : sOK f) (h7 : shour f 7 = f 7) : snum f (shour f) := by
  obtain ⟨d, d1, d2, d3⟩ := shourN_fin h 6 (Nat.le_refl 6)
  have e7 : shour f 7 = shourN f 6 7 := upd_n (by decide)
  have hd : d = 0 := by
    have h1 : f 7 + nI d = f 7 := by rw [← d2, ← e7, h7]
    have h2 : nI d = 0 := by
      have h3 : f 7 + nI d = f 7 + 0 := h1.trans (Int32.add_zero (f 7)).symm
      exact (Int32.add_right_inj (f 7)).mp h3
    exact (nI_eq0 (by omega)).mp h2
  exact (d3 hd).tr ⟨by unfold smany shour; rw [upd_n (by decide)], fun o => upd_n (by omega)⟩
/-- behind how many hours the order at place j is done, of m hours -/
def endv (f : sF) (m j : Nat) : Int32 := if j < smany f then (match sfst (sgone f (f (90 + 12 * j + 0))) m with | none => -1 | some k => nI (k + 1)) else -1
theorem endv_b {f : sF} {j : Nat} (h : j < smany f) : endv f 200 j = sbehind f (f (90 + 12 * j + 0)) := by
  unfold endv sbehind
  rw [if_pos h]
  generalize sfst (sgone f (f (90 + 12 * j + 0))) 200 = q
  cases q <;> rfl
theorem sfst_all {p : Nat → Bool} : ∀ {n}, (∀ i, i < n → p i = false) → sfst p n = none := by
  intro n
  induction n with
  | zero => intro _; rfl
  | succ n ih => intro h; exact sfst_miss (ih (fun i hi => h i (by omega))) (by rw [h n (by omega)]; decide)
theorem splace_at {f : sF} {j : Nat} (h : j < smany f) : (splace f (f (90 + 12 * j + 0))).isNone = false := by
  cases hq : splace f (f (90 + 12 * j + 0)) with
  | some _ => rfl
  | none => exact absurd (sfst_none hq j h) (by simp)
theorem sgone_m {f : sF} {j m : Nat} (hj : j < smany f) (h : sfst (sgone f (f (90 + 12 * j + 0))) m = none) : (splace (shours f m) (f (90 + 12 * j + 0))).isNone = false := by
  cases m with
  | zero => exact splace_at hj
  | succ m => exact sfst_none h m (Nat.lt_succ_self m)
theorem endv_eq {f : sF} {m j : Nat} (hok : sOK f) (h7 : shours f (m + 1) 7 = shours f m 7) : endv f (m + 1) j = endv f m j := by
  unfold endv
  by_cases hj : j < smany f
  · rw [if_pos hj, if_pos hj]
    cases hq : sfst (sgone f (f (90 + 12 * j + 0))) m with
    | some i => rw [sfst_up hq 1]
    | none =>
      rw [sfst_miss hq]
      show ¬ (splace (shour (shours f m)) (f (90 + 12 * j + 0))).isNone = true
      rw [snum_place (shour_fin (shours_OK hok m) h7), sgone_m hj hq]
      decide
  · rw [if_neg hj, if_neg hj]
theorem endv_ne {f : sF} {m j : Nat} (hm : m < 1000) : endv f (m + 1) j = if j < smany f ∧ endv f m j = -1 ∧ splace (shours f (m + 1)) (f (90 + 12 * j + 0)) = none then nI (m + 1) else endv f m j := by
  unfold endv
  by_cases hj : j < smany f
  · rw [if_pos hj, if_pos hj]
    cases hq : sfst (sgone f (f (90 + 12 * j + 0))) m with
    | some i =>
      rw [sfst_up hq 1]
      have hi : i < m := (sfst_lt hq).1
      by_cases hz : nI (i + 1) = (-1 : Int32)
      · exact absurd hz (fun z => (nI_m1 (by omega)).mp z)
      · exact (if_neg (fun z => hz z.2.1)).symm
    | none =>
      by_cases hp : splace (shours f (m + 1)) (f (90 + 12 * j + 0)) = none
      · rw [sfst_hit hq (by show (splace (shours f (m + 1)) _).isNone = true; rw [hp]; rfl), if_pos ⟨hj, rfl, hp⟩]
      · rw [sfst_miss hq (by show ¬ (splace (shours f (m + 1)) _).isNone = true; intro z; exact hp (Option.isNone_iff_eq_none.mp z)), if_neg (fun z => hp z.2.2)]
  · rw [if_neg hj, if_neg hj, if_neg (fun z => hj z.1)]
theorem endv_idle {f : sF} {m j : Nat} (hok : sOK f) (hm : m < 200) (hz : swork (shours f m) 6 = 0) : endv f 200 j = endv f (m + 1) j := by
  unfold endv
  by_cases hj : j < smany f
  · rw [if_pos hj, if_pos hj]
    cases hq : sfst (sgone f (f (90 + 12 * j + 0))) (m + 1) with
    | some i =>
      have := sfst_up hq (200 - (m + 1))
      rw [show m + 1 + (200 - (m + 1)) = 200 by omega] at this
      rw [this]
    | none =>
      have hp := sfst_none hq
      have hall : sfst (sgone f (f (90 + 12 * j + 0))) 200 = none := sfst_all (fun i hi => by
        by_cases h1 : i < m + 1
        · exact hp i h1
        · have hq1 := sidle_at (n := i + 1) hok hz (by omega)
          have hq2 := sidle_at (n := m + 1) hok hz (by omega)
          have hk := (shours_OK hok m).2.1
          have h3 := hp m (Nat.lt_succ_self m)
          show (splace (shours f (i + 1)) _).isNone = false
          rw [← sQ_place hq1 hk, sQ_place hq2 hk]
          exact h3)
      rw [hall]
  · rw [if_neg hj, if_neg hj]
set_option maxHeartbeats 4000000 in
theorem lp_X5_endsX {p : Program} {l : Launch} {e : Env} {s : State} {m : MethodId} {args : Array Value} {below : List Frame} {meth : Method} {c : Code} {D : va_G} {cA : Nat → ClassId} {N0 : Nat} {Sh : jS} {I : jI} {P : jP} {L : jL} (C : jC p (jRm 5 0 0) s m args meth c D cA N0 cX5_foreseeEnds 4 RX5 5) {y : Nat} (S : cS Sh y) (T : cP P y) {f : sF} {og ot : Nat → Nat} (G : hG P (y + 1) og) (H : hR I (y + 1) og f) (V : sI f) (Gt : hG P (y + 46) ot) (hr : meth.sig.returnType = none) (I1 : jI) (P1 : jP) (o1 : Nat → Nat) (ls : List (Option Value)) (E1 : ∀ j, j < 10 → I1 (y + 95) j = endv f 200 j) (F1 : (∀ b, (b < y + 46 ∨ y + 91 ≤ b) → b ≠ y + 95 → I1 b = I b)) (P1f : hFP P (y + 46) P1) (G1 : hG P1 (y + 46) o1) : jJ p l e (jRm 5 0 0) s m args below meth c D cA N0 4 (MQ below (jQn D cA N0 Sh (jNv (fun I' P' L' => (∀ j, j < 10 → I' (y + 95) j = endv f 200 j) ∧ (∀ b, (b < y + 46 ∨ y + 91 ≤ b) → b ≠ y + 95 → I' b = I b) ∧ hFP P (y + 46) P' ∧ cT P' y ∧ L' = L))) args s 0 0 (fun q => N0 ≤ q)) (fun _ => True) Sh I1 P1 L 0 0 96 ls [] := by
  exact jn_vret (pc := 96) C hr (⟨rfl, E1, F1, P1f, ⟨o1, G1⟩, rfl⟩) dX5_foreseeEnds_96
set_option maxHeartbeats 4000000 in
theorem lp_X5_ends {p : Program} {l : Launch} {e : Env} {s : State} {m : MethodId} {args : Array Value} {below : List Frame} {meth : Method} {c : Code} {D : va_G} {cA : Nat → ClassId} {N0 : Nat} {Sh : jS} {I : jI} {P : jP} {L : jL} (C : jC p (jRm 5 0 0) s m args meth c D cA N0 cX5_foreseeEnds 4 RX5 5) {y : Nat} (S : cS Sh y) (T : cP P y) {f : sF} {og ot : Nat → Nat} (G : hG P (y + 1) og) (H : hR I (y + 1) og f) (V : sI f) (Gt : hG P (y + 46) ot) (hr : meth.sig.returnType = none) : ∀ d u I1 P1 o1 x, u + d = 200 → hR I1 (y + 46) o1 (shours f u) → hG P1 (y + 46) o1 → (∀ j, j < 10 → I1 (y + 95) j = endv f u j) → (∀ b, (b < y + 46 ∨ y + 91 ≤ b) → b ≠ y + 95 → I1 b = I b) → hFP P (y + 46) P1 → jJ p l e (jRm 5 0 0) s m args below meth c D cA N0 4 (MQ below (jQn D cA N0 Sh (jNv (fun I' P' L' => (∀ j, j < 10 → I' (y + 95) j = endv f 200 j) ∧ (∀ b, (b < y + 46 ∨ y + 91 ≤ b) → b ≠ y + 95 → I' b = I b) ∧ hFP P (y + 46) P' ∧ cT P' y ∧ L' = L))) args s 0 0 (fun q => N0 ≤ q)) (fun _ => True) Sh I1 P1 L 0 0 39 [some (.ref y), some (.int (nI 1)), some (.int (nI (u + 1))), x] [] := by
  have hk := V.1.2.1
  intro d
  induction d with
  | zero =>
    intro u I1 P1 o1 x hi H1 G1 E1 F1 P1f
    obtain rfl : u = 200 := by omega
    refine jx_iload_n (pc := 39) C dX5_foreseeEnds_39 rfl ?_
    refine jx_sipush (pc := 40) C dX5_foreseeEnds_40 ns_200 ?_
    refine jx_icmp_gt (pc := 43) C (tgt := 96) dX5_foreseeEnds_43 (by decide) (fun c43 => ?_) (fun c43 => (by rw [nI_ltI (by omega) (by omega)] at c43; exfalso; omega))
    rw [nI_ltI (by omega) (by omega)] at c43
    exact lp_X5_endsX (I := I) (P := P) C S T G H V Gt hr I1 P1 o1 _ E1 F1 P1f G1
  | succ d ih =>
    intro u I1 P1 o1 x hi H1 G1 E1 F1 P1f
    have T1 := T.ag (cE.trial P1f)
    have V1 := shours_I V u
    have hsw := swork_le V1.1 6 (Nat.le_refl 6)
    have key : ∀ (I3 : jI) (P3 : jP) (o3 : Nat → Nat) (b : Nat) (x3 : Option Value), hR I3 (y + 46) o3 (shours f (u + 1)) → hG P3 (y + 46) o3 → (∀ j, j < 10 → I3 (y + 95) j = endv f (u + 1) j) → (∀ b, (b < y + 46 ∨ y + 91 ≤ b) → b ≠ y + 95 → I3 b = I b) → hFP P (y + 46) P3 → b ≤ 1 → (b = 0 → swork (shours f u) 6 = 0) → jJ p l e (jRm 5 0 0) s m args below meth c D cA N0 4 (MQ below (jQn D cA N0 Sh (jNv (fun I' P' L' => (∀ j, j < 10 → I' (y + 95) j = endv f 200 j) ∧ (∀ b, (b < y + 46 ∨ y + 91 ≤ b) → b ≠ y + 95 → I' b = I b) ∧ hFP P (y + 46) P' ∧ cT P' y ∧ L' = L))) args s 0 0 (fun q => N0 ≤ q)) (fun _ => True) Sh I3 P3 L 0 0 90 [some (.ref y), some (.int (nI b)), some (.int (nI (u + 1))), x3] [] := by
      intro I3 P3 o3 b x3 H3 G3 E3 F3 P3f hb hb0
      rcases (by omega : b = 0 ∨ b = 1) with rfl | rfl
      · have hz := hb0 rfl
        have E4 : ∀ j, j < 10 → I3 (y + 95) j = endv f 200 j := fun j hj => (E3 j hj).trans (endv_idle V.1 (by omega) hz).symm
        by_cases hl : u + 1 = 200
        · refine jx_iincN (pc := 90) C dX5_foreseeEnds_90 rfl (jset_2 jc_i) (by decide) ?_
          refine jx_goto (pc := 93) C (tgt := 39) dX5_foreseeEnds_93 (by decide) ?_
          refine jx_iload_n (pc := 39) C dX5_foreseeEnds_39 rfl ?_
          refine jx_sipush (pc := 40) C dX5_foreseeEnds_40 ns_200 ?_
          refine jx_icmp_gt (pc := 43) C (tgt := 96) dX5_foreseeEnds_43 (by decide) (fun c43 => ?_) (fun c43 => (by rw [nI_ltI (by omega) (by omega)] at c43; exfalso; omega))
          rw [nI_ltI (by omega) (by omega)] at c43
          exact lp_X5_endsX (I := I) (P := P) C S T G H V Gt hr I3 P3 o3 _ E4 F3 P3f G3
        · refine jx_iincN (pc := 90) C dX5_foreseeEnds_90 rfl (jset_2 jc_i) (by decide) ?_
          refine jx_goto (pc := 93) C (tgt := 39) dX5_foreseeEnds_93 (by decide) ?_
          refine jx_iload_n (pc := 39) C dX5_foreseeEnds_39 rfl ?_
          refine jx_sipush (pc := 40) C dX5_foreseeEnds_40 ns_200 ?_
          refine jx_icmp_gt (pc := 43) C (tgt := 96) dX5_foreseeEnds_43 (by decide) (fun c43 => (by rw [nI_ltI (by omega) (by omega)] at c43; exfalso; omega)) (fun c43 => ?_)
          rw [nI_ltI (by omega) (by omega)] at c43
          refine jx_iload_n (pc := 46) C dX5_foreseeEnds_46 rfl ?_
          refine jx_if_eq (pc := 47) C (tgt := 96) dX5_foreseeEnds_47 (by decide) (fun c47 => ?_) (fun c47 => (by exfalso; revert c47; decide))
          exact lp_X5_endsX (I := I) (P := P) C S T G H V Gt hr I3 P3 o3 _ E4 F3 P3f G3
      · refine jx_iincN (pc := 90) C dX5_foreseeEnds_90 rfl (jset_2 jc_i) (by decide) ?_
        refine jx_goto (pc := 93) C (tgt := 39) dX5_foreseeEnds_93 (by decide) ?_
        exact ih (u + 1) I3 P3 o3 _ (by omega) H3 G3 E3 F3 P3f
    have key74 : ∀ (I2 : jI) (P2 : jP) (o2 : Nat → Nat) (b : Nat), hR I2 (y + 46) o2 (shours f (u + 1)) → hG P2 (y + 46) o2 → hF I1 (y + 46) I2 → hFP P1 (y + 46) P2 → b ≤ 1 → (b = 0 → swork (shours f u) 6 = 0) → jJ p l e (jRm 5 0 0) s m args below meth c D cA N0 4 (MQ below (jQn D cA N0 Sh (jNv (fun I' P' L' => (∀ j, j < 10 → I' (y + 95) j = endv f 200 j) ∧ (∀ b, (b < y + 46 ∨ y + 91 ≤ b) → b ≠ y + 95 → I' b = I b) ∧ hFP P (y + 46) P' ∧ cT P' y ∧ L' = L))) args s 0 0 (fun q => N0 ≤ q)) (fun _ => True) Sh I2 P2 L 0 0 74 [some (.ref y), some (.int (nI b)), some (.int (nI (u + 1))), (some (.int (shours f u 7)))] [] := by
      intro I2 P2 o2 b H2 G2 F2 P2f hb hb0
      have P3f : hFP P (y + 46) P2 := P1f.tr P2f
      have T1 := T.ag (cE.trial P3f)
      have F3 : (∀ b, (b < y + 46 ∨ y + 91 ≤ b) → b ≠ y + 95 → I2 b = I b) := fun b h1 h2 => (F2 b (by omega)).trans (F1 b h1 h2)
      have hE2 : I2 (y + 95) = I1 (y + 95) := F2 _ (by omega)
      by_cases h7 : shours f (u + 1) 7 = shours f u 7
      · refine jx_aload_n (pc := 74) C dX5_foreseeEnds_74 rfl ?_
        refine jx_getP (pc := 75) C kf_X5_16 rfl S.obj T1.trial dX5_foreseeEnds_75 ?_
        refine jx_getIv (pc := 78) C kf_X5_151 rfl S.tr.hall H2.n8 dX5_foreseeEnds_78 ?_
        refine jx_iload_n (pc := 81) C dX5_foreseeEnds_81 rfl ?_
        refine jx_icmp_eq (pc := 82) C (tgt := 90) dX5_foreseeEnds_82 (by decide) (fun c82 => ?_) (fun c82 => (by exfalso; exact c82 h7))
        exact key I2 P2 o2 b _ H2 G2 (fun j hj => by rw [hE2, E1 j hj, endv_eq V.1 h7]) F3 P3f hb hb0
      · have Gm := G.fo P3f (by omega)
        have Hm := H.ag hk G.lt (fun b h1 h2 => F3 b (by omega) (by omega))
        refine jx_aload_n (pc := 74) C dX5_foreseeEnds_74 rfl ?_
        refine jx_getP (pc := 75) C kf_X5_16 rfl S.obj T1.trial dX5_foreseeEnds_75 ?_
        refine jx_getIv (pc := 78) C kf_X5_151 rfl S.tr.hall H2.n8 dX5_foreseeEnds_78 ?_
        refine jx_iload_n (pc := 81) C dX5_foreseeEnds_81 rfl ?_
        refine jx_icmp_eq (pc := 82) C (tgt := 90) dX5_foreseeEnds_82 (by decide) (fun c82 => (by exfalso; exact h7 c82)) (fun c82 => ?_)
        refine jx_aload_n (pc := 85) C dX5_foreseeEnds_85 rfl ?_
        refine jx_iload_n (pc := 86) C dX5_foreseeEnds_86 rfl ?_
        refine jx_callDv (pc := 87) C (go_X5_297 C S.obj (Nat.le_of_ble_eq_true rfl) dX5_foreseeEnds_87) (t_X5_noteEnds S T1 Gm Hm V G2 H2 (shours_I V (u + 1)) rfl) (by decide) (by decide) ⟨Nat.zero_le _, Nat.zero_le _⟩ ?_
        exact key _ P2 o2 b _ (H2.ag (shours_I V (u + 1)).1.2.1 G2.lt (fun b h1 h2 => va_up_n (by omega))) G2 (fun j hj => by rw [va_up_s]; unfold endR; rw [hE2, E1 j hj, endv_ne (by omega)]; by_cases hc : j < smany f ∧ endv f u j = -1 ∧ splace (shours f (u + 1)) (f (90 + 12 * j + 0)) = none; (rw [if_pos ⟨hj, hc⟩, if_pos hc]); (rw [if_neg (fun z => hc z.2), if_neg hc])) (fun b h1 h2 => (va_up_n h2).trans (F3 b h1 h2)) P3f hb hb0
    refine jx_iload_n (pc := 39) C dX5_foreseeEnds_39 rfl ?_
    refine jx_sipush (pc := 40) C dX5_foreseeEnds_40 ns_200 ?_
    refine jx_icmp_gt (pc := 43) C (tgt := 96) dX5_foreseeEnds_43 (by decide) (fun c43 => (by rw [nI_ltI (by omega) (by omega)] at c43; exfalso; omega)) (fun c43 => ?_)
    rw [nI_ltI (by omega) (by omega)] at c43
    refine jx_iload_n (pc := 46) C dX5_foreseeEnds_46 rfl ?_
    refine jx_if_eq (pc := 47) C (tgt := 96) dX5_foreseeEnds_47 (by decide) (fun c47 => (by exfalso; revert c47; decide)) (fun c47 => ?_)
    refine jx_aload_n (pc := 50) C dX5_foreseeEnds_50 rfl ?_
    refine jx_getP (pc := 51) C kf_X5_16 rfl S.obj T1.trial dX5_foreseeEnds_51 ?_
    refine jx_getIv (pc := 54) C kf_X5_151 rfl S.tr.hall H1.n8 dX5_foreseeEnds_54 ?_
    refine jx_istore_n (pc := 57) C dX5_foreseeEnds_57 (jset_3 jc_i) (by decide) ?_
    refine jx_aload_n (pc := 58) C dX5_foreseeEnds_58 rfl ?_
    refine jx_getP (pc := 59) C kf_X5_16 rfl S.obj T1.trial dX5_foreseeEnds_59 ?_
    refine jx_calli (pc := 62) C (go_X5_154 C S.tr.hall (Nat.le_of_ble_eq_true rfl) dX5_foreseeEnds_62) (t_X0_passHour S.tr T1.tr G1 H1 V1) (by decide) (by decide) ⟨Nat.zero_le _, Nat.zero_le _⟩ (fun r62 I62 P62 L62 q62 => ?_)
    obtain ⟨rfl, ⟨o2, H2, G2⟩, F2, P2f, rfl⟩ := q62
    refine jx_if_le (pc := 65) C (tgt := 72) dX5_foreseeEnds_65 (by decide) (fun c65 => ?_) (fun c65 => ?_)
    · rw [nI_le0 (by omega)] at c65
      refine jx_iconst (pc := 72) C dX5_foreseeEnds_72 nc_0 ?_
      refine jx_istore_n (pc := 73) C dX5_foreseeEnds_73 (jset_1 jc_r) (by decide) ?_
      exact key74 _ _ o2 0 H2 G2 F2 P2f (by decide) (fun _ => by omega)
    · rw [nI_le0 (by omega)] at c65
      refine jx_iconst (pc := 68) C dX5_foreseeEnds_68 nc_1 ?_
      refine jx_goto (pc := 69) C (tgt := 73) dX5_foreseeEnds_69 (by decide) ?_
      refine jx_istore_n (pc := 73) C dX5_foreseeEnds_73 (jset_1 jc_r) (by decide) ?_
      exact key74 _ _ o2 1 H2 G2 F2 P2f (by decide) (fun z => absurd z (by decide))
set_option maxHeartbeats 4000000 in
theorem lp_X5_ends0 {p : Program} {l : Launch} {e : Env} {s : State} {m : MethodId} {args : Array Value} {below : List Frame} {meth : Method} {c : Code} {D : va_G} {cA : Nat → ClassId} {N0 : Nat} {Sh : jS} {I : jI} {P : jP} {L : jL} {Qf : State → Prop} (C : jC p (jRm 5 0 0) s m args meth c D cA N0 cX5_foreseeEnds 4 RX5 5) {y : Nat} (S : cS Sh y) (T : cP P y) {J : jI} (hx : jJ p l e (jRm 5 0 0) s m args below meth c D cA N0 4 Qf (fun _ => True) Sh (va_up J (y + 95) (cpn (J (y + 95)) (fun _ => -1) 10)) P L 0 0 35 [some (.ref y), some (.int (nI 10)), none, none] []) : ∀ d i, i + d = 10 → jJ p l e (jRm 5 0 0) s m args below meth c D cA N0 4 Qf (fun _ => True) Sh (va_up J (y + 95) (cpn (J (y + 95)) (fun _ => -1) i)) P L 0 0 13 [some (.ref y), some (.int (nI i)), none, none] [] := by
  intro d
  induction d with
  | zero =>
    intro i hi
    obtain rfl : i = 10 := by omega
    refine jx_iload_n (pc := 13) C dX5_foreseeEnds_13 rfl ?_
    refine jx_aload_n (pc := 14) C dX5_foreseeEnds_14 rfl ?_
    refine jx_getP (pc := 15) C kf_X5_34 rfl S.obj T.ends dX5_foreseeEnds_15 ?_
    refine jx_alen10 (pc := 18) C S.en dX5_foreseeEnds_18 ?_
    refine jx_icmp_ge (pc := 19) C (tgt := 35) dX5_foreseeEnds_19 (by decide) (fun c19 => ?_) (fun c19 => (by rw [nI_leI (by omega) (by omega)] at c19; exfalso; omega))
    rw [nI_leI (by omega) (by omega)] at c19
    exact hx
  | succ d ih =>
    intro i hi
    refine jx_iload_n (pc := 13) C dX5_foreseeEnds_13 rfl ?_
    refine jx_aload_n (pc := 14) C dX5_foreseeEnds_14 rfl ?_
    refine jx_getP (pc := 15) C kf_X5_34 rfl S.obj T.ends dX5_foreseeEnds_15 ?_
    refine jx_alen10 (pc := 18) C S.en dX5_foreseeEnds_18 ?_
    refine jx_icmp_ge (pc := 19) C (tgt := 35) dX5_foreseeEnds_19 (by decide) (fun c19 => (by rw [nI_leI (by omega) (by omega)] at c19; exfalso; omega)) (fun c19 => ?_)
    rw [nI_leI (by omega) (by omega)] at c19
    refine jx_aload_n (pc := 22) C dX5_foreseeEnds_22 rfl ?_
    refine jx_getP (pc := 23) C kf_X5_34 rfl S.obj T.ends dX5_foreseeEnds_23 ?_
    refine jx_iload_n (pc := 26) C dX5_foreseeEnds_26 rfl ?_
    refine jx_iconst (pc := 27) C dX5_foreseeEnds_27 nc_m1 ?_
    refine jx_iast (pc := 28) C S.en (by omega) (by decide) dX5_foreseeEnds_28 ?_
    rw [jst_up, cpn_s]
    refine jx_iincN (pc := 29) C dX5_foreseeEnds_29 rfl (jset_1 jc_r) (by decide) ?_
    refine jx_goto (pc := 32) C (tgt := 13) dX5_foreseeEnds_32 (by decide) ?_
    exact ih (i + 1) (by omega)
set_option maxHeartbeats 4000000 in
theorem b_X5_foreseeEnds {p : Program} {l : Launch} {e : Env} {s : State} {m : MethodId} {args : Array Value} {below : List Frame} {meth : Method} {c : Code} {D : va_G} {cA : Nat → ClassId} {N0 : Nat} {Sh : jS} {I : jI} {P : jP} {L : jL} (C : jC p (jRm 5 0 0) s m args meth c D cA N0 cX5_foreseeEnds 4 RX5 5) (hr : meth.sig.returnType = none) {y : Nat} (S : cS Sh y) (T : cP P y) {f : sF} {og ot : Nat → Nat} (G : hG P (y + 1) og) (H : hR I (y + 1) og f) (V : sI f) (Gt : hG P (y + 46) ot) : jJ p l e (jRm 5 0 0) s m args below meth c D cA N0 4 (MQ below (jQn D cA N0 Sh (jNv (fun I' P' L' => (∀ j, j < 10 → I' (y + 95) j = endv f 200 j) ∧ (∀ b, (b < y + 46 ∨ y + 91 ≤ b) → b ≠ y + 95 → I' b = I b) ∧ hFP P (y + 46) P' ∧ cT P' y ∧ L' = L))) args s 0 0 (fun q => N0 ≤ q)) (fun _ => True) Sh I P L 0 0 0 [some (.ref y), none, none, none] [] := by
  have hk := V.1.2.1
  refine jx_aload_n (pc := 0) C dX5_foreseeEnds_0 rfl ?_
  refine jx_getP (pc := 1) C kf_X5_16 rfl S.obj T.trial dX5_foreseeEnds_1 ?_
  refine jx_aload_n (pc := 4) C dX5_foreseeEnds_4 rfl ?_
  refine jx_getP (pc := 5) C kf_X5_10 rfl S.obj T.hall dX5_foreseeEnds_5 ?_
  refine jx_callv (pc := 8) C (go_X5_185 C S.tr.hall (Nat.le_of_ble_eq_true rfl) dX5_foreseeEnds_8) (t_X0_copyFrom S.tr T.tr Gt S.h T.h G H hk (by omega)) (by decide) (by decide) ⟨Nat.zero_le _, Nat.zero_le _⟩ (fun I8 P8 L8 q8 => ?_)
  obtain ⟨H1, F1, rfl, rfl⟩ := q8
  refine jx_iconst (pc := 11) C dX5_foreseeEnds_11 nc_0 ?_
  refine jx_istore_n (pc := 12) C dX5_foreseeEnds_12 (jset_1 jc_r) (by decide) ?_
  refine jx_mem (I' := (va_up I8 (y + 95) (cpn (I8 (y + 95)) (fun _ => -1) 0))) (P' := _) (by rw [cpn_0]; exact va_up_id.symm) rfl ?_
  refine lp_X5_ends0 (I := I8) C S T ?_ 10 0 rfl
  refine jx_iconst (pc := 35) C dX5_foreseeEnds_35 nc_1 ?_
  refine jx_istore_n (pc := 36) C dX5_foreseeEnds_36 (jset_1 jc_r) (by decide) ?_
  refine jx_iconst (pc := 37) C dX5_foreseeEnds_37 nc_1 ?_
  refine jx_istore_n (pc := 38) C dX5_foreseeEnds_38 (jset_2 jc_i) (by decide) ?_
  exact lp_X5_ends (I := I) C S T G H V Gt hr 200 0 _ _ ot none (Nat.zero_add _) (H1.ag hk Gt.lt (fun b h1 h2 => va_up_n (by omega))) Gt (fun j hj => by rw [va_up_s, cpn_w hj]; unfold endv; split <;> rfl) (fun b h1 h2 => (va_up_n h2).trans (F1 b (by omega))) hFP.rf
theorem t_X5_foreseeEnds {l : Launch} {D : va_G} {cA : Nat → ClassId} {N0 : Nat} {Sh : jS} {I : jI} {P : jP} {L : jL} {y : Nat} (S : cS Sh y) (T : cP P y) {f : sF} {og ot : Nat → Nat} (G : hG P (y + 1) og) (H : hR I (y + 1) og f) (V : sI f) (Gt : hG P (y + 46) ot) : jN l D cA N0 5 yX5_foreseeEnds cX5_foreseeEnds 4 none [.ref y] Sh I P L (jNv (fun I' P' L' => (∀ j, j < 10 → I' (y + 95) j = endv f 200 j) ∧ (∀ b, (b < y + 46 ∨ y + 91 ≤ b) → b ≠ y + 95 → I' b = I b) ∧ hFP P (y + 46) P' ∧ cT P' y ∧ L' = L)) := jN_of (by decide) (Nat.le_of_ble_eq_true rfl) (fun _ _ _ _ _ _ _ _ C hr => b_X5_foreseeEnds C hr S T G H V Gt)
theorem sI_0 {f : sF} {r : Nat} (V : sI f) (hr : r ≤ 2) : sI (upd f 0 (nI r)) := by
  have h10 := V.1.2.1
  obtain ⟨a1, a2, a3, a4, a5⟩ := V.2.1
  refine sI_of V (sOK_0 V.1) ⟨?_, by rw [upd_n (by decide)]; exact a2, fun w hw => by rw [upd_n (by omega)]; exact a3 w hw, ?_, ?_⟩ (upd_n (by decide)) (fun q k hq hk => upd_n (by omega))
  · rw [upd_s]
    rcases (by omega : r = 0 ∨ r = 1 ∨ r = 2) with rfl | rfl | rfl
    · exact Or.inl rfl
    · exact Or.inr (Or.inl rfl)
    · exact Or.inr (Or.inr rfl)
  · rw [upd_n (by decide), a4]; exact ssum_c (fun w hw => (upd_n (by omega)).symm)
  · rw [upd_n (by decide), a5]; exact ssum_c (fun w hw => (upd_n (by omega)).symm)
set_option maxHeartbeats 4000000 in
theorem lp_X5_best {p : Program} {l : Launch} {e : Env} {s : State} {m : MethodId} {args : Array Value} {below : List Frame} {meth : Method} {c : Code} {D : va_G} {cA : Nat → ClassId} {N0 : Nat} {Sh : jS} {I : jI} {P : jP} {L : jL} (C : jC p (jRm 6 0 0) s m args meth c D cA N0 cX5_bestRuleFor 7 RX5 6) {y : Nat} (S : cS Sh y) (T : cP P y) {f : sF} (M : cM I P y f) (V : sI f) {n : Nat} (hn : n < 1000) (hr : meth.sig.returnType = some .int) : ∀ d r I1 P1 x, r + d = 3 → hF I (y + 46) I1 → hFP P (y + 46) P1 → cT P1 y → jJ p l e (jRm 6 0 0) s m args below meth c D cA N0 7 (MQ below (jQn D cA N0 Sh (jNi (fun v' I' P' L' => v' = sbest f n ∧ hF I (y + 46) I' ∧ hFP P (y + 46) P' ∧ cT P' y ∧ L' = L))) args s 0 0 (fun q => N0 ≤ q)) (fun _ => True) Sh I1 P1 L 0 0 10 [some (.ref y), some (.int (nI n)), some (.int (sbestN f n r).1), some (.int (sbestN f n r).2.1), some (.int (sbestN f n r).2.2), some (.int (nI r)), x] [] := by
  obtain ⟨og, H, G⟩ := M
  have hk := V.1.2.1
  obtain ⟨t1, hT1⟩ := C.2.2.2.2.2.2.1.2.2.2.1
  intro d
  induction d with
  | zero =>
    intro r I1 P1 x hi F1 P1f U1
    obtain rfl : r = 3 := by omega
    refine jx_iload (pc := 10) C dX5_bestRuleFor_10 rfl ?_
    refine jx_gets (pc := 12) C hT1 kg_X5_136 dX5_bestRuleFor_12 ?_
    refine jx_iconst (pc := 15) C dX5_bestRuleFor_15 nc_0 ?_
    refine jx_tld (pc := 16) C hT1 (by omega) (by decide) dX5_bestRuleFor_16 ?_
    rw [show jtMV 0 = nI 2 from rfl]
    refine jx_icmp_gt (pc := 17) C (tgt := 127) dX5_bestRuleFor_17 (by decide) (fun c17 => ?_) (fun c17 => (by rw [nI_ltI (by omega) (by omega)] at c17; exfalso; omega))
    rw [nI_ltI (by omega) (by omega)] at c17
    refine jx_iload_n (pc := 127) C dX5_bestRuleFor_127 rfl ?_
    exact jn_iret (pc := 128) C hr (⟨_, rfl, rfl, F1, P1f, U1, rfl⟩) dX5_bestRuleFor_128
  | succ d ih =>
    intro r I1 P1 x hi F1 P1f U1
    obtain ⟨ot, Gt⟩ := U1
    have T1 := T.ag (cE.trial P1f)
    have Hm := H.ag hk G.lt (fun b h1 h2 => F1 b (by omega))
    have Gm := G.fo P1f (by omega)
    have Vr := sI_0 (r := r) V (by omega)
    have key : ∀ (I3 : jI) (P3 : jP) (o3 : Nat → Nat) (g : sF) (b : Bool), hR I3 (y + 46) o3 g → hG P3 (y + 46) o3 → sQ g (shours (upd f 0 (nI r)) n) → hF I (y + 46) I3 → hFP P (y + 46) P3 → (b = true ↔ ((sbestN f n r).2.1 < shours (upd f 0 (nI r)) n 9 ∨ (shours (upd f 0 (nI r)) n 9 = (sbestN f n r).2.1 ∧ shours (upd f 0 (nI r)) n 8 < (sbestN f n r).2.2))) → jJ p l e (jRm 6 0 0) s m args below meth c D cA N0 7 (MQ below (jQn D cA N0 Sh (jNi (fun v' I' P' L' => v' = sbest f n ∧ hF I (y + 46) I' ∧ hFP P (y + 46) P' ∧ cT P' y ∧ L' = L))) args s 0 0 (fun q => N0 ≤ q)) (fun _ => True) Sh I3 P3 L 0 0 91 [some (.ref y), some (.int (nI n)), some (.int (sbestN f n r).1), some (.int (sbestN f n r).2.1), some (.int (sbestN f n r).2.2), some (.int (nI r)), some (.int (bI b))] [] := by
      intro I3 P3 o3 g b H3 G3 Q3 F3 P3f hb
      have T3 := T.ag (cE.trial P3f)
      have e9 : I3 (y + 46) 10 = shours (upd f 0 (nI r)) n 9 := H3.n10.trans (Q3 9 (by decide) (by decide) (by decide))
      have e8 : I3 (y + 46) 9 = shours (upd f 0 (nI r)) n 8 := H3.n9.trans (Q3 8 (by decide) (by decide) (by decide))
      have hup : ((sbestN f n r).1 = -1 ∨ ((sbestN f n r).2.1 < shours (upd f 0 (nI r)) n 9 ∨ (shours (upd f 0 (nI r)) n 9 = (sbestN f n r).2.1 ∧ shours (upd f 0 (nI r)) n 8 < (sbestN f n r).2.2))) → jJ p l e (jRm 6 0 0) s m args below meth c D cA N0 7 (MQ below (jQn D cA N0 Sh (jNi (fun v' I' P' L' => v' = sbest f n ∧ hF I (y + 46) I' ∧ hFP P (y + 46) P' ∧ cT P' y ∧ L' = L))) args s 0 0 (fun q => N0 ≤ q)) (fun _ => True) Sh I3 P3 L 0 0 101 [some (.ref y), some (.int (nI n)), some (.int (sbestN f n r).1), some (.int (sbestN f n r).2.1), some (.int (sbestN f n r).2.2), some (.int (nI r)), some (.int (bI b))] [] := by
        intro hc
        have hs : sbestN f n (r + 1) = (nI r, shours (upd f 0 (nI r)) n 9, shours (upd f 0 (nI r)) n 8) := if_pos hc
        have h4 := ih (r + 1) I3 P3 (some (.int (bI b))) (by omega) F3 P3f ⟨o3, G3⟩
        rw [hs] at h4
        refine jx_iload (pc := 101) C dX5_bestRuleFor_101 rfl ?_
        refine jx_istore_n (pc := 103) C dX5_bestRuleFor_103 (jset_2 jc_i) (by decide) ?_
        refine jx_aload_n (pc := 104) C dX5_bestRuleFor_104 rfl ?_
        refine jx_getP (pc := 105) C kf_X5_16 rfl S.obj T3.trial dX5_bestRuleFor_105 ?_
        refine jx_getIv (pc := 108) C kf_X5_288 rfl S.tr.hall e9 dX5_bestRuleFor_108 ?_
        refine jx_istore_n (pc := 111) C dX5_bestRuleFor_111 (jset_3 jc_i) (by decide) ?_
        refine jx_aload_n (pc := 112) C dX5_bestRuleFor_112 rfl ?_
        refine jx_getP (pc := 113) C kf_X5_16 rfl S.obj T3.trial dX5_bestRuleFor_113 ?_
        refine jx_getIv (pc := 116) C kf_X5_294 rfl S.tr.hall e8 dX5_bestRuleFor_116 ?_
        refine jx_istore (pc := 119) C dX5_bestRuleFor_119 (jset_4 jc_i) (by decide) ?_
        refine jx_iincN (pc := 121) C dX5_bestRuleFor_121 rfl (jset_5 jc_i) (by decide) ?_
        refine jx_goto (pc := 124) C (tgt := 10) dX5_bestRuleFor_124 (by decide) ?_
        exact h4
      by_cases h1 : (sbestN f n r).1 = -1
      · refine jx_iload_n (pc := 91) C dX5_bestRuleFor_91 rfl ?_
        refine jx_iconst (pc := 92) C dX5_bestRuleFor_92 nc_m1 ?_
        refine jx_icmp_eq (pc := 93) C (tgt := 101) dX5_bestRuleFor_93 (by decide) (fun c93 => ?_) (fun c93 => (by exfalso; exact c93 h1))
        exact hup (Or.inl h1)
      · cases b with
        | true =>
          refine jx_iload_n (pc := 91) C dX5_bestRuleFor_91 rfl ?_
          refine jx_iconst (pc := 92) C dX5_bestRuleFor_92 nc_m1 ?_
          refine jx_icmp_eq (pc := 93) C (tgt := 101) dX5_bestRuleFor_93 (by decide) (fun c93 => (by exfalso; exact h1 c93)) (fun c93 => ?_)
          refine jx_iload (pc := 96) C dX5_bestRuleFor_96 rfl ?_
          refine jx_if_eq (pc := 98) C (tgt := 121) dX5_bestRuleFor_98 (by decide) (fun c98 => (by exfalso; exact absurd c98 (by decide))) (fun c98 => ?_)
          exact hup (Or.inr (hb.mp rfl))
        | false =>
          have hs : sbestN f n (r + 1) = sbestN f n r := if_neg (fun z => z.elim h1 (fun w => Bool.noConfusion (hb.mpr w)))
          have h4 := ih (r + 1) I3 P3 (some (.int (bI false))) (by omega) F3 P3f ⟨o3, G3⟩
          rw [hs] at h4
          refine jx_iload_n (pc := 91) C dX5_bestRuleFor_91 rfl ?_
          refine jx_iconst (pc := 92) C dX5_bestRuleFor_92 nc_m1 ?_
          refine jx_icmp_eq (pc := 93) C (tgt := 101) dX5_bestRuleFor_93 (by decide) (fun c93 => (by exfalso; exact h1 c93)) (fun c93 => ?_)
          refine jx_iload (pc := 96) C dX5_bestRuleFor_96 rfl ?_
          refine jx_if_eq (pc := 98) C (tgt := 121) dX5_bestRuleFor_98 (by decide) (fun c98 => ?_) (fun c98 => (by exfalso; exact c98 rfl))
          refine jx_iincN (pc := 121) C dX5_bestRuleFor_121 rfl (jset_5 jc_i) (by decide) ?_
          refine jx_goto (pc := 124) C (tgt := 10) dX5_bestRuleFor_124 (by decide) ?_
          exact h4
    refine jx_iload (pc := 10) C dX5_bestRuleFor_10 rfl ?_
    refine jx_gets (pc := 12) C hT1 kg_X5_136 dX5_bestRuleFor_12 ?_
    refine jx_iconst (pc := 15) C dX5_bestRuleFor_15 nc_0 ?_
    refine jx_tld (pc := 16) C hT1 (by omega) (by decide) dX5_bestRuleFor_16 ?_
    rw [show jtMV 0 = nI 2 from rfl]
    refine jx_icmp_gt (pc := 17) C (tgt := 127) dX5_bestRuleFor_17 (by decide) (fun c17 => (by rw [nI_ltI (by omega) (by omega)] at c17; exfalso; omega)) (fun c17 => ?_)
    rw [nI_ltI (by omega) (by omega)] at c17
    refine jx_aload_n (pc := 20) C dX5_bestRuleFor_20 rfl ?_
    refine jx_getP (pc := 21) C kf_X5_16 rfl S.obj T1.trial dX5_bestRuleFor_21 ?_
    refine jx_aload_n (pc := 24) C dX5_bestRuleFor_24 rfl ?_
    refine jx_getP (pc := 25) C kf_X5_10 rfl S.obj T1.hall dX5_bestRuleFor_25 ?_
    refine jx_callv (pc := 28) C (go_X5_185 C S.tr.hall (Nat.le_of_ble_eq_true rfl) dX5_bestRuleFor_28) (t_X0_copyFrom S.tr T1.tr Gt S.h T1.h Gm Hm hk (by omega)) (by decide) (by decide) ⟨Nat.zero_le _, Nat.zero_le _⟩ (fun I28 P28 L28 q28 => ?_)
    obtain ⟨H2, F2, rfl, rfl⟩ := q28
    refine jx_aload_n (pc := 31) C dX5_bestRuleFor_31 rfl ?_
    refine jx_getP (pc := 32) C kf_X5_16 rfl S.obj T1.trial dX5_bestRuleFor_32 ?_
    refine jx_getP (pc := 35) C kf_X5_141 rfl S.tr.hall T1.tr.se dX5_bestRuleFor_35 ?_
    refine jx_iconst (pc := 38) C dX5_bestRuleFor_38 nc_0 ?_
    refine jx_iload (pc := 39) C dX5_bestRuleFor_39 rfl ?_
    refine jx_iast (pc := 41) C S.tr.se (by omega) (by decide) dX5_bestRuleFor_41 ?_
    have R1 := H2.pe (k := 0) hk Gt.lt (by decide) (v := nI r)
    refine jx_aload_n (pc := 42) C dX5_bestRuleFor_42 rfl ?_
    refine jx_getP (pc := 43) C kf_X5_16 rfl S.obj T1.trial dX5_bestRuleFor_43 ?_
    refine jx_iload_n (pc := 46) C dX5_bestRuleFor_46 rfl ?_
    refine jx_callv (pc := 47) C (go_X5_284 C S.tr.hall (Nat.le_of_ble_eq_true rfl) dX5_bestRuleFor_47) (t_X0_foresee S.tr T1.tr Gt R1 Vr hn) (by decide) (by decide) ⟨Nat.zero_le _, Nat.zero_le _⟩ (fun I47 P47 L47 q47 => ?_)
    obtain ⟨⟨o3, g, H3, Vg, G3, Q3⟩, F3, P3f, rfl⟩ := q47
    have F4 : hF I (y + 46) I47 := F1.tr (F2.tr ((hF.rf.st (by omega)).tr F3))
    have P4f : hFP P (y + 46) P47 := P1f.tr P3f
    have T3 := T.ag (cE.trial P4f)
    have e9 : I47 (y + 46) 10 = shours (upd f 0 (nI r)) n 9 := H3.n10.trans (Q3 9 (by decide) (by decide) (by decide))
    have e8 : I47 (y + 46) 9 = shours (upd f 0 (nI r)) n 8 := H3.n9.trans (Q3 8 (by decide) (by decide) (by decide))
    refine jx_aload_n (pc := 50) C dX5_bestRuleFor_50 rfl ?_
    refine jx_getP (pc := 51) C kf_X5_16 rfl S.obj T3.trial dX5_bestRuleFor_51 ?_
    refine jx_getIv (pc := 54) C kf_X5_288 rfl S.tr.hall e9 dX5_bestRuleFor_54 ?_
    refine jx_iload_n (pc := 57) C dX5_bestRuleFor_57 rfl ?_
    refine jx_icmp_gt (pc := 58) C (tgt := 84) dX5_bestRuleFor_58 (by decide) (fun c58 => ?_) (fun c58 => ?_)
    · refine jx_iconst (pc := 84) C dX5_bestRuleFor_84 nc_1 ?_
      refine jx_goto (pc := 85) C (tgt := 89) dX5_bestRuleFor_85 (by decide) ?_
      refine jx_istore (pc := 89) C dX5_bestRuleFor_89 (jset_6 jc_i) (by decide) ?_
      exact key I47 P47 o3 g true H3 G3 Q3 F4 P4f ⟨fun _ => by first | exact Or.inl c58 | exact Or.inr ⟨c69, i32_nle.mp c81⟩, fun _ => rfl⟩
    · refine jx_aload_n (pc := 61) C dX5_bestRuleFor_61 rfl ?_
      refine jx_getP (pc := 62) C kf_X5_16 rfl S.obj T3.trial dX5_bestRuleFor_62 ?_
      refine jx_getIv (pc := 65) C kf_X5_288 rfl S.tr.hall e9 dX5_bestRuleFor_65 ?_
      refine jx_iload_n (pc := 68) C dX5_bestRuleFor_68 rfl ?_
      refine jx_icmp_ne (pc := 69) C (tgt := 88) dX5_bestRuleFor_69 (by decide) (fun c69 => ?_) (fun c69 => ?_)
      · refine jx_iconst (pc := 88) C dX5_bestRuleFor_88 nc_0 ?_
        refine jx_istore (pc := 89) C dX5_bestRuleFor_89 (jset_6 jc_i) (by decide) ?_
        exact key I47 P47 o3 g false H3 G3 Q3 F4 P4f ⟨fun h => Bool.noConfusion h, fun h => by
          exfalso
          rcases h with h | ⟨h, h'⟩
          · exact c58 h
          · first | exact c69 h | exact i32_nlt.mpr c81 h'⟩
      · refine jx_aload_n (pc := 72) C dX5_bestRuleFor_72 rfl ?_
        refine jx_getP (pc := 73) C kf_X5_16 rfl S.obj T3.trial dX5_bestRuleFor_73 ?_
        refine jx_getIv (pc := 76) C kf_X5_294 rfl S.tr.hall e8 dX5_bestRuleFor_76 ?_
        refine jx_iload (pc := 79) C dX5_bestRuleFor_79 rfl ?_
        refine jx_icmp_ge (pc := 81) C (tgt := 88) dX5_bestRuleFor_81 (by decide) (fun c81 => ?_) (fun c81 => ?_)
        · refine jx_iconst (pc := 88) C dX5_bestRuleFor_88 nc_0 ?_
          refine jx_istore (pc := 89) C dX5_bestRuleFor_89 (jset_6 jc_i) (by decide) ?_
          exact key I47 P47 o3 g false H3 G3 Q3 F4 P4f ⟨fun h => Bool.noConfusion h, fun h => by
            exfalso
            rcases h with h | ⟨h, h'⟩
            · exact c58 h
            · first | exact c69 h | exact i32_nlt.mpr c81 h'⟩
        · refine jx_iconst (pc := 84) C dX5_bestRuleFor_84 nc_1 ?_
          refine jx_goto (pc := 85) C (tgt := 89) dX5_bestRuleFor_85 (by decide) ?_
          refine jx_istore (pc := 89) C dX5_bestRuleFor_89 (jset_6 jc_i) (by decide) ?_
          exact key I47 P47 o3 g true H3 G3 Q3 F4 P4f ⟨fun _ => by first | exact Or.inl c58 | exact Or.inr ⟨c69, i32_nle.mp c81⟩, fun _ => rfl⟩
set_option maxHeartbeats 4000000 in
theorem b_X5_bestRuleFor {p : Program} {l : Launch} {e : Env} {s : State} {m : MethodId} {args : Array Value} {below : List Frame} {meth : Method} {c : Code} {D : va_G} {cA : Nat → ClassId} {N0 : Nat} {Sh : jS} {I : jI} {P : jP} {L : jL} (C : jC p (jRm 6 0 0) s m args meth c D cA N0 cX5_bestRuleFor 7 RX5 6) (hr : meth.sig.returnType = (some .int)) {y : Nat} (S : cS Sh y) (T : cP P y) {f : sF} (M : cM I P y f) (V : sI f) (U : cT P y) {n : Nat} (hn : n < 1000) : jJ p l e (jRm 6 0 0) s m args below meth c D cA N0 7 (MQ below (jQn D cA N0 Sh (jNi (fun v' I' P' L' => v' = sbest f n ∧ hF I (y + 46) I' ∧ hFP P (y + 46) P' ∧ cT P' y ∧ L' = L))) args s 0 0 (fun q => N0 ≤ q)) (fun _ => True) Sh I P L 0 0 0 [some (.ref y), some (.int (nI n)), none, none, none, none, none] [] := by
  refine jx_iconst (pc := 0) C dX5_bestRuleFor_0 nc_m1 ?_
  refine jx_istore_n (pc := 1) C dX5_bestRuleFor_1 (jset_2 jc_i) (by decide) ?_
  refine jx_iconst (pc := 2) C dX5_bestRuleFor_2 nc_0 ?_
  refine jx_istore_n (pc := 3) C dX5_bestRuleFor_3 (jset_3 jc_i) (by decide) ?_
  refine jx_iconst (pc := 4) C dX5_bestRuleFor_4 nc_0 ?_
  refine jx_istore (pc := 5) C dX5_bestRuleFor_5 (jset_4 jc_i) (by decide) ?_
  refine jx_iconst (pc := 7) C dX5_bestRuleFor_7 nc_0 ?_
  refine jx_istore (pc := 8) C dX5_bestRuleFor_8 (jset_5 jc_i) (by decide) ?_
  exact lp_X5_best (I := I) (P := P) C S T M V hn hr 3 0 I P none rfl hF.rf hFP.rf U
theorem t_X5_bestRuleFor {l : Launch} {D : va_G} {cA : Nat → ClassId} {N0 : Nat} {Sh : jS} {I : jI} {P : jP} {L : jL} {y : Nat} (S : cS Sh y) (T : cP P y) {f : sF} (M : cM I P y f) (V : sI f) (U : cT P y) {n : Nat} (hn : n < 1000) : jN l D cA N0 6 yX5_bestRuleFor cX5_bestRuleFor 7 (some .int) [.ref y, .int (nI n)] Sh I P L (jNi (fun v' I' P' L' => v' = sbest f n ∧ hF I (y + 46) I' ∧ hFP P (y + 46) P' ∧ cT P' y ∧ L' = L)) := jN_of (by decide) (Nat.le_of_ble_eq_true rfl) (fun _ _ _ _ _ _ _ _ C hr => b_X5_bestRuleFor C hr S T M V U hn)
