/-- the end of a reference's method that changes nothing that is asked later -/
def mSame (I : jI) (x : Nat) (I' : jI) : Prop := (∀ b, b < x ∨ x + 6 < b → I' b = I b) ∧ I' (x + 1) = I (x + 1) ∧ I' (x + 3) = I (x + 3) ∧ I' (x + 4) = I (x + 4) ∧ I' x 3 = I x 3 ∧ I' x 5 = I x 5
def mQu (I : jI) (P : jP) (L : jL) (x : Nat) (S : Nat × Int32) : Option Value → jI → jP → jL → Prop := fun v I' P' L' => P' = P ∧ L' = L ∧ ∃ r, v = some (.int r) ∧ I' x 6 = nI S.1 ∧ (S.1 = 0 → r = S.2) ∧ mSame I x I'
theorem mSame_t {I : jI} {x : Nat} {v : Int32} : mSame I x (jst I x 6 v) := ⟨fun b hb => jst_ne (by omega), jst_ne (by omega), jst_ne (by omega), jst_ne (by omega), by rw [jst_eq, upd_n (by decide)], by rw [jst_eq, upd_n (by decide)]⟩
theorem mSame_tr {I I1 I2 : jI} {x : Nat} (h : mSame I x I1) (h2 : mSame I1 x I2) : mSame I x I2 := ⟨fun b hb => (h2.1 b hb).trans (h.1 b hb), h2.2.1.trans h.2.1, h2.2.2.1.trans h.2.2.1, h2.2.2.2.1.trans h.2.2.2.1, h2.2.2.2.2.1.trans h.2.2.2.2.1, h2.2.2.2.2.2.trans h.2.2.2.2.2⟩
theorem mQu_fail {I : jI} {P : jP} {L : jL} {x k : Nat} {S : Nat × Int32} (e : S.1 = k) (hk : k ≠ 0) : mQu I P L x S (some (.int (nI 0))) (jst (jst I x 6 (nI 0)) x 6 (nI k)) P L :=
  ⟨rfl, rfl, _, rfl, by rw [e, jst_eq, upd_s], fun h => absurd (e.symm.trans h) hk, mSame_tr mSame_t mSame_t⟩
theorem mQu_ok {I : jI} {P : jP} {L : jL} {x : Nat} {S : Nat × Int32} {r : Int32} (e : S = (0, r)) : mQu I P L x S (some (.int r)) (jst I x 6 (nI 0)) P L := by
  subst e
  exact ⟨rfl, rfl, _, rfl, by rw [jst_eq, upd_s], fun _ => rfl, mSame_t⟩
theorem mQu_okG {I I' : jI} {P : jP} {L : jL} {x : Nat} {S : Nat × Int32} {r : Int32} (e : S = (0, r)) (h6 : I' x 6 = nI 0) (hs : mSame I x I') : mQu I P L x S (some (.int r)) I' P L := by
  subst e
  exact ⟨rfl, rfl, _, rfl, h6, fun _ => rfl, hs⟩
def sweaver (f : sF) (wv kv : Int32) : Nat × Int32 := if nI 0 ≤ wv ∧ wv ≤ nI 5 then if nI 0 ≤ kv ∧ kv ≤ nI 7 then (0, f (18 + 12 * sW wv + sW kv)) else (2, nI 0) else (1, nI 0)
def sshare (f : sF) (wv cv : Int32) : Nat × Int32 := if (wv = -1 ∨ (nI 0 ≤ wv ∧ wv ≤ nI 5)) ∧ (nI 0 ≤ cv ∧ cv ≤ nI 3) then (0, if wv = -1 then f (14 + sW cv) else f (18 + 12 * sW wv + (8 + sW cv))) else (1, nI 0)
def swideN (f : sF) (o : Nat) : Nat → Int32 | 0 => nI 0 | w + 1 => swideN f o w + (if f (18 + 12 * w + 0) < f (90 + 12 * o + 2) then nI 0 else nI 1)
def sofOrder (f : sF) (o k : Nat) : Int32 := if k < 7 then if k < 6 then f (90 + 12 * o + k) else sgood f o else if k = 7 then (f (90 + 12 * o + 3) - sgood f o) * sgrams f o else swideN f o 6
def sorderOf (f : sF) (pv kv : Int32) : Nat × Int32 := if ¬ pv < 0 ∧ (nI 0 ≤ kv ∧ kv ≤ nI 8) then (0, if f 5 ≤ pv then -1 else sofOrder f (sW pv) (sW kv)) else (1, nI 0)
def swovenBy (f : sF) (pv wv : Int32) : Nat × Int32 := if 0 ≤ pv then if nI 0 ≤ wv ∧ wv ≤ nI 5 then (0, if f 5 ≤ pv then -1 else f (90 + 12 * sW pv + (6 + sW wv))) else (2, nI 0) else (1, nI 0)
/-- the chosen order of a weaver, none without a loom -/
def snch (f : sF) (w : Nat) : Option Nat := if f (18 + 12 * w + 0) = 0 then none else schos f w
def snext0 (f : sF) (w : Nat) : Int32 := match snch f w with | none => -1 | some o => f (90 + 12 * o + 0)
def snext1 (f : sF) (w : Nat) : Int32 := match snch f w with
  | none => if f (18 + 12 * w + 0) = 0 then nI 1 else nI 2
  | some o => if sgrams f o ≤ f (18 + 12 * w + (8 + scol f o)) ∨ (f 1 = nI 1 ∧ sgrams f o ≤ f (14 + scol f o)) then nI 0 else nI 3
def snextK (f : sF) (w k : Nat) : Int32 := if k = 0 then snext0 f w else snext1 f w
def snext (f : sF) (wv kv : Int32) : Nat × Int32 := if nI 0 ≤ wv ∧ wv ≤ nI 5 then if nI 0 ≤ kv ∧ kv ≤ nI 1 then (0, snextK f (sW wv) (sW kv)) else (2, nI 0) else (1, nI 0)
def sdebts (f : sF) : Int32 := ssum (fun w => f (18 + 12 * w + 3)) 6
def sloomsN (f : sF) : Nat → Int32 | 0 => nI 0 | w + 1 => sloomsN f w + (if f (18 + 12 * w + 0) ≤ 0 then nI 0 else nI 1)
def scounted (f : sF) (kept : Int32) (k : Nat) : Int32 := if k < 2 then f (4 + k) else if k < 8 then f (7 + k - 2) else if k = 8 then sdebts f else if k = 9 then sloomsN f 6 else if k = 10 then f 13 else kept
def scount (f : sF) (kept kv : Int32) : Nat × Int32 := if nI 0 ≤ kv ∧ kv ≤ nI 11 then (0, scounted f kept (sW kv)) else (1, nI 0)
def ssetting (f : sF) (sv : Int32) : Nat × Int32 := if nI 0 ≤ sv ∧ sv ≤ nI 3 then (0, f (sW sv)) else (1, nI 0)
set_option maxHeartbeats 4000000 in
theorem b_X6_weaver {p : Program} {l : Launch} {e : Env} {s : State} {m : MethodId} {args : Array Value} {below : List Frame} {meth : Method} {c : Code} {D : va_G} {cA : Nat → ClassId} {N0 : Nat} {Sh : jS} {I : jI} {P : jP} {L : jL} (C : jC p (jRm 2 0 0) s m args meth c D cA N0 cX6_weaver 3 RX6 2) (hr : meth.sig.returnType = (some .int)) {x : Nat} (hS : mS Sh x) (hP : mP P x) {wv kv : Int32} : jJ p l e (jRm 2 0 0) s m args below meth c D cA N0 3 (MQ below (jQn D cA N0 Sh (mQu I P L x (sweaver (I (x + 1)) wv kv))) args s 0 0 (fun q => N0 ≤ q)) (fun _ => True) Sh I P L 0 0 0 [some (.ref x), some (.int wv), some (.int kv)] [] := by
  have e0 : jst I x 6 (nI 0) (x + 1) = I (x + 1) := jst_ne (by omega)
  refine jx_aload_n (pc := 0) C dX6_weaver_0 rfl ?_
  refine jx_iconst (pc := 1) C dX6_weaver_1 nc_0 ?_
  refine jx_putI (pc := 2) C kf_X6_28 rfl rfl rfl rfl hS.1 dX6_weaver_2 ?_
  refine jx_iload_n (pc := 5) C dX6_weaver_5 rfl ?_
  refine jx_callD (pc := 6) C (go_X6_103 C  (Nat.le_of_ble_eq_true rfl) dX6_weaver_6) t_X6_isWeaver (by decide) (by decide) ⟨Nat.zero_le _, Nat.zero_le _⟩ ?_
  refine jx_if_ne (pc := 9) C (tgt := 18) dX6_weaver_9 (by decide) (fun c9 => ?_) (fun c9 => ?_)
  · rw [bI_0, decide_eq_false_iff_not, Decidable.not_not] at c9
    obtain ⟨w, hw, rfl⟩ := in_N (by decide) c9
    refine jx_iload_n (pc := 18) C dX6_weaver_18 rfl ?_
    refine jx_iconst (pc := 19) C dX6_weaver_19 nc_0 ?_
    refine jx_bipush (pc := 20) C dX6_weaver_20 nb_7 ?_
    refine jx_callD (pc := 22) C (go_X6_32 C  (Nat.le_of_ble_eq_true rfl) dX6_weaver_22) t_X6_in (by decide) (by decide) ⟨Nat.zero_le _, Nat.zero_le _⟩ ?_
    refine jx_if_eq (pc := 25) C (tgt := 40) dX6_weaver_25 (by decide) (fun c25 => ?_) (fun c25 => ?_)
    · rw [bI_0, decide_eq_false_iff_not] at c25
      refine jx_aload_n (pc := 40) C dX6_weaver_40 rfl ?_
      refine jx_iconst (pc := 41) C dX6_weaver_41 nc_2 ?_
      refine jx_callD (pc := 42) C (go_X6_39 C hS.1 (Nat.le_of_ble_eq_true rfl) dX6_weaver_42) (t_X6_fails hS.1) (by decide) (by decide) ⟨Nat.zero_le _, Nat.zero_le _⟩ ?_
      exact jn_iret (pc := 45) C hr (by first | exact mQu_ok (by unfold sweaver; rw [if_pos (nI_inn (by decide) hw), if_pos c25, sW_N (by omega), sW_N (by omega)]) | exact mQu_fail (k := 2) (by unfold sweaver; rw [if_pos (nI_inn (by decide) hw), if_neg c25]) (by decide)) dX6_weaver_45
    · rw [bI_0, decide_eq_false_iff_not, Decidable.not_not] at c25
      obtain ⟨k, hk, rfl⟩ := in_N (by decide) c25
      refine jx_aload_n (pc := 28) C dX6_weaver_28 rfl ?_
      refine jx_getP (pc := 29) C kf_X6_7 rfl hS.1 hP.1 dX6_weaver_29 ?_
      refine jx_iload_n (pc := 32) C dX6_weaver_32 rfl ?_
      refine jx_iload_n (pc := 33) C dX6_weaver_33 rfl ?_
      refine jx_callD (pc := 34) C (go_X6_47 C  (Nat.le_of_ble_eq_true rfl) dX6_weaver_34) (t_X6_ofv hS.2.1 (by omega) (congrFun e0 _)) (by decide) (by decide) ⟨Nat.zero_le _, Nat.zero_le _⟩ ?_
      refine jx_goto (pc := 37) C (tgt := 45) dX6_weaver_37 (by decide) ?_
      exact jn_iret (pc := 45) C hr (by first | exact mQu_ok (by unfold sweaver; rw [if_pos (nI_inn (by decide) hw), if_pos c25, sW_N (by omega), sW_N (by omega)]) | exact mQu_fail (k := 2) (by unfold sweaver; rw [if_pos (nI_inn (by decide) hw), if_neg c25]) (by decide)) dX6_weaver_45
  · rw [bI_0, decide_eq_false_iff_not] at c9
    refine jx_aload_n (pc := 12) C dX6_weaver_12 rfl ?_
    refine jx_iconst (pc := 13) C dX6_weaver_13 nc_1 ?_
    refine jx_callD (pc := 14) C (go_X6_39 C hS.1 (Nat.le_of_ble_eq_true rfl) dX6_weaver_14) (t_X6_fails hS.1) (by decide) (by decide) ⟨Nat.zero_le _, Nat.zero_le _⟩ ?_
    exact jn_iret (pc := 17) C hr (mQu_fail (k := 1) (by unfold sweaver; rw [if_neg c9]) (by decide)) dX6_weaver_17
theorem t_X6_weaver {l : Launch} {D : va_G} {cA : Nat → ClassId} {N0 : Nat} {Sh : jS} {I : jI} {P : jP} {L : jL} {x : Nat} (hS : mS Sh x) (hP : mP P x) {wv kv : Int32} : jN l D cA N0 2 yX6_weaver cX6_weaver 3 (some .int) [.ref x, .int wv, .int kv] Sh I P L (mQu I P L x (sweaver (I (x + 1)) wv kv)) := jN_of (by decide) (Nat.le_of_ble_eq_true rfl) (fun _ _ _ _ _ _ _ _ C hr => b_X6_weaver C hr hS hP)
set_option maxHeartbeats 4000000 in
theorem b_X6_share {p : Program} {l : Launch} {e : Env} {s : State} {m : MethodId} {args : Array Value} {below : List Frame} {meth : Method} {c : Code} {D : va_G} {cA : Nat → ClassId} {N0 : Nat} {Sh : jS} {I : jI} {P : jP} {L : jL} (C : jC p (jRm 2 0 0) s m args meth c D cA N0 cX6_share 3 RX6 2) (hr : meth.sig.returnType = (some .int)) {x : Nat} (hS : mS Sh x) (hP : mP P x) {wv cv : Int32} : jJ p l e (jRm 2 0 0) s m args below meth c D cA N0 3 (MQ below (jQn D cA N0 Sh (mQu I P L x (sshare (I (x + 1)) wv cv))) args s 0 0 (fun q => N0 ≤ q)) (fun _ => True) Sh I P L 0 0 0 [some (.ref x), some (.int wv), some (.int cv)] [] := by
  have e0 : jst I x 6 (nI 0) (x + 1) = I (x + 1) := jst_ne (by omega)
  refine jx_aload_n (pc := 0) C dX6_share_0 rfl ?_
  refine jx_iconst (pc := 1) C dX6_share_1 nc_0 ?_
  refine jx_putI (pc := 2) C kf_X6_28 rfl rfl rfl rfl hS.1 dX6_share_2 ?_
  refine jx_iload_n (pc := 5) C dX6_share_5 rfl ?_
  refine jx_iconst (pc := 6) C dX6_share_6 nc_m1 ?_
  refine jx_icmp_eq (pc := 7) C (tgt := 17) dX6_share_7 (by decide) (fun c7 => ?_) (fun c7 => ?_)
  · refine jx_iload_n (pc := 17) C dX6_share_17 rfl ?_
    refine jx_callD (pc := 18) C (go_X6_110 C  (Nat.le_of_ble_eq_true rfl) dX6_share_18) t_X6_isColour (by decide) (by decide) ⟨Nat.zero_le _, Nat.zero_le _⟩ ?_
    refine jx_if_ne (pc := 21) C (tgt := 30) dX6_share_21 (by decide) (fun c21 => ?_) (fun c21 => ?_)
    · rw [bI_0, decide_eq_false_iff_not, Decidable.not_not] at c21
      obtain ⟨c0, hc, rfl⟩ := in_N (by decide) c21
      refine jx_iload_n (pc := 30) C dX6_share_30 rfl ?_
      refine jx_iconst (pc := 31) C dX6_share_31 nc_m1 ?_
      refine jx_icmp_ne (pc := 32) C (tgt := 47) dX6_share_32 (by decide) (fun c32 => ?_) (fun c32 => ?_)
      · have h14 : nI 0 ≤ wv ∧ wv ≤ nI 5 := by first | exact c14 | exact absurd c7 c32
        obtain ⟨w, hw, rfl⟩ := in_N (by decide) h14
        refine jx_aload_n (pc := 47) C dX6_share_47 rfl ?_
        refine jx_getP (pc := 48) C kf_X6_7 rfl hS.1 hP.1 dX6_share_48 ?_
        refine jx_iload_n (pc := 51) C dX6_share_51 rfl ?_
        refine jx_bipush (pc := 52) C dX6_share_52 nb_8 ?_
        refine jx_iload_n (pc := 54) C dX6_share_54 rfl ?_
        refine jx_iaddN (pc := 55) C dX6_share_55 ?_
        refine jx_callD (pc := 56) C (go_X6_47 C  (Nat.le_of_ble_eq_true rfl) dX6_share_56) (t_X6_ofv hS.2.1 (by omega) (congrFun e0 _)) (by decide) (by decide) ⟨Nat.zero_le _, Nat.zero_le _⟩ ?_
        exact jn_iret (pc := 59) C hr (by
          have hcc := nI_inn (w := c0) (n := 3) (by decide) (by omega)
          first
            | exact mQu_ok (by unfold sshare; rw [if_pos ⟨Or.inl c32, hcc⟩, if_pos c32, sW_N (by omega)])
            | exact mQu_ok (by unfold sshare; rw [if_pos ⟨Or.inr h14, hcc⟩, if_neg c32, sW_N (by omega), sW_N (by omega)])) dX6_share_59
      · refine jx_aload_n (pc := 35) C dX6_share_35 rfl ?_
        refine jx_getP (pc := 36) C kf_X6_7 rfl hS.1 hP.1 dX6_share_36 ?_
        refine jx_bipush (pc := 39) C dX6_share_39 nb_14 ?_
        refine jx_iload_n (pc := 41) C dX6_share_41 rfl ?_
        refine jx_iaddN (pc := 42) C dX6_share_42 ?_
        refine jx_ialdv (pc := 43) C hS.2.1 (by omega) (by decide) (congrFun e0 _) dX6_share_43 ?_
        refine jx_goto (pc := 44) C (tgt := 59) dX6_share_44 (by decide) ?_
        exact jn_iret (pc := 59) C hr (by
          have hcc := nI_inn (w := c0) (n := 3) (by decide) (by omega)
          first
            | exact mQu_ok (by unfold sshare; rw [if_pos ⟨Or.inl c32, hcc⟩, if_pos c32, sW_N (by omega)])
            | exact mQu_ok (by unfold sshare; rw [if_pos ⟨Or.inr h14, hcc⟩, if_neg c32, sW_N (by omega), sW_N (by omega)])) dX6_share_59
    · rw [bI_0, decide_eq_false_iff_not] at c21
      refine jx_aload_n (pc := 24) C dX6_share_24 rfl ?_
      refine jx_iconst (pc := 25) C dX6_share_25 nc_1 ?_
      refine jx_callD (pc := 26) C (go_X6_39 C hS.1 (Nat.le_of_ble_eq_true rfl) dX6_share_26) (t_X6_fails hS.1) (by decide) (by decide) ⟨Nat.zero_le _, Nat.zero_le _⟩ ?_
      exact jn_iret (pc := 29) C hr (mQu_fail (k := 1) (by unfold sshare; rw [if_neg (by rintro ⟨h1 | h1, h2⟩ <;> contradiction)]) (by decide)) dX6_share_29
  · refine jx_iload_n (pc := 10) C dX6_share_10 rfl ?_
    refine jx_callD (pc := 11) C (go_X6_103 C  (Nat.le_of_ble_eq_true rfl) dX6_share_11) t_X6_isWeaver (by decide) (by decide) ⟨Nat.zero_le _, Nat.zero_le _⟩ ?_
    refine jx_if_eq (pc := 14) C (tgt := 24) dX6_share_14 (by decide) (fun c14 => ?_) (fun c14 => ?_)
    · rw [bI_0, decide_eq_false_iff_not] at c14
      refine jx_aload_n (pc := 24) C dX6_share_24 rfl ?_
      refine jx_iconst (pc := 25) C dX6_share_25 nc_1 ?_
      refine jx_callD (pc := 26) C (go_X6_39 C hS.1 (Nat.le_of_ble_eq_true rfl) dX6_share_26) (t_X6_fails hS.1) (by decide) (by decide) ⟨Nat.zero_le _, Nat.zero_le _⟩ ?_
      exact jn_iret (pc := 29) C hr (mQu_fail (k := 1) (by unfold sshare; rw [if_neg (by rintro ⟨h1 | h1, h2⟩ <;> contradiction)]) (by decide)) dX6_share_29
    · rw [bI_0, decide_eq_false_iff_not, Decidable.not_not] at c14
      refine jx_iload_n (pc := 17) C dX6_share_17 rfl ?_
      refine jx_callD (pc := 18) C (go_X6_110 C  (Nat.le_of_ble_eq_true rfl) dX6_share_18) t_X6_isColour (by decide) (by decide) ⟨Nat.zero_le _, Nat.zero_le _⟩ ?_
      refine jx_if_ne (pc := 21) C (tgt := 30) dX6_share_21 (by decide) (fun c21 => ?_) (fun c21 => ?_)
      · rw [bI_0, decide_eq_false_iff_not, Decidable.not_not] at c21
        obtain ⟨c0, hc, rfl⟩ := in_N (by decide) c21
        refine jx_iload_n (pc := 30) C dX6_share_30 rfl ?_
        refine jx_iconst (pc := 31) C dX6_share_31 nc_m1 ?_
        refine jx_icmp_ne (pc := 32) C (tgt := 47) dX6_share_32 (by decide) (fun c32 => ?_) (fun c32 => ?_)
        · have h14 : nI 0 ≤ wv ∧ wv ≤ nI 5 := by first | exact c14 | exact absurd c7 c32
          obtain ⟨w, hw, rfl⟩ := in_N (by decide) h14
          refine jx_aload_n (pc := 47) C dX6_share_47 rfl ?_
          refine jx_getP (pc := 48) C kf_X6_7 rfl hS.1 hP.1 dX6_share_48 ?_
          refine jx_iload_n (pc := 51) C dX6_share_51 rfl ?_
          refine jx_bipush (pc := 52) C dX6_share_52 nb_8 ?_
          refine jx_iload_n (pc := 54) C dX6_share_54 rfl ?_
          refine jx_iaddN (pc := 55) C dX6_share_55 ?_
          refine jx_callD (pc := 56) C (go_X6_47 C  (Nat.le_of_ble_eq_true rfl) dX6_share_56) (t_X6_ofv hS.2.1 (by omega) (congrFun e0 _)) (by decide) (by decide) ⟨Nat.zero_le _, Nat.zero_le _⟩ ?_
          exact jn_iret (pc := 59) C hr (by
            have hcc := nI_inn (w := c0) (n := 3) (by decide) (by omega)
            first
              | exact mQu_ok (by unfold sshare; rw [if_pos ⟨Or.inl c32, hcc⟩, if_pos c32, sW_N (by omega)])
              | exact mQu_ok (by unfold sshare; rw [if_pos ⟨Or.inr h14, hcc⟩, if_neg c32, sW_N (by omega), sW_N (by omega)])) dX6_share_59
        · refine jx_aload_n (pc := 35) C dX6_share_35 rfl ?_
          refine jx_getP (pc := 36) C kf_X6_7 rfl hS.1 hP.1 dX6_share_36 ?_
          refine jx_bipush (pc := 39) C dX6_share_39 nb_14 ?_
          refine jx_iload_n (pc := 41) C dX6_share_41 rfl ?_
          refine jx_iaddN (pc := 42) C dX6_share_42 ?_
          refine jx_ialdv (pc := 43) C hS.2.1 (by omega) (by decide) (congrFun e0 _) dX6_share_43 ?_
          refine jx_goto (pc := 44) C (tgt := 59) dX6_share_44 (by decide) ?_
          exact jn_iret (pc := 59) C hr (by
            have hcc := nI_inn (w := c0) (n := 3) (by decide) (by omega)
            first
              | exact mQu_ok (by unfold sshare; rw [if_pos ⟨Or.inl c32, hcc⟩, if_pos c32, sW_N (by omega)])
              | exact mQu_ok (by unfold sshare; rw [if_pos ⟨Or.inr h14, hcc⟩, if_neg c32, sW_N (by omega), sW_N (by omega)])) dX6_share_59
      · rw [bI_0, decide_eq_false_iff_not] at c21
        refine jx_aload_n (pc := 24) C dX6_share_24 rfl ?_
        refine jx_iconst (pc := 25) C dX6_share_25 nc_1 ?_
        refine jx_callD (pc := 26) C (go_X6_39 C hS.1 (Nat.le_of_ble_eq_true rfl) dX6_share_26) (t_X6_fails hS.1) (by decide) (by decide) ⟨Nat.zero_le _, Nat.zero_le _⟩ ?_
        exact jn_iret (pc := 29) C hr (mQu_fail (k := 1) (by unfold sshare; rw [if_neg (by rintro ⟨h1 | h1, h2⟩ <;> contradiction)]) (by decide)) dX6_share_29
theorem t_X6_share {l : Launch} {D : va_G} {cA : Nat → ClassId} {N0 : Nat} {Sh : jS} {I : jI} {P : jP} {L : jL} {x : Nat} (hS : mS Sh x) (hP : mP P x) {wv cv : Int32} : jN l D cA N0 2 yX6_share cX6_share 3 (some .int) [.ref x, .int wv, .int cv] Sh I P L (mQu I P L x (sshare (I (x + 1)) wv cv)) := jN_of (by decide) (Nat.le_of_ble_eq_true rfl) (fun _ _ _ _ _ _ _ _ C hr => b_X6_share C hr hS hP)
set_option maxHeartbeats 4000000 in
theorem lp_X6_ofOrder {p : Program} {l : Launch} {e : Env} {s : State} {m : MethodId} {args : Array Value} {below : List Frame} {meth : Method} {c : Code} {D : va_G} {cA : Nat → ClassId} {N0 : Nat} {Sh : jS} {I : jI} {P : jP} {L : jL} {Qf : State → Prop} (C : jC p (jRm 2 0 0) s m args meth c D cA N0 cX6_ofOrder 5 RX6 2) {x : Nat} (hS : mS Sh x) (hP : mP P x) {o : Nat} (ho : o < 10) {k : Nat} (hk : k ≤ 8) (hx : jJ p l e (jRm 2 0 0) s m args below meth c D cA N0 5 Qf (fun _ => True) Sh I P L 0 0 115 [some (.ref x), some (.int (nI o)), some (.int (nI k)), some (.int (swideN (I (x + 1)) o 6)), some (.int (nI 6))] []) : ∀ d w, w + d = 6 → jJ p l e (jRm 2 0 0) s m args below meth c D cA N0 5 Qf (fun _ => True) Sh I P L 0 0 72 [some (.ref x), some (.int (nI o)), some (.int (nI k)), some (.int (swideN (I (x + 1)) o w)), some (.int (nI w))] [] := by
  intro d
  induction d with
  | zero =>
    intro w hw
    obtain rfl : w = 6 := by omega
    refine jx_iload (pc := 72) C dX6_ofOrder_72 rfl ?_
    refine jx_bipush (pc := 74) C dX6_ofOrder_74 nb_6 ?_
    refine jx_icmp_ge (pc := 76) C (tgt := 115) dX6_ofOrder_76 (by decide) (fun c76 => ?_) (fun c76 => (by rw [nI_leI (by omega) (by omega)] at c76; exfalso; omega))
    rw [nI_leI (by omega) (by omega)] at c76
    exact hx
  | succ d ih =>
    intro w hw
    refine jx_iload (pc := 72) C dX6_ofOrder_72 rfl ?_
    refine jx_bipush (pc := 74) C dX6_ofOrder_74 nb_6 ?_
    refine jx_icmp_ge (pc := 76) C (tgt := 115) dX6_ofOrder_76 (by decide) (fun c76 => (by rw [nI_leI (by omega) (by omega)] at c76; exfalso; omega)) (fun c76 => ?_)
    rw [nI_leI (by omega) (by omega)] at c76
    refine jx_iload_n (pc := 79) C dX6_ofOrder_79 rfl ?_
    refine jx_aload_n (pc := 80) C dX6_ofOrder_80 rfl ?_
    refine jx_getP (pc := 81) C kf_X6_7 rfl hS.1 hP.1 dX6_ofOrder_81 ?_
    refine jx_iload (pc := 84) C dX6_ofOrder_84 rfl ?_
    refine jx_iconst (pc := 86) C dX6_ofOrder_86 nc_0 ?_
    refine jx_callD (pc := 87) C (go_X6_47 C  (Nat.le_of_ble_eq_true rfl) dX6_ofOrder_87) (t_X6_of hS.2.1 (by omega)) (by decide) (by decide) ⟨Nat.zero_le _, Nat.zero_le _⟩ ?_
    refine jx_aload_n (pc := 90) C dX6_ofOrder_90 rfl ?_
    refine jx_getP (pc := 91) C kf_X6_7 rfl hS.1 hP.1 dX6_ofOrder_91 ?_
    refine jx_iload_n (pc := 94) C dX6_ofOrder_94 rfl ?_
    refine jx_iconst (pc := 95) C dX6_ofOrder_95 nc_2 ?_
    refine jx_callD (pc := 96) C (go_X6_43 C  (Nat.le_of_ble_eq_true rfl) dX6_ofOrder_96) (t_X6_by hS.2.1 (by omega)) (by decide) (by decide) ⟨Nat.zero_le _, Nat.zero_le _⟩ ?_
    refine jx_icmp_lt (pc := 99) C (tgt := 106) dX6_ofOrder_99 (by decide) (fun c99 => ?_) (fun c99 => ?_)
    · refine jx_iconst (pc := 106) C dX6_ofOrder_106 nc_0 ?_
      refine jx_iadd (pc := 107) C dX6_ofOrder_107 ?_
      refine jx_istore_n (pc := 108) C dX6_ofOrder_108 (jset_3 jc_i) (by decide) ?_
      refine jx_iincN (pc := 109) C dX6_ofOrder_109 rfl (jset_4 jc_i) (by decide) ?_
      refine jx_goto (pc := 112) C (tgt := 72) dX6_ofOrder_112 (by decide) ?_
      have h4 := ih (w + 1) (by omega)
      first
        | (rw [show swideN (I (x + 1)) o (w + 1) = swideN (I (x + 1)) o w + nI 0 from congrArg _ (if_pos c99)] at h4; exact h4)
        | (rw [show swideN (I (x + 1)) o (w + 1) = swideN (I (x + 1)) o w + nI 1 from congrArg _ (if_neg c99)] at h4; exact h4)
    · refine jx_iconst (pc := 102) C dX6_ofOrder_102 nc_1 ?_
      refine jx_goto (pc := 103) C (tgt := 107) dX6_ofOrder_103 (by decide) ?_
      refine jx_iadd (pc := 107) C dX6_ofOrder_107 ?_
      refine jx_istore_n (pc := 108) C dX6_ofOrder_108 (jset_3 jc_i) (by decide) ?_
      refine jx_iincN (pc := 109) C dX6_ofOrder_109 rfl (jset_4 jc_i) (by decide) ?_
      refine jx_goto (pc := 112) C (tgt := 72) dX6_ofOrder_112 (by decide) ?_
      have h4 := ih (w + 1) (by omega)
      first
        | (rw [show swideN (I (x + 1)) o (w + 1) = swideN (I (x + 1)) o w + nI 0 from congrArg _ (if_pos c99)] at h4; exact h4)
        | (rw [show swideN (I (x + 1)) o (w + 1) = swideN (I (x + 1)) o w + nI 1 from congrArg _ (if_neg c99)] at h4; exact h4)
set_option maxHeartbeats 4000000 in
theorem b_X6_ofOrder {p : Program} {l : Launch} {e : Env} {s : State} {m : MethodId} {args : Array Value} {below : List Frame} {meth : Method} {c : Code} {D : va_G} {cA : Nat → ClassId} {N0 : Nat} {Sh : jS} {I : jI} {P : jP} {L : jL} (C : jC p (jRm 2 0 0) s m args meth c D cA N0 cX6_ofOrder 5 RX6 2) (hr : meth.sig.returnType = (some .int)) {x : Nat} (hS : mS Sh x) (hP : mP P x) {o : Nat} (ho : o < 10) {k : Nat} (hk : k ≤ 8) : jJ p l e (jRm 2 0 0) s m args below meth c D cA N0 5 (MQ below (jQn D cA N0 Sh (jD (some (.int (sofOrder (I (x + 1)) o k))) I P L)) args s 0 0 (fun q => N0 ≤ q)) (fun _ => True) Sh I P L 0 0 0 [some (.ref x), some (.int (nI o)), some (.int (nI k)), none, none] [] := by
  refine jx_iload_n (pc := 0) C dX6_ofOrder_0 rfl ?_
  refine jx_bipush (pc := 1) C dX6_ofOrder_1 nb_7 ?_
  refine jx_icmp_ge (pc := 3) C (tgt := 33) dX6_ofOrder_3 (by decide) (fun c3 => ?_) (fun c3 => ?_)
  · rw [nI_leI (by omega) (by omega)] at c3
    refine jx_iload_n (pc := 33) C dX6_ofOrder_33 rfl ?_
    refine jx_bipush (pc := 34) C dX6_ofOrder_34 nb_7 ?_
    refine jx_icmp_ne (pc := 36) C (tgt := 67) dX6_ofOrder_36 (by decide) (fun c36 => ?_) (fun c36 => ?_)
    · rw [nI_eq (by omega) (by omega)] at c36
      refine jx_iconst (pc := 67) C dX6_ofOrder_67 nc_0 ?_
      refine jx_istore_n (pc := 68) C dX6_ofOrder_68 (jset_3 jc_i) (by decide) ?_
      refine jx_iconst (pc := 69) C dX6_ofOrder_69 nc_0 ?_
      refine jx_istore (pc := 70) C dX6_ofOrder_70 (jset_4 jc_i) (by decide) ?_
      refine lp_X6_ofOrder C hS hP ho hk ?_ 6 0 rfl
      refine jx_iload_n (pc := 115) C dX6_ofOrder_115 rfl ?_
      exact jn_iret (pc := 116) C hr (jD_i (by unfold sofOrder; rw [if_neg (by omega), if_neg c36])) dX6_ofOrder_116
    · rw [nI_eq (by omega) (by omega)] at c36
      refine jx_aload_n (pc := 39) C dX6_ofOrder_39 rfl ?_
      refine jx_getP (pc := 40) C kf_X6_7 rfl hS.1 hP.1 dX6_ofOrder_40 ?_
      refine jx_iload_n (pc := 43) C dX6_ofOrder_43 rfl ?_
      refine jx_iconst (pc := 44) C dX6_ofOrder_44 nc_3 ?_
      refine jx_callD (pc := 45) C (go_X6_43 C  (Nat.le_of_ble_eq_true rfl) dX6_ofOrder_45) (t_X6_by hS.2.1 (by omega)) (by decide) (by decide) ⟨Nat.zero_le _, Nat.zero_le _⟩ ?_
      refine jx_aload_n (pc := 48) C dX6_ofOrder_48 rfl ?_
      refine jx_getP (pc := 49) C kf_X6_7 rfl hS.1 hP.1 dX6_ofOrder_49 ?_
      refine jx_iload_n (pc := 52) C dX6_ofOrder_52 rfl ?_
      refine jx_callD (pc := 53) C (go_X6_90 C  (Nat.le_of_ble_eq_true rfl) dX6_ofOrder_53) (t_X6_good hS.2.1 ho) (by decide) (by decide) ⟨Nat.zero_le _, Nat.zero_le _⟩ ?_
      refine jx_isub (pc := 56) C dX6_ofOrder_56 ?_
      refine jx_aload_n (pc := 57) C dX6_ofOrder_57 rfl ?_
      refine jx_getP (pc := 58) C kf_X6_7 rfl hS.1 hP.1 dX6_ofOrder_58 ?_
      refine jx_iload_n (pc := 61) C dX6_ofOrder_61 rfl ?_
      refine jx_callD (pc := 62) C (go_X6_73 C  (Nat.le_of_ble_eq_true rfl) dX6_ofOrder_62) (t_X6_grams hS.2.1 ho) (by decide) (by decide) ⟨Nat.zero_le _, Nat.zero_le _⟩ ?_
      refine jx_imul (pc := 65) C dX6_ofOrder_65 ?_
      exact jn_iret (pc := 66) C hr (jD_i (by unfold sofOrder; rw [if_neg (by omega), if_pos c36])) dX6_ofOrder_66
  · rw [nI_leI (by omega) (by omega)] at c3
    refine jx_iload_n (pc := 6) C dX6_ofOrder_6 rfl ?_
    refine jx_bipush (pc := 7) C dX6_ofOrder_7 nb_6 ?_
    refine jx_icmp_ge (pc := 9) C (tgt := 24) dX6_ofOrder_9 (by decide) (fun c9 => ?_) (fun c9 => ?_)
    · rw [nI_leI (by omega) (by omega)] at c9
      refine jx_aload_n (pc := 24) C dX6_ofOrder_24 rfl ?_
      refine jx_getP (pc := 25) C kf_X6_7 rfl hS.1 hP.1 dX6_ofOrder_25 ?_
      refine jx_iload_n (pc := 28) C dX6_ofOrder_28 rfl ?_
      refine jx_callD (pc := 29) C (go_X6_90 C  (Nat.le_of_ble_eq_true rfl) dX6_ofOrder_29) (t_X6_good hS.2.1 ho) (by decide) (by decide) ⟨Nat.zero_le _, Nat.zero_le _⟩ ?_
      exact jn_iret (pc := 32) C hr (jD_i (by unfold sofOrder; rw [if_pos (by omega)]; first | exact (if_pos (by omega)).symm | exact (if_neg (by omega)).symm)) dX6_ofOrder_32
    · rw [nI_leI (by omega) (by omega)] at c9
      refine jx_aload_n (pc := 12) C dX6_ofOrder_12 rfl ?_
      refine jx_getP (pc := 13) C kf_X6_7 rfl hS.1 hP.1 dX6_ofOrder_13 ?_
      refine jx_iload_n (pc := 16) C dX6_ofOrder_16 rfl ?_
      refine jx_iload_n (pc := 17) C dX6_ofOrder_17 rfl ?_
      refine jx_callD (pc := 18) C (go_X6_43 C  (Nat.le_of_ble_eq_true rfl) dX6_ofOrder_18) (t_X6_by hS.2.1 (by omega)) (by decide) (by decide) ⟨Nat.zero_le _, Nat.zero_le _⟩ ?_
      refine jx_goto (pc := 21) C (tgt := 32) dX6_ofOrder_21 (by decide) ?_
      exact jn_iret (pc := 32) C hr (jD_i (by unfold sofOrder; rw [if_pos (by omega)]; first | exact (if_pos (by omega)).symm | exact (if_neg (by omega)).symm)) dX6_ofOrder_32
theorem t_X6_ofOrder {l : Launch} {D : va_G} {cA : Nat → ClassId} {N0 : Nat} {Sh : jS} {I : jI} {P : jP} {L : jL} {x : Nat} (hS : mS Sh x) (hP : mP P x) {o : Nat} (ho : o < 10) {k : Nat} (hk : k ≤ 8) : jN l D cA N0 2 yX6_ofOrder cX6_ofOrder 5 (some .int) [.ref x, .int (nI o), .int (nI k)] Sh I P L (jD (some (.int (sofOrder (I (x + 1)) o k))) I P L) := jN_of (by decide) (Nat.le_of_ble_eq_true rfl) (fun _ _ _ _ _ _ _ _ C hr => b_X6_ofOrder C hr hS hP ho hk)
theorem in_P {v : Int32} {n : Nat} (hn : n < 2 ^ 31) (h0 : ¬ v < 0) (h : ¬ nI n ≤ v) : ∃ w : Nat, w < n ∧ v = nI w := by
  obtain ⟨w, hw, rfl⟩ := in_N hn ⟨by rw [nI_0]; exact i32_nlt.mp h0, by have := i32_nle.mp h; rw [i32_lt] at this; rw [i32_le]; omega⟩
  exact ⟨w, by rw [nI_leI (by omega) (by omega)] at h; omega, rfl⟩
set_option maxHeartbeats 4000000 in
theorem b_X6_orderOf {p : Program} {l : Launch} {e : Env} {s : State} {m : MethodId} {args : Array Value} {below : List Frame} {meth : Method} {c : Code} {D : va_G} {cA : Nat → ClassId} {N0 : Nat} {Sh : jS} {I : jI} {P : jP} {L : jL} (C : jC p (jRm 3 0 0) s m args meth c D cA N0 cX6_orderOf 3 RX6 3) (hr : meth.sig.returnType = (some .int)) {x : Nat} (hS : mS Sh x) (hP : mP P x) (hok : sOK (I (x + 1))) {pv kv : Int32} : jJ p l e (jRm 3 0 0) s m args below meth c D cA N0 3 (MQ below (jQn D cA N0 Sh (mQu I P L x (sorderOf (I (x + 1)) pv kv))) args s 0 0 (fun q => N0 ≤ q)) (fun _ => True) Sh I P L 0 0 0 [some (.ref x), some (.int pv), some (.int kv)] [] := by
  have e0 : jst I x 6 (nI 0) (x + 1) = I (x + 1) := jst_ne (by omega)
  have hk5 := hok.2.1
  refine jx_aload_n (pc := 0) C dX6_orderOf_0 rfl ?_
  refine jx_iconst (pc := 1) C dX6_orderOf_1 nc_0 ?_
  refine jx_putI (pc := 2) C kf_X6_28 rfl rfl rfl rfl hS.1 dX6_orderOf_2 ?_
  refine jx_iload_n (pc := 5) C dX6_orderOf_5 rfl ?_
  refine jx_if_lt (pc := 6) C (tgt := 19) dX6_orderOf_6 (by decide) (fun c6 => ?_) (fun c6 => ?_)
  · refine jx_aload_n (pc := 19) C dX6_orderOf_19 rfl ?_
    refine jx_iconst (pc := 20) C dX6_orderOf_20 nc_1 ?_
    refine jx_callD (pc := 21) C (go_X6_39 C hS.1 (Nat.le_of_ble_eq_true rfl) dX6_orderOf_21) (t_X6_fails hS.1) (by decide) (by decide) ⟨Nat.zero_le _, Nat.zero_le _⟩ ?_
    exact jn_iret (pc := 24) C hr (mQu_fail (k := 1) (by unfold sorderOf; rw [if_neg (by rintro ⟨h1, h2⟩; contradiction)]) (by decide)) dX6_orderOf_24
  · refine jx_iload_n (pc := 9) C dX6_orderOf_9 rfl ?_
    refine jx_iconst (pc := 10) C dX6_orderOf_10 nc_0 ?_
    refine jx_bipush (pc := 11) C dX6_orderOf_11 nb_8 ?_
    refine jx_callD (pc := 13) C (go_X6_32 C  (Nat.le_of_ble_eq_true rfl) dX6_orderOf_13) t_X6_in (by decide) (by decide) ⟨Nat.zero_le _, Nat.zero_le _⟩ ?_
    refine jx_if_ne (pc := 16) C (tgt := 25) dX6_orderOf_16 (by decide) (fun c16 => ?_) (fun c16 => ?_)
    · rw [bI_0, decide_eq_false_iff_not, Decidable.not_not] at c16
      refine jx_iload_n (pc := 25) C dX6_orderOf_25 rfl ?_
      refine jx_aload_n (pc := 26) C dX6_orderOf_26 rfl ?_
      refine jx_getP (pc := 27) C kf_X6_7 rfl hS.1 hP.1 dX6_orderOf_27 ?_
      refine jx_iconst (pc := 30) C dX6_orderOf_30 nc_5 ?_
      refine jx_ialdv (pc := 31) C hS.2.1 (by omega) (by decide) (congrFun e0 _) dX6_orderOf_31 ?_
      refine jx_icmp_ge (pc := 32) C (tgt := 44) dX6_orderOf_32 (by decide) (fun c32 => ?_) (fun c32 => ?_)
      · refine jx_iconst (pc := 44) C dX6_orderOf_44 nc_m1 ?_
        exact jn_iret (pc := 45) C hr (by first | exact mQu_ok (by unfold sorderOf; rw [if_pos ⟨c6, c16⟩, if_pos c32]) | exact mQu_ok (by unfold sorderOf; rw [if_pos ⟨c6, nI_inn (by decide) hk⟩, if_neg c32, sW_N (by omega), sW_N (by omega)])) dX6_orderOf_45
      · have c32n := c32
        rw [hok.1] at c32n
        obtain ⟨o, ho, rfl⟩ := in_P (by omega) c6 c32n
        obtain ⟨k, hk, rfl⟩ := in_N (by decide) c16
        refine jx_aload_n (pc := 35) C dX6_orderOf_35 rfl ?_
        refine jx_iload_n (pc := 36) C dX6_orderOf_36 rfl ?_
        refine jx_iload_n (pc := 37) C dX6_orderOf_37 rfl ?_
        refine jx_callD (pc := 38) C (go_X6_163 C hS.1 (Nat.le_of_ble_eq_true rfl) dX6_orderOf_38) (t_X6_ofOrder hS hP (by omega) hk) (by decide) (by decide) ⟨Nat.zero_le _, Nat.zero_le _⟩ ?_
        rw [e0]
        refine jx_goto (pc := 41) C (tgt := 45) dX6_orderOf_41 (by decide) ?_
        exact jn_iret (pc := 45) C hr (by first | exact mQu_ok (by unfold sorderOf; rw [if_pos ⟨c6, c16⟩, if_pos c32]) | exact mQu_ok (by unfold sorderOf; rw [if_pos ⟨c6, nI_inn (by decide) hk⟩, if_neg c32, sW_N (by omega), sW_N (by omega)])) dX6_orderOf_45
    · rw [bI_0, decide_eq_false_iff_not] at c16
      refine jx_aload_n (pc := 19) C dX6_orderOf_19 rfl ?_
      refine jx_iconst (pc := 20) C dX6_orderOf_20 nc_1 ?_
      refine jx_callD (pc := 21) C (go_X6_39 C hS.1 (Nat.le_of_ble_eq_true rfl) dX6_orderOf_21) (t_X6_fails hS.1) (by decide) (by decide) ⟨Nat.zero_le _, Nat.zero_le _⟩ ?_
      exact jn_iret (pc := 24) C hr (mQu_fail (k := 1) (by unfold sorderOf; rw [if_neg (by rintro ⟨h1, h2⟩; contradiction)]) (by decide)) dX6_orderOf_24
theorem t_X6_orderOf {l : Launch} {D : va_G} {cA : Nat → ClassId} {N0 : Nat} {Sh : jS} {I : jI} {P : jP} {L : jL} {x : Nat} (hS : mS Sh x) (hP : mP P x) (hok : sOK (I (x + 1))) {pv kv : Int32} : jN l D cA N0 3 yX6_orderOf cX6_orderOf 3 (some .int) [.ref x, .int pv, .int kv] Sh I P L (mQu I P L x (sorderOf (I (x + 1)) pv kv)) := jN_of (by decide) (Nat.le_of_ble_eq_true rfl) (fun _ _ _ _ _ _ _ _ C hr => b_X6_orderOf C hr hS hP hok)
set_option maxHeartbeats 4000000 in
theorem b_X6_wovenBy {p : Program} {l : Launch} {e : Env} {s : State} {m : MethodId} {args : Array Value} {below : List Frame} {meth : Method} {c : Code} {D : va_G} {cA : Nat → ClassId} {N0 : Nat} {Sh : jS} {I : jI} {P : jP} {L : jL} (C : jC p (jRm 2 0 0) s m args meth c D cA N0 cX6_wovenBy 3 RX6 2) (hr : meth.sig.returnType = (some .int)) {x : Nat} (hS : mS Sh x) (hP : mP P x) (hok : sOK (I (x + 1))) {pv wv : Int32} : jJ p l e (jRm 2 0 0) s m args below meth c D cA N0 3 (MQ below (jQn D cA N0 Sh (mQu I P L x (swovenBy (I (x + 1)) pv wv))) args s 0 0 (fun q => N0 ≤ q)) (fun _ => True) Sh I P L 0 0 0 [some (.ref x), some (.int pv), some (.int wv)] [] := by
  have e0 : jst I x 6 (nI 0) (x + 1) = I (x + 1) := jst_ne (by omega)
  have hk5 := hok.2.1
  refine jx_aload_n (pc := 0) C dX6_wovenBy_0 rfl ?_
  refine jx_iconst (pc := 1) C dX6_wovenBy_1 nc_0 ?_
  refine jx_putI (pc := 2) C kf_X6_28 rfl rfl rfl rfl hS.1 dX6_wovenBy_2 ?_
  refine jx_iload_n (pc := 5) C dX6_wovenBy_5 rfl ?_
  refine jx_if_ge (pc := 6) C (tgt := 15) dX6_wovenBy_6 (by decide) (fun c6 => ?_) (fun c6 => ?_)
  · refine jx_iload_n (pc := 15) C dX6_wovenBy_15 rfl ?_
    refine jx_callD (pc := 16) C (go_X6_103 C  (Nat.le_of_ble_eq_true rfl) dX6_wovenBy_16) t_X6_isWeaver (by decide) (by decide) ⟨Nat.zero_le _, Nat.zero_le _⟩ ?_
    refine jx_if_ne (pc := 19) C (tgt := 28) dX6_wovenBy_19 (by decide) (fun c19 => ?_) (fun c19 => ?_)
    · rw [bI_0, decide_eq_false_iff_not, Decidable.not_not] at c19
      refine jx_iload_n (pc := 28) C dX6_wovenBy_28 rfl ?_
      refine jx_aload_n (pc := 29) C dX6_wovenBy_29 rfl ?_
      refine jx_getP (pc := 30) C kf_X6_7 rfl hS.1 hP.1 dX6_wovenBy_30 ?_
      refine jx_iconst (pc := 33) C dX6_wovenBy_33 nc_5 ?_
      refine jx_ialdv (pc := 34) C hS.2.1 (by omega) (by decide) (congrFun e0 _) dX6_wovenBy_34 ?_
      refine jx_icmp_ge (pc := 35) C (tgt := 53) dX6_wovenBy_35 (by decide) (fun c35 => ?_) (fun c35 => ?_)
      · refine jx_iconst (pc := 53) C dX6_wovenBy_53 nc_m1 ?_
        exact jn_iret (pc := 54) C hr (by first | exact mQu_ok (by unfold swovenBy; rw [if_pos c6, if_pos c19, if_pos c35]) | exact mQu_ok (by unfold swovenBy; rw [if_pos c6, if_pos (nI_inn (by decide) hw), if_neg c35, sW_N (by omega), sW_N (by omega)])) dX6_wovenBy_54
      · have c35n := c35
        rw [hok.1] at c35n
        obtain ⟨o, ho, rfl⟩ := in_P (by omega) (i32_nlt.mpr c6) c35n
        obtain ⟨w, hw, rfl⟩ := in_N (by decide) c19
        refine jx_aload_n (pc := 38) C dX6_wovenBy_38 rfl ?_
        refine jx_getP (pc := 39) C kf_X6_7 rfl hS.1 hP.1 dX6_wovenBy_39 ?_
        refine jx_iload_n (pc := 42) C dX6_wovenBy_42 rfl ?_
        refine jx_bipush (pc := 43) C dX6_wovenBy_43 nb_6 ?_
        refine jx_iload_n (pc := 45) C dX6_wovenBy_45 rfl ?_
        refine jx_iaddN (pc := 46) C dX6_wovenBy_46 ?_
        refine jx_callD (pc := 47) C (go_X6_43 C  (Nat.le_of_ble_eq_true rfl) dX6_wovenBy_47) (t_X6_byv hS.2.1 (by omega) (congrFun e0 _)) (by decide) (by decide) ⟨Nat.zero_le _, Nat.zero_le _⟩ ?_
        refine jx_goto (pc := 50) C (tgt := 54) dX6_wovenBy_50 (by decide) ?_
        exact jn_iret (pc := 54) C hr (by first | exact mQu_ok (by unfold swovenBy; rw [if_pos c6, if_pos c19, if_pos c35]) | exact mQu_ok (by unfold swovenBy; rw [if_pos c6, if_pos (nI_inn (by decide) hw), if_neg c35, sW_N (by omega), sW_N (by omega)])) dX6_wovenBy_54
    · rw [bI_0, decide_eq_false_iff_not] at c19
      refine jx_aload_n (pc := 22) C dX6_wovenBy_22 rfl ?_
      refine jx_iconst (pc := 23) C dX6_wovenBy_23 nc_2 ?_
      refine jx_callD (pc := 24) C (go_X6_39 C hS.1 (Nat.le_of_ble_eq_true rfl) dX6_wovenBy_24) (t_X6_fails hS.1) (by decide) (by decide) ⟨Nat.zero_le _, Nat.zero_le _⟩ ?_
      exact jn_iret (pc := 27) C hr (mQu_fail (k := 2) (by unfold swovenBy; rw [if_pos c6, if_neg c19]) (by decide)) dX6_wovenBy_27
  · refine jx_aload_n (pc := 9) C dX6_wovenBy_9 rfl ?_
    refine jx_iconst (pc := 10) C dX6_wovenBy_10 nc_1 ?_
    refine jx_callD (pc := 11) C (go_X6_39 C hS.1 (Nat.le_of_ble_eq_true rfl) dX6_wovenBy_11) (t_X6_fails hS.1) (by decide) (by decide) ⟨Nat.zero_le _, Nat.zero_le _⟩ ?_
    exact jn_iret (pc := 14) C hr (mQu_fail (k := 1) (by unfold swovenBy; rw [if_neg c6]) (by decide)) dX6_wovenBy_14
theorem t_X6_wovenBy {l : Launch} {D : va_G} {cA : Nat → ClassId} {N0 : Nat} {Sh : jS} {I : jI} {P : jP} {L : jL} {x : Nat} (hS : mS Sh x) (hP : mP P x) (hok : sOK (I (x + 1))) {pv wv : Int32} : jN l D cA N0 2 yX6_wovenBy cX6_wovenBy 3 (some .int) [.ref x, .int pv, .int wv] Sh I P L (mQu I P L x (swovenBy (I (x + 1)) pv wv)) := jN_of (by decide) (Nat.le_of_ble_eq_true rfl) (fun _ _ _ _ _ _ _ _ C hr => b_X6_wovenBy C hr hS hP hok)
set_option maxHeartbeats 4000000 in
theorem b_X6_ofNext {p : Program} {l : Launch} {e : Env} {s : State} {m : MethodId} {args : Array Value} {below : List Frame} {meth : Method} {c : Code} {D : va_G} {cA : Nat → ClassId} {N0 : Nat} {Sh : jS} {I : jI} {P : jP} {L : jL} (C : jC p (jRm 3 0 0) s m args meth c D cA N0 cX6_ofNext 5 RX6 3) (hr : meth.sig.returnType = (some .int)) {x : Nat} (hS : mS Sh x) (hP : mP P x) (hok : sOK (I (x + 1))) {w : Nat} (hw : w < 6) {k : Nat} (hk : k ≤ 1) : jJ p l e (jRm 3 0 0) s m args below meth c D cA N0 5 (MQ below (jQn D cA N0 Sh (jD (some (.int (snextK (I (x + 1)) w k))) I P L)) args s 0 0 (fun q => N0 ≤ q)) (fun _ => True) Sh I P L 0 0 0 [some (.ref x), some (.int (nI w)), some (.int (nI k)), none, none] [] := by
  have key : jJ p l e (jRm 3 0 0) s m args below meth c D cA N0 5 (MQ below (jQn D cA N0 Sh (jD (some (.int (snextK (I (x + 1)) w k))) I P L)) args s 0 0 (fun q => N0 ≤ q)) (fun _ => True) Sh I P L 0 0 25 [some (.ref x), some (.int (nI w)), some (.int (nI k)), some (.int (oI (snch (I (x + 1)) w))), none] [] := by
    cases hq : snch (I (x + 1)) w with
    | none =>
      rw [show oI (none : Option Nat) = (-1 : Int32) from rfl]
      refine jx_iload_n (pc := 25) C dX6_ofNext_25 rfl ?_
      refine jx_if_eq (pc := 26) C (tgt := 34) dX6_ofNext_26 (by decide) (fun c26 => ?_) (fun c26 => ?_)
      · rw [nI_eq0 (by omega)] at c26
        refine jx_iload_n (pc := 34) C dX6_ofNext_34 rfl ?_
        refine jx_if_ne (pc := 35) C (tgt := 59) dX6_ofNext_35 (by decide) (fun c35 => ?_) (fun c35 => ?_)
        · rw [nI_eq0 (by omega)] at c35
          refine jx_aload_n (pc := 59) C dX6_ofNext_59 rfl ?_
          refine jx_getP (pc := 60) C kf_X6_7 rfl hS.1 hP.1 dX6_ofNext_60 ?_
          refine jx_iload_n (pc := 63) C dX6_ofNext_63 rfl ?_
          refine jx_iconst (pc := 64) C dX6_ofNext_64 nc_0 ?_
          refine jx_callD (pc := 65) C (go_X6_47 C  (Nat.le_of_ble_eq_true rfl) dX6_ofNext_65) (t_X6_of hS.2.1 (by omega)) (by decide) (by decide) ⟨Nat.zero_le _, Nat.zero_le _⟩ ?_
          refine jx_if_ne (pc := 68) C (tgt := 75) dX6_ofNext_68 (by decide) (fun c68 => ?_) (fun c68 => ?_)
          · refine jx_iconst (pc := 75) C dX6_ofNext_75 nc_2 ?_
            exact jn_iret (pc := 76) C hr (jD_i (by
              unfold snextK
              first
                | (exfalso; omega)
                | (rw [if_pos (by omega)]; unfold snext0; rw [hq])
                | (rw [if_neg (by omega)]; unfold snext1; rw [hq]; first | exact (if_pos c68).symm | exact (if_neg c68).symm)
                | (exfalso; omega))) dX6_ofNext_76
          · refine jx_iconst (pc := 71) C dX6_ofNext_71 nc_1 ?_
            refine jx_goto (pc := 72) C (tgt := 76) dX6_ofNext_72 (by decide) ?_
            exact jn_iret (pc := 76) C hr (jD_i (by
              unfold snextK
              first
                | (exfalso; omega)
                | (rw [if_pos (by omega)]; unfold snext0; rw [hq])
                | (rw [if_neg (by omega)]; unfold snext1; rw [hq]; first | exact (if_pos c68).symm | exact (if_neg c68).symm)
                | (exfalso; omega))) dX6_ofNext_76
        · rw [nI_eq0 (by omega)] at c35
          refine jx_iload_n (pc := 38) C dX6_ofNext_38 rfl ?_
          refine jx_iconst (pc := 39) C dX6_ofNext_39 nc_m1 ?_
          refine jx_icmp_ne (pc := 40) C (tgt := 47) dX6_ofNext_40 (by decide) (fun c40 => (by exfalso; revert c40; decide)) (fun c40 => ?_)
          refine jx_iconst (pc := 43) C dX6_ofNext_43 nc_m1 ?_
          refine jx_goto (pc := 44) C (tgt := 76) dX6_ofNext_44 (by decide) ?_
          exact jn_iret (pc := 76) C hr (jD_i (by
            unfold snextK
            first
              | (exfalso; omega)
              | (rw [if_pos (by omega)]; unfold snext0; rw [hq])
              | (rw [if_neg (by omega)]; unfold snext1; rw [hq]; first | exact (if_pos c68).symm | exact (if_neg c68).symm)
              | (exfalso; omega))) dX6_ofNext_76
      · rw [nI_eq0 (by omega)] at c26
        refine jx_iload_n (pc := 29) C dX6_ofNext_29 rfl ?_
        refine jx_iconst (pc := 30) C dX6_ofNext_30 nc_m1 ?_
        refine jx_icmp_ne (pc := 31) C (tgt := 77) dX6_ofNext_31 (by decide) (fun c31 => (by exfalso; revert c31; decide)) (fun c31 => ?_)
        refine jx_iload_n (pc := 34) C dX6_ofNext_34 rfl ?_
        refine jx_if_ne (pc := 35) C (tgt := 59) dX6_ofNext_35 (by decide) (fun c35 => ?_) (fun c35 => ?_)
        · rw [nI_eq0 (by omega)] at c35
          refine jx_aload_n (pc := 59) C dX6_ofNext_59 rfl ?_
          refine jx_getP (pc := 60) C kf_X6_7 rfl hS.1 hP.1 dX6_ofNext_60 ?_
          refine jx_iload_n (pc := 63) C dX6_ofNext_63 rfl ?_
          refine jx_iconst (pc := 64) C dX6_ofNext_64 nc_0 ?_
          refine jx_callD (pc := 65) C (go_X6_47 C  (Nat.le_of_ble_eq_true rfl) dX6_ofNext_65) (t_X6_of hS.2.1 (by omega)) (by decide) (by decide) ⟨Nat.zero_le _, Nat.zero_le _⟩ ?_
          refine jx_if_ne (pc := 68) C (tgt := 75) dX6_ofNext_68 (by decide) (fun c68 => ?_) (fun c68 => ?_)
          · refine jx_iconst (pc := 75) C dX6_ofNext_75 nc_2 ?_
            exact jn_iret (pc := 76) C hr (jD_i (by
              unfold snextK
              first
                | (exfalso; omega)
                | (rw [if_pos (by omega)]; unfold snext0; rw [hq])
                | (rw [if_neg (by omega)]; unfold snext1; rw [hq]; first | exact (if_pos c68).symm | exact (if_neg c68).symm)
                | (exfalso; omega))) dX6_ofNext_76
          · refine jx_iconst (pc := 71) C dX6_ofNext_71 nc_1 ?_
            refine jx_goto (pc := 72) C (tgt := 76) dX6_ofNext_72 (by decide) ?_
            exact jn_iret (pc := 76) C hr (jD_i (by
              unfold snextK
              first
                | (exfalso; omega)
                | (rw [if_pos (by omega)]; unfold snext0; rw [hq])
                | (rw [if_neg (by omega)]; unfold snext1; rw [hq]; first | exact (if_pos c68).symm | exact (if_neg c68).symm)
                | (exfalso; omega))) dX6_ofNext_76
        · rw [nI_eq0 (by omega)] at c35
          refine jx_iload_n (pc := 38) C dX6_ofNext_38 rfl ?_
          refine jx_iconst (pc := 39) C dX6_ofNext_39 nc_m1 ?_
          refine jx_icmp_ne (pc := 40) C (tgt := 47) dX6_ofNext_40 (by decide) (fun c40 => (by exfalso; revert c40; decide)) (fun c40 => ?_)
          refine jx_iconst (pc := 43) C dX6_ofNext_43 nc_m1 ?_
          refine jx_goto (pc := 44) C (tgt := 76) dX6_ofNext_44 (by decide) ?_
          exact jn_iret (pc := 76) C hr (jD_i (by
            unfold snextK
            first
              | (exfalso; omega)
              | (rw [if_pos (by omega)]; unfold snext0; rw [hq])
              | (rw [if_neg (by omega)]; unfold snext1; rw [hq]; first | exact (if_pos c68).symm | exact (if_neg c68).symm)
              | (exfalso; omega))) dX6_ofNext_76
    | some o =>
      obtain ⟨hne, hq1⟩ : ¬ I (x + 1) (18 + 12 * w + 0) = 0 ∧ schos (I (x + 1)) w = some o := by
        unfold snch at hq
        split at hq
        · cases hq
        · exact ⟨by assumption, hq⟩
      have hol := (schosN_lt hq1).1
      have hcc := hok.2.2.1 o hol
      have hk5 := hok.2.1
      rw [show oI (some o) = nI o from rfl]
      refine jx_iload_n (pc := 25) C dX6_ofNext_25 rfl ?_
      refine jx_if_eq (pc := 26) C (tgt := 34) dX6_ofNext_26 (by decide) (fun c26 => ?_) (fun c26 => ?_)
      · rw [nI_eq0 (by omega)] at c26
        refine jx_iload_n (pc := 34) C dX6_ofNext_34 rfl ?_
        refine jx_if_ne (pc := 35) C (tgt := 59) dX6_ofNext_35 (by decide) (fun c35 => ?_) (fun c35 => ?_)
        · rw [nI_eq0 (by omega)] at c35
          refine jx_aload_n (pc := 59) C dX6_ofNext_59 rfl ?_
          refine jx_getP (pc := 60) C kf_X6_7 rfl hS.1 hP.1 dX6_ofNext_60 ?_
          refine jx_iload_n (pc := 63) C dX6_ofNext_63 rfl ?_
          refine jx_iconst (pc := 64) C dX6_ofNext_64 nc_0 ?_
          refine jx_callD (pc := 65) C (go_X6_47 C  (Nat.le_of_ble_eq_true rfl) dX6_ofNext_65) (t_X6_of hS.2.1 (by omega)) (by decide) (by decide) ⟨Nat.zero_le _, Nat.zero_le _⟩ ?_
          refine jx_if_ne (pc := 68) C (tgt := 75) dX6_ofNext_68 (by decide) (fun c68 => ?_) (fun c68 => ?_)
          · refine jx_iconst (pc := 75) C dX6_ofNext_75 nc_2 ?_
            exact jn_iret (pc := 76) C hr (jD_i (by unfold snextK; first | (exfalso; omega) | (rw [if_pos (by omega)]; unfold snext0; rw [hq]))) dX6_ofNext_76
          · refine jx_iconst (pc := 71) C dX6_ofNext_71 nc_1 ?_
            refine jx_goto (pc := 72) C (tgt := 76) dX6_ofNext_72 (by decide) ?_
            exact jn_iret (pc := 76) C hr (jD_i (by unfold snextK; first | (exfalso; omega) | (rw [if_pos (by omega)]; unfold snext0; rw [hq]))) dX6_ofNext_76
        · rw [nI_eq0 (by omega)] at c35
          refine jx_iload_n (pc := 38) C dX6_ofNext_38 rfl ?_
          refine jx_iconst (pc := 39) C dX6_ofNext_39 nc_m1 ?_
          refine jx_icmp_ne (pc := 40) C (tgt := 47) dX6_ofNext_40 (by decide) (fun c40 => ?_) (fun c40 => (by exfalso; rw [nI_m1 (by omega)] at c40; exact c40))
          refine jx_aload_n (pc := 47) C dX6_ofNext_47 rfl ?_
          refine jx_getP (pc := 48) C kf_X6_7 rfl hS.1 hP.1 dX6_ofNext_48 ?_
          refine jx_iload_n (pc := 51) C dX6_ofNext_51 rfl ?_
          refine jx_iconst (pc := 52) C dX6_ofNext_52 nc_0 ?_
          refine jx_callD (pc := 53) C (go_X6_43 C  (Nat.le_of_ble_eq_true rfl) dX6_ofNext_53) (t_X6_by hS.2.1 (by omega)) (by decide) (by decide) ⟨Nat.zero_le _, Nat.zero_le _⟩ ?_
          refine jx_goto (pc := 56) C (tgt := 76) dX6_ofNext_56 (by decide) ?_
          exact jn_iret (pc := 76) C hr (jD_i (by unfold snextK; first | (exfalso; omega) | (rw [if_pos (by omega)]; unfold snext0; rw [hq]))) dX6_ofNext_76
      · rw [nI_eq0 (by omega)] at c26
        refine jx_iload_n (pc := 29) C dX6_ofNext_29 rfl ?_
        refine jx_iconst (pc := 30) C dX6_ofNext_30 nc_m1 ?_
        refine jx_icmp_ne (pc := 31) C (tgt := 77) dX6_ofNext_31 (by decide) (fun c31 => ?_) (fun c31 => (by exfalso; rw [nI_m1 (by omega)] at c31; exact c31))
        refine jx_aload_n (pc := 77) C dX6_ofNext_77 rfl ?_
        refine jx_getP (pc := 78) C kf_X6_7 rfl hS.1 hP.1 dX6_ofNext_78 ?_
        refine jx_iload_n (pc := 81) C dX6_ofNext_81 rfl ?_
        refine jx_iconst (pc := 82) C dX6_ofNext_82 nc_1 ?_
        refine jx_callD (pc := 83) C (go_X6_43 C  (Nat.le_of_ble_eq_true rfl) dX6_ofNext_83) (t_X6_by hS.2.1 (by omega)) (by decide) (by decide) ⟨Nat.zero_le _, Nat.zero_le _⟩ ?_
        rw [hcc.1]
        refine jx_istore (pc := 86) C dX6_ofNext_86 (jset_4 jc_i) (by decide) ?_
        refine jx_aload_n (pc := 88) C dX6_ofNext_88 rfl ?_
        refine jx_getP (pc := 89) C kf_X6_7 rfl hS.1 hP.1 dX6_ofNext_89 ?_
        refine jx_iload_n (pc := 92) C dX6_ofNext_92 rfl ?_
        refine jx_bipush (pc := 93) C dX6_ofNext_93 nb_8 ?_
        refine jx_iload (pc := 95) C dX6_ofNext_95 rfl ?_
        refine jx_iaddN (pc := 97) C dX6_ofNext_97 ?_
        refine jx_callD (pc := 98) C (go_X6_47 C  (Nat.le_of_ble_eq_true rfl) dX6_ofNext_98) (t_X6_of hS.2.1 (by omega)) (by decide) (by decide) ⟨Nat.zero_le _, Nat.zero_le _⟩ ?_
        refine jx_aload_n (pc := 101) C dX6_ofNext_101 rfl ?_
        refine jx_getP (pc := 102) C kf_X6_7 rfl hS.1 hP.1 dX6_ofNext_102 ?_
        refine jx_iload_n (pc := 105) C dX6_ofNext_105 rfl ?_
        refine jx_callD (pc := 106) C (go_X6_73 C  (Nat.le_of_ble_eq_true rfl) dX6_ofNext_106) (t_X6_grams hS.2.1 (by omega)) (by decide) (by decide) ⟨Nat.zero_le _, Nat.zero_le _⟩ ?_
        refine jx_icmp_ge (pc := 109) C (tgt := 132) dX6_ofNext_109 (by decide) (fun c109 => ?_) (fun c109 => ?_)
        · refine jx_iconst (pc := 132) C dX6_ofNext_132 nc_0 ?_
          refine jx_goto (pc := 133) C (tgt := 137) dX6_ofNext_133 (by decide) ?_
          exact jn_iret (pc := 137) C hr (jD_i (by
            unfold snextK
            rw [if_neg (by omega)]
            unfold snext1
            rw [hq]
            first
              | exact (if_pos (Or.inl c109)).symm
              | exact (if_pos (Or.inr c129)).symm
              | exact (if_neg (by rintro (h | h) <;> contradiction)).symm)) dX6_ofNext_137
        · refine jx_aload_n (pc := 112) C dX6_ofNext_112 rfl ?_
          refine jx_getP (pc := 113) C kf_X6_7 rfl hS.1 hP.1 dX6_ofNext_113 ?_
          refine jx_iload (pc := 116) C dX6_ofNext_116 rfl ?_
          refine jx_aload_n (pc := 118) C dX6_ofNext_118 rfl ?_
          refine jx_getP (pc := 119) C kf_X6_7 rfl hS.1 hP.1 dX6_ofNext_119 ?_
          refine jx_iload_n (pc := 122) C dX6_ofNext_122 rfl ?_
          refine jx_callD (pc := 123) C (go_X6_73 C  (Nat.le_of_ble_eq_true rfl) dX6_ofNext_123) (t_X6_grams hS.2.1 (by omega)) (by decide) (by decide) ⟨Nat.zero_le _, Nat.zero_le _⟩ ?_
          refine jx_callD (pc := 126) C (go_X6_76 C  (Nat.le_of_ble_eq_true rfl) dX6_ofNext_126) (t_X6_isLent hS.2.1 hcc.2) (by decide) (by decide) ⟨Nat.zero_le _, Nat.zero_le _⟩ ?_
          refine jx_if_eq (pc := 129) C (tgt := 136) dX6_ofNext_129 (by decide) (fun c129 => ?_) (fun c129 => ?_)
          · rw [bI_0, decide_eq_false_iff_not] at c129
            refine jx_iconst (pc := 136) C dX6_ofNext_136 nc_3 ?_
            exact jn_iret (pc := 137) C hr (jD_i (by
              unfold snextK
              rw [if_neg (by omega)]
              unfold snext1
              rw [hq]
              first
                | exact (if_pos (Or.inl c109)).symm
                | exact (if_pos (Or.inr c129)).symm
                | exact (if_neg (by rintro (h | h) <;> contradiction)).symm)) dX6_ofNext_137
          · rw [bI_0, decide_eq_false_iff_not, Decidable.not_not] at c129
            refine jx_iconst (pc := 132) C dX6_ofNext_132 nc_0 ?_
            refine jx_goto (pc := 133) C (tgt := 137) dX6_ofNext_133 (by decide) ?_
            exact jn_iret (pc := 137) C hr (jD_i (by
              unfold snextK
              rw [if_neg (by omega)]
              unfold snext1
              rw [hq]
              first
                | exact (if_pos (Or.inl c109)).symm
                | exact (if_pos (Or.inr c129)).symm
                | exact (if_neg (by rintro (h | h) <;> contradiction)).symm)) dX6_ofNext_137
  refine jx_aload_n (pc := 0) C dX6_ofNext_0 rfl ?_
  refine jx_getP (pc := 1) C kf_X6_7 rfl hS.1 hP.1 dX6_ofNext_1 ?_
  refine jx_iload_n (pc := 4) C dX6_ofNext_4 rfl ?_
  refine jx_iconst (pc := 5) C dX6_ofNext_5 nc_0 ?_
  refine jx_callD (pc := 6) C (go_X6_47 C  (Nat.le_of_ble_eq_true rfl) dX6_ofNext_6) (t_X6_of hS.2.1 (by omega)) (by decide) (by decide) ⟨Nat.zero_le _, Nat.zero_le _⟩ ?_
  refine jx_if_ne (pc := 9) C (tgt := 16) dX6_ofNext_9 (by decide) (fun c9 => ?_) (fun c9 => ?_)
  · refine jx_aload_n (pc := 16) C dX6_ofNext_16 rfl ?_
    refine jx_getP (pc := 17) C kf_X6_7 rfl hS.1 hP.1 dX6_ofNext_17 ?_
    refine jx_iload_n (pc := 20) C dX6_ofNext_20 rfl ?_
    refine jx_callD (pc := 21) C (go_X6_80 C  (Nat.le_of_ble_eq_true rfl) dX6_ofNext_21) (t_X6_chosen hS.2.1 hw hok.1 hok.2.1) (by decide) (by decide) ⟨Nat.zero_le _, Nat.zero_le _⟩ ?_
    refine jx_istore_n (pc := 24) C dX6_ofNext_24 (jset_3 jc_i) (by decide) ?_
    first | rw [show snch (I (x + 1)) w = none from if_pos c9] at key | rw [show snch (I (x + 1)) w = schos (I (x + 1)) w from if_neg c9] at key
    try skip
    exact key
  · refine jx_iconst (pc := 12) C dX6_ofNext_12 nc_m1 ?_
    refine jx_goto (pc := 13) C (tgt := 24) dX6_ofNext_13 (by decide) ?_
    refine jx_istore_n (pc := 24) C dX6_ofNext_24 (jset_3 jc_i) (by decide) ?_
    first | rw [show snch (I (x + 1)) w = none from if_pos c9] at key | rw [show snch (I (x + 1)) w = schos (I (x + 1)) w from if_neg c9] at key
    try skip
    exact key
theorem t_X6_ofNext {l : Launch} {D : va_G} {cA : Nat → ClassId} {N0 : Nat} {Sh : jS} {I : jI} {P : jP} {L : jL} {x : Nat} (hS : mS Sh x) (hP : mP P x) (hok : sOK (I (x + 1))) {w : Nat} (hw : w < 6) {k : Nat} (hk : k ≤ 1) : jN l D cA N0 3 yX6_ofNext cX6_ofNext 5 (some .int) [.ref x, .int (nI w), .int (nI k)] Sh I P L (jD (some (.int (snextK (I (x + 1)) w k))) I P L) := jN_of (by decide) (Nat.le_of_ble_eq_true rfl) (fun _ _ _ _ _ _ _ _ C hr => b_X6_ofNext C hr hS hP hok hw hk)
set_option maxHeartbeats 4000000 in
theorem b_X6_next {p : Program} {l : Launch} {e : Env} {s : State} {m : MethodId} {args : Array Value} {below : List Frame} {meth : Method} {c : Code} {D : va_G} {cA : Nat → ClassId} {N0 : Nat} {Sh : jS} {I : jI} {P : jP} {L : jL} (C : jC p (jRm 4 0 0) s m args meth c D cA N0 cX6_next 3 RX6 4) (hr : meth.sig.returnType = (some .int)) {x : Nat} (hS : mS Sh x) (hP : mP P x) (hok : sOK (I (x + 1))) {wv kv : Int32} : jJ p l e (jRm 4 0 0) s m args below meth c D cA N0 3 (MQ below (jQn D cA N0 Sh (mQu I P L x (snext (I (x + 1)) wv kv))) args s 0 0 (fun q => N0 ≤ q)) (fun _ => True) Sh I P L 0 0 0 [some (.ref x), some (.int wv), some (.int kv)] [] := by
  have e0 : jst I x 6 (nI 0) (x + 1) = I (x + 1) := jst_ne (by omega)
  refine jx_aload_n (pc := 0) C dX6_next_0 rfl ?_
  refine jx_iconst (pc := 1) C dX6_next_1 nc_0 ?_
  refine jx_putI (pc := 2) C kf_X6_28 rfl rfl rfl rfl hS.1 dX6_next_2 ?_
  refine jx_iload_n (pc := 5) C dX6_next_5 rfl ?_
  refine jx_callD (pc := 6) C (go_X6_103 C  (Nat.le_of_ble_eq_true rfl) dX6_next_6) t_X6_isWeaver (by decide) (by decide) ⟨Nat.zero_le _, Nat.zero_le _⟩ ?_
  refine jx_if_ne (pc := 9) C (tgt := 18) dX6_next_9 (by decide) (fun c9 => ?_) (fun c9 => ?_)
  · rw [bI_0, decide_eq_false_iff_not, Decidable.not_not] at c9
    obtain ⟨w, hw, rfl⟩ := in_N (by decide) c9
    refine jx_iload_n (pc := 18) C dX6_next_18 rfl ?_
    refine jx_iconst (pc := 19) C dX6_next_19 nc_0 ?_
    refine jx_iconst (pc := 20) C dX6_next_20 nc_1 ?_
    refine jx_callD (pc := 21) C (go_X6_32 C  (Nat.le_of_ble_eq_true rfl) dX6_next_21) t_X6_in (by decide) (by decide) ⟨Nat.zero_le _, Nat.zero_le _⟩ ?_
    refine jx_if_eq (pc := 24) C (tgt := 36) dX6_next_24 (by decide) (fun c24 => ?_) (fun c24 => ?_)
    · rw [bI_0, decide_eq_false_iff_not] at c24
      refine jx_aload_n (pc := 36) C dX6_next_36 rfl ?_
      refine jx_iconst (pc := 37) C dX6_next_37 nc_2 ?_
      refine jx_callD (pc := 38) C (go_X6_39 C hS.1 (Nat.le_of_ble_eq_true rfl) dX6_next_38) (t_X6_fails hS.1) (by decide) (by decide) ⟨Nat.zero_le _, Nat.zero_le _⟩ ?_
      exact jn_iret (pc := 41) C hr (by first | exact mQu_ok (by unfold snext; rw [if_pos (nI_inn (by decide) hw), if_pos (nI_inn (by decide) hk), sW_N (by omega), sW_N (by omega)]) | exact mQu_fail (k := 2) (by unfold snext; rw [if_pos (nI_inn (by decide) hw), if_neg c24]) (by decide)) dX6_next_41
    · rw [bI_0, decide_eq_false_iff_not, Decidable.not_not] at c24
      obtain ⟨k, hk, rfl⟩ := in_N (by decide) c24
      refine jx_aload_n (pc := 27) C dX6_next_27 rfl ?_
      refine jx_iload_n (pc := 28) C dX6_next_28 rfl ?_
      refine jx_iload_n (pc := 29) C dX6_next_29 rfl ?_
      refine jx_callD (pc := 30) C (go_X6_167 C hS.1 (Nat.le_of_ble_eq_true rfl) dX6_next_30) (t_X6_ofNext hS hP (by rw [e0]; exact hok) (by omega) hk) (by decide) (by decide) ⟨Nat.zero_le _, Nat.zero_le _⟩ ?_
      rw [e0]
      refine jx_goto (pc := 33) C (tgt := 41) dX6_next_33 (by decide) ?_
      exact jn_iret (pc := 41) C hr (by first | exact mQu_ok (by unfold snext; rw [if_pos (nI_inn (by decide) hw), if_pos (nI_inn (by decide) hk), sW_N (by omega), sW_N (by omega)]) | exact mQu_fail (k := 2) (by unfold snext; rw [if_pos (nI_inn (by decide) hw), if_neg c24]) (by decide)) dX6_next_41
  · rw [bI_0, decide_eq_false_iff_not] at c9
    refine jx_aload_n (pc := 12) C dX6_next_12 rfl ?_
    refine jx_iconst (pc := 13) C dX6_next_13 nc_1 ?_
    refine jx_callD (pc := 14) C (go_X6_39 C hS.1 (Nat.le_of_ble_eq_true rfl) dX6_next_14) (t_X6_fails hS.1) (by decide) (by decide) ⟨Nat.zero_le _, Nat.zero_le _⟩ ?_
    exact jn_iret (pc := 17) C hr (mQu_fail (k := 1) (by unfold snext; rw [if_neg c9]) (by decide)) dX6_next_17
theorem t_X6_next {l : Launch} {D : va_G} {cA : Nat → ClassId} {N0 : Nat} {Sh : jS} {I : jI} {P : jP} {L : jL} {x : Nat} (hS : mS Sh x) (hP : mP P x) (hok : sOK (I (x + 1))) {wv kv : Int32} : jN l D cA N0 4 yX6_next cX6_next 3 (some .int) [.ref x, .int wv, .int kv] Sh I P L (mQu I P L x (snext (I (x + 1)) wv kv)) := jN_of (by decide) (Nat.le_of_ble_eq_true rfl) (fun _ _ _ _ _ _ _ _ C hr => b_X6_next C hr hS hP hok)
set_option maxHeartbeats 4000000 in
theorem lp_X6_debts {p : Program} {l : Launch} {e : Env} {s : State} {m : MethodId} {args : Array Value} {below : List Frame} {meth : Method} {c : Code} {D : va_G} {cA : Nat → ClassId} {N0 : Nat} {Sh : jS} {I : jI} {P : jP} {L : jL} {Qf : State → Prop} (C : jC p (jRm 1 0 0) s m args meth c D cA N0 cX6_debts 3 RX6 1) {a : Nat} (hs : Sh a = some (10, 210)) (hx : jJ p l e (jRm 1 0 0) s m args below meth c D cA N0 3 Qf (fun _ => True) Sh I P L 0 0 25 [some (.ref a), some (.int (ssum (fun w => I a (18 + 12 * w + 3)) 6)), some (.int (nI 6))] []) : ∀ d w, w + d = 6 → jJ p l e (jRm 1 0 0) s m args below meth c D cA N0 3 Qf (fun _ => True) Sh I P L 0 0 4 [some (.ref a), some (.int (ssum (fun w => I a (18 + 12 * w + 3)) w)), some (.int (nI w))] [] := by
  intro d
  induction d with
  | zero =>
    intro w hw
    obtain rfl : w = 6 := by omega
    refine jx_iload_n (pc := 4) C dX6_debts_4 rfl ?_
    refine jx_bipush (pc := 5) C dX6_debts_5 nb_6 ?_
    refine jx_icmp_ge (pc := 7) C (tgt := 25) dX6_debts_7 (by decide) (fun c7 => ?_) (fun c7 => (by rw [nI_leI (by omega) (by omega)] at c7; exfalso; omega))
    rw [nI_leI (by omega) (by omega)] at c7
    exact hx
  | succ d ih =>
    intro w hw
    refine jx_iload_n (pc := 4) C dX6_debts_4 rfl ?_
    refine jx_bipush (pc := 5) C dX6_debts_5 nb_6 ?_
    refine jx_icmp_ge (pc := 7) C (tgt := 25) dX6_debts_7 (by decide) (fun c7 => (by rw [nI_leI (by omega) (by omega)] at c7; exfalso; omega)) (fun c7 => ?_)
    rw [nI_leI (by omega) (by omega)] at c7
    refine jx_iload_n (pc := 10) C dX6_debts_10 rfl ?_
    refine jx_aload_n (pc := 11) C dX6_debts_11 rfl ?_
    refine jx_iload_n (pc := 12) C dX6_debts_12 rfl ?_
    refine jx_iconst (pc := 13) C dX6_debts_13 nc_3 ?_
    refine jx_callD (pc := 14) C (go_X6_47 C  (Nat.le_of_ble_eq_true rfl) dX6_debts_14) (t_X6_of hs (by omega)) (by decide) (by decide) ⟨Nat.zero_le _, Nat.zero_le _⟩ ?_
    refine jx_iadd (pc := 17) C dX6_debts_17 ?_
    refine jx_istore_n (pc := 18) C dX6_debts_18 (jset_1 jc_r) (by decide) ?_
    refine jx_iincN (pc := 19) C dX6_debts_19 rfl (jset_2 jc_i) (by decide) ?_
    refine jx_goto (pc := 22) C (tgt := 4) dX6_debts_22 (by decide) ?_
    exact ih (w + 1) (by omega)
set_option maxHeartbeats 4000000 in
theorem b_X6_debts {p : Program} {l : Launch} {e : Env} {s : State} {m : MethodId} {args : Array Value} {below : List Frame} {meth : Method} {c : Code} {D : va_G} {cA : Nat → ClassId} {N0 : Nat} {Sh : jS} {I : jI} {P : jP} {L : jL} (C : jC p (jRm 1 0 0) s m args meth c D cA N0 cX6_debts 3 RX6 1) (hr : meth.sig.returnType = (some .int)) {a : Nat} (hs : Sh a = some (10, 210)) : jJ p l e (jRm 1 0 0) s m args below meth c D cA N0 3 (MQ below (jQn D cA N0 Sh (jD (some (.int (sdebts (I a)))) I P L)) args s 0 0 (fun q => N0 ≤ q)) (fun _ => True) Sh I P L 0 0 0 [some (.ref a), none, none] [] := by
  refine jx_iconst (pc := 0) C dX6_debts_0 nc_0 ?_
  refine jx_istore_n (pc := 1) C dX6_debts_1 (jset_1 jc_r) (by decide) ?_
  refine jx_iconst (pc := 2) C dX6_debts_2 nc_0 ?_
  refine jx_istore_n (pc := 3) C dX6_debts_3 (jset_2 jc_i) (by decide) ?_
  refine lp_X6_debts C hs ?_ 6 0 rfl
  refine jx_iload_n (pc := 25) C dX6_debts_25 rfl ?_
  exact jn_iret (pc := 26) C hr (jD_r) dX6_debts_26
theorem t_X6_debts {l : Launch} {D : va_G} {cA : Nat → ClassId} {N0 : Nat} {Sh : jS} {I : jI} {P : jP} {L : jL} {a : Nat} (hs : Sh a = some (10, 210)) : jN l D cA N0 1 yX6_debts cX6_debts 3 (some .int) [.ref a] Sh I P L (jD (some (.int (sdebts (I a)))) I P L) := jN_of (by decide) (Nat.le_of_ble_eq_true rfl) (fun _ _ _ _ _ _ _ _ C hr => b_X6_debts C hr hs)
set_option maxHeartbeats 4000000 in
theorem lp_X6_looms {p : Program} {l : Launch} {e : Env} {s : State} {m : MethodId} {args : Array Value} {below : List Frame} {meth : Method} {c : Code} {D : va_G} {cA : Nat → ClassId} {N0 : Nat} {Sh : jS} {I : jI} {P : jP} {L : jL} {Qf : State → Prop} (C : jC p (jRm 1 0 0) s m args meth c D cA N0 cX6_looms 3 RX6 1) {x : Nat} (hS : mS Sh x) (hP : mP P x) (hx : jJ p l e (jRm 1 0 0) s m args below meth c D cA N0 3 Qf (fun _ => True) Sh I P L 0 0 36 [some (.ref x), some (.int (sloomsN (I (x + 1)) 6)), some (.int (nI 6))] []) : ∀ d w, w + d = 6 → jJ p l e (jRm 1 0 0) s m args below meth c D cA N0 3 Qf (fun _ => True) Sh I P L 0 0 4 [some (.ref x), some (.int (sloomsN (I (x + 1)) w)), some (.int (nI w))] [] := by
  intro d
  induction d with
  | zero =>
    intro w hw
    obtain rfl : w = 6 := by omega
    refine jx_iload_n (pc := 4) C dX6_looms_4 rfl ?_
    refine jx_bipush (pc := 5) C dX6_looms_5 nb_6 ?_
    refine jx_icmp_ge (pc := 7) C (tgt := 36) dX6_looms_7 (by decide) (fun c7 => ?_) (fun c7 => (by rw [nI_leI (by omega) (by omega)] at c7; exfalso; omega))
    rw [nI_leI (by omega) (by omega)] at c7
    exact hx
  | succ d ih =>
    intro w hw
    refine jx_iload_n (pc := 4) C dX6_looms_4 rfl ?_
    refine jx_bipush (pc := 5) C dX6_looms_5 nb_6 ?_
    refine jx_icmp_ge (pc := 7) C (tgt := 36) dX6_looms_7 (by decide) (fun c7 => (by rw [nI_leI (by omega) (by omega)] at c7; exfalso; omega)) (fun c7 => ?_)
    rw [nI_leI (by omega) (by omega)] at c7
    refine jx_iload_n (pc := 10) C dX6_looms_10 rfl ?_
    refine jx_aload_n (pc := 11) C dX6_looms_11 rfl ?_
    refine jx_getP (pc := 12) C kf_X6_7 rfl hS.1 hP.1 dX6_looms_12 ?_
    refine jx_iload_n (pc := 15) C dX6_looms_15 rfl ?_
    refine jx_iconst (pc := 16) C dX6_looms_16 nc_0 ?_
    refine jx_callD (pc := 17) C (go_X6_47 C  (Nat.le_of_ble_eq_true rfl) dX6_looms_17) (t_X6_of hS.2.1 (by omega)) (by decide) (by decide) ⟨Nat.zero_le _, Nat.zero_le _⟩ ?_
    refine jx_if_le (pc := 20) C (tgt := 27) dX6_looms_20 (by decide) (fun c20 => ?_) (fun c20 => ?_)
    · refine jx_iconst (pc := 27) C dX6_looms_27 nc_0 ?_
      refine jx_iadd (pc := 28) C dX6_looms_28 ?_
      refine jx_istore_n (pc := 29) C dX6_looms_29 (jset_1 jc_r) (by decide) ?_
      refine jx_iincN (pc := 30) C dX6_looms_30 rfl (jset_2 jc_i) (by decide) ?_
      refine jx_goto (pc := 33) C (tgt := 4) dX6_looms_33 (by decide) ?_
      have h4 := ih (w + 1) (by omega)
      first
        | (rw [show sloomsN (I (x + 1)) (w + 1) = sloomsN (I (x + 1)) w + nI 0 from congrArg _ (if_pos c20)] at h4; exact h4)
        | (rw [show sloomsN (I (x + 1)) (w + 1) = sloomsN (I (x + 1)) w + nI 1 from congrArg _ (if_neg c20)] at h4; exact h4)
    · refine jx_iconst (pc := 23) C dX6_looms_23 nc_1 ?_
      refine jx_goto (pc := 24) C (tgt := 28) dX6_looms_24 (by decide) ?_
      refine jx_iadd (pc := 28) C dX6_looms_28 ?_
      refine jx_istore_n (pc := 29) C dX6_looms_29 (jset_1 jc_r) (by decide) ?_
      refine jx_iincN (pc := 30) C dX6_looms_30 rfl (jset_2 jc_i) (by decide) ?_
      refine jx_goto (pc := 33) C (tgt := 4) dX6_looms_33 (by decide) ?_
      have h4 := ih (w + 1) (by omega)
      first
        | (rw [show sloomsN (I (x + 1)) (w + 1) = sloomsN (I (x + 1)) w + nI 0 from congrArg _ (if_pos c20)] at h4; exact h4)
        | (rw [show sloomsN (I (x + 1)) (w + 1) = sloomsN (I (x + 1)) w + nI 1 from congrArg _ (if_neg c20)] at h4; exact h4)
set_option maxHeartbeats 4000000 in
theorem b_X6_looms {p : Program} {l : Launch} {e : Env} {s : State} {m : MethodId} {args : Array Value} {below : List Frame} {meth : Method} {c : Code} {D : va_G} {cA : Nat → ClassId} {N0 : Nat} {Sh : jS} {I : jI} {P : jP} {L : jL} (C : jC p (jRm 1 0 0) s m args meth c D cA N0 cX6_looms 3 RX6 1) (hr : meth.sig.returnType = (some .int)) {x : Nat} (hS : mS Sh x) (hP : mP P x) : jJ p l e (jRm 1 0 0) s m args below meth c D cA N0 3 (MQ below (jQn D cA N0 Sh (jD (some (.int (sloomsN (I (x + 1)) 6))) I P L)) args s 0 0 (fun q => N0 ≤ q)) (fun _ => True) Sh I P L 0 0 0 [some (.ref x), none, none] [] := by
  refine jx_iconst (pc := 0) C dX6_looms_0 nc_0 ?_
  refine jx_istore_n (pc := 1) C dX6_looms_1 (jset_1 jc_r) (by decide) ?_
  refine jx_iconst (pc := 2) C dX6_looms_2 nc_0 ?_
  refine jx_istore_n (pc := 3) C dX6_looms_3 (jset_2 jc_i) (by decide) ?_
  refine lp_X6_looms C hS hP ?_ 6 0 rfl
  refine jx_iload_n (pc := 36) C dX6_looms_36 rfl ?_
  exact jn_iret (pc := 37) C hr (jD_r) dX6_looms_37
theorem t_X6_looms {l : Launch} {D : va_G} {cA : Nat → ClassId} {N0 : Nat} {Sh : jS} {I : jI} {P : jP} {L : jL} {x : Nat} (hS : mS Sh x) (hP : mP P x) : jN l D cA N0 1 yX6_looms cX6_looms 3 (some .int) [.ref x] Sh I P L (jD (some (.int (sloomsN (I (x + 1)) 6))) I P L) := jN_of (by decide) (Nat.le_of_ble_eq_true rfl) (fun _ _ _ _ _ _ _ _ C hr => b_X6_looms C hr hS hP)
set_option maxHeartbeats 4000000 in
theorem b_X6_counted {p : Program} {l : Launch} {e : Env} {s : State} {m : MethodId} {args : Array Value} {below : List Frame} {meth : Method} {c : Code} {D : va_G} {cA : Nat → ClassId} {N0 : Nat} {Sh : jS} {I : jI} {P : jP} {L : jL} (C : jC p (jRm 2 0 0) s m args meth c D cA N0 cX6_counted 2 RX6 2) (hr : meth.sig.returnType = (some .int)) {x : Nat} (hS : mS Sh x) (hP : mP P x) {k : Nat} (hk : k ≤ 11) : jJ p l e (jRm 2 0 0) s m args below meth c D cA N0 2 (MQ below (jQn D cA N0 Sh (jD (some (.int (scounted (I (x + 1)) (I x 3) k))) I P L)) args s 0 0 (fun q => N0 ≤ q)) (fun _ => True) Sh I P L 0 0 0 [some (.ref x), some (.int (nI k))] [] := by
  refine jx_iload_n (pc := 0) C dX6_counted_0 rfl ?_
  refine jx_iconst (pc := 1) C dX6_counted_1 nc_2 ?_
  refine jx_icmp_ge (pc := 2) C (tgt := 14) dX6_counted_2 (by decide) (fun c2 => ?_) (fun c2 => ?_)
  · rw [nI_leI (by omega) (by omega)] at c2
    refine jx_iload_n (pc := 14) C dX6_counted_14 rfl ?_
    refine jx_bipush (pc := 15) C dX6_counted_15 nb_8 ?_
    refine jx_icmp_ge (pc := 17) C (tgt := 32) dX6_counted_17 (by decide) (fun c17 => ?_) (fun c17 => ?_)
    · rw [nI_leI (by omega) (by omega)] at c17
      refine jx_iload_n (pc := 32) C dX6_counted_32 rfl ?_
      refine jx_bipush (pc := 33) C dX6_counted_33 nb_8 ?_
      refine jx_icmp_ne (pc := 35) C (tgt := 48) dX6_counted_35 (by decide) (fun c35 => ?_) (fun c35 => ?_)
      · rw [nI_eq (by omega) (by omega)] at c35
        refine jx_iload_n (pc := 48) C dX6_counted_48 rfl ?_
        refine jx_bipush (pc := 49) C dX6_counted_49 nb_9 ?_
        refine jx_icmp_ne (pc := 51) C (tgt := 61) dX6_counted_51 (by decide) (fun c51 => ?_) (fun c51 => ?_)
        · rw [nI_eq (by omega) (by omega)] at c51
          refine jx_iload_n (pc := 61) C dX6_counted_61 rfl ?_
          refine jx_bipush (pc := 62) C dX6_counted_62 nb_10 ?_
          refine jx_icmp_ne (pc := 64) C (tgt := 77) dX6_counted_64 (by decide) (fun c64 => ?_) (fun c64 => ?_)
          · rw [nI_eq (by omega) (by omega)] at c64
            refine jx_aload_n (pc := 77) C dX6_counted_77 rfl ?_
            refine jx_getI (pc := 78) C kf_X6_36 rfl hS.1 dX6_counted_78 ?_
            exact jn_iret (pc := 81) C hr (jD_i (by
              unfold scounted
              first
                | exact (if_pos (by omega)).symm
                | (rw [if_neg (by omega)]; first
                    | exact (if_pos (by omega)).symm
                    | (rw [if_neg (by omega)]; first
                      | exact (if_pos (by omega)).symm
                      | (rw [if_neg (by omega)]; first
                        | exact (if_pos (by omega)).symm
                        | (rw [if_neg (by omega)]; first | exact (if_pos (by omega)).symm | exact (if_neg (by omega)).symm)))))) dX6_counted_81
          · rw [nI_eq (by omega) (by omega)] at c64
            refine jx_aload_n (pc := 67) C dX6_counted_67 rfl ?_
            refine jx_getP (pc := 68) C kf_X6_7 rfl hS.1 hP.1 dX6_counted_68 ?_
            refine jx_bipush (pc := 71) C dX6_counted_71 nb_13 ?_
            refine jx_iald (pc := 73) C hS.2.1 (by omega) (by decide) dX6_counted_73 ?_
            refine jx_goto (pc := 74) C (tgt := 81) dX6_counted_74 (by decide) ?_
            exact jn_iret (pc := 81) C hr (jD_i (by
              unfold scounted
              first
                | exact (if_pos (by omega)).symm
                | (rw [if_neg (by omega)]; first
                    | exact (if_pos (by omega)).symm
                    | (rw [if_neg (by omega)]; first
                      | exact (if_pos (by omega)).symm
                      | (rw [if_neg (by omega)]; first
                        | exact (if_pos (by omega)).symm
                        | (rw [if_neg (by omega)]; first | exact (if_pos (by omega)).symm | exact (if_neg (by omega)).symm)))))) dX6_counted_81
        · rw [nI_eq (by omega) (by omega)] at c51
          refine jx_aload_n (pc := 54) C dX6_counted_54 rfl ?_
          refine jx_callD (pc := 55) C (go_X6_174 C hS.1 (Nat.le_of_ble_eq_true rfl) dX6_counted_55) (t_X6_looms hS hP) (by decide) (by decide) ⟨Nat.zero_le _, Nat.zero_le _⟩ ?_
          refine jx_goto (pc := 58) C (tgt := 81) dX6_counted_58 (by decide) ?_
          exact jn_iret (pc := 81) C hr (jD_i (by
            unfold scounted
            first
              | exact (if_pos (by omega)).symm
              | (rw [if_neg (by omega)]; first
                  | exact (if_pos (by omega)).symm
                  | (rw [if_neg (by omega)]; first
                    | exact (if_pos (by omega)).symm
                    | (rw [if_neg (by omega)]; first
                      | exact (if_pos (by omega)).symm
                      | (rw [if_neg (by omega)]; first | exact (if_pos (by omega)).symm | exact (if_neg (by omega)).symm)))))) dX6_counted_81
      · rw [nI_eq (by omega) (by omega)] at c35
        refine jx_aload_n (pc := 38) C dX6_counted_38 rfl ?_
        refine jx_getP (pc := 39) C kf_X6_7 rfl hS.1 hP.1 dX6_counted_39 ?_
        refine jx_callD (pc := 42) C (go_X6_170 C  (Nat.le_of_ble_eq_true rfl) dX6_counted_42) (t_X6_debts hS.2.1) (by decide) (by decide) ⟨Nat.zero_le _, Nat.zero_le _⟩ ?_
        refine jx_goto (pc := 45) C (tgt := 81) dX6_counted_45 (by decide) ?_
        exact jn_iret (pc := 81) C hr (jD_i (by
          unfold scounted
          first
            | exact (if_pos (by omega)).symm
            | (rw [if_neg (by omega)]; first
                | exact (if_pos (by omega)).symm
                | (rw [if_neg (by omega)]; first
                  | exact (if_pos (by omega)).symm
                  | (rw [if_neg (by omega)]; first
                    | exact (if_pos (by omega)).symm
                    | (rw [if_neg (by omega)]; first | exact (if_pos (by omega)).symm | exact (if_neg (by omega)).symm)))))) dX6_counted_81
    · rw [nI_leI (by omega) (by omega)] at c17
      refine jx_aload_n (pc := 20) C dX6_counted_20 rfl ?_
      refine jx_getP (pc := 21) C kf_X6_7 rfl hS.1 hP.1 dX6_counted_21 ?_
      refine jx_bipush (pc := 24) C dX6_counted_24 nb_7 ?_
      refine jx_iload_n (pc := 26) C dX6_counted_26 rfl ?_
      refine jx_iaddN (pc := 27) C dX6_counted_27 ?_
      refine jx_iconst (pc := 28) C dX6_counted_28 nc_2 ?_
      refine jx_isubN (pc := 29) C (by omega) dX6_counted_29 ?_
      refine jx_iald (pc := 30) C hS.2.1 (by omega) (by decide) dX6_counted_30 ?_
      exact jn_iret (pc := 31) C hr (jD_i (by
        unfold scounted
        first
          | exact (if_pos (by omega)).symm
          | (rw [if_neg (by omega)]; first
              | exact (if_pos (by omega)).symm
              | (rw [if_neg (by omega)]; first
                | exact (if_pos (by omega)).symm
                | (rw [if_neg (by omega)]; first
                  | exact (if_pos (by omega)).symm
                  | (rw [if_neg (by omega)]; first | exact (if_pos (by omega)).symm | exact (if_neg (by omega)).symm)))))) dX6_counted_31
  · rw [nI_leI (by omega) (by omega)] at c2
    refine jx_aload_n (pc := 5) C dX6_counted_5 rfl ?_
    refine jx_getP (pc := 6) C kf_X6_7 rfl hS.1 hP.1 dX6_counted_6 ?_
    refine jx_iconst (pc := 9) C dX6_counted_9 nc_4 ?_
    refine jx_iload_n (pc := 10) C dX6_counted_10 rfl ?_
    refine jx_iaddN (pc := 11) C dX6_counted_11 ?_
    refine jx_iald (pc := 12) C hS.2.1 (by omega) (by decide) dX6_counted_12 ?_
    exact jn_iret (pc := 13) C hr (jD_i (by
      unfold scounted
      first
        | exact (if_pos (by omega)).symm
        | (rw [if_neg (by omega)]; first
            | exact (if_pos (by omega)).symm
            | (rw [if_neg (by omega)]; first
              | exact (if_pos (by omega)).symm
              | (rw [if_neg (by omega)]; first
                | exact (if_pos (by omega)).symm
                | (rw [if_neg (by omega)]; first | exact (if_pos (by omega)).symm | exact (if_neg (by omega)).symm)))))) dX6_counted_13
theorem t_X6_counted {l : Launch} {D : va_G} {cA : Nat → ClassId} {N0 : Nat} {Sh : jS} {I : jI} {P : jP} {L : jL} {x : Nat} (hS : mS Sh x) (hP : mP P x) {k : Nat} (hk : k ≤ 11) : jN l D cA N0 2 yX6_counted cX6_counted 2 (some .int) [.ref x, .int (nI k)] Sh I P L (jD (some (.int (scounted (I (x + 1)) (I x 3) k))) I P L) := jN_of (by decide) (Nat.le_of_ble_eq_true rfl) (fun _ _ _ _ _ _ _ _ C hr => b_X6_counted C hr hS hP hk)
set_option maxHeartbeats 4000000 in
theorem b_X6_count {p : Program} {l : Launch} {e : Env} {s : State} {m : MethodId} {args : Array Value} {below : List Frame} {meth : Method} {c : Code} {D : va_G} {cA : Nat → ClassId} {N0 : Nat} {Sh : jS} {I : jI} {P : jP} {L : jL} (C : jC p (jRm 3 0 0) s m args meth c D cA N0 cX6_count 2 RX6 3) (hr : meth.sig.returnType = (some .int)) {x : Nat} (hS : mS Sh x) (hP : mP P x) {kv : Int32} : jJ p l e (jRm 3 0 0) s m args below meth c D cA N0 2 (MQ below (jQn D cA N0 Sh (mQu I P L x (scount (I (x + 1)) (I x 3) kv))) args s 0 0 (fun q => N0 ≤ q)) (fun _ => True) Sh I P L 0 0 0 [some (.ref x), some (.int kv)] [] := by
  have e0 : jst I x 6 (nI 0) (x + 1) = I (x + 1) := jst_ne (by omega)
  have e3 : jst I x 6 (nI 0) x 3 = I x 3 := by rw [jst_eq, upd_n (by decide)]
  refine jx_aload_n (pc := 0) C dX6_count_0 rfl ?_
  refine jx_iconst (pc := 1) C dX6_count_1 nc_0 ?_
  refine jx_putI (pc := 2) C kf_X6_28 rfl rfl rfl rfl hS.1 dX6_count_2 ?_
  refine jx_iload_n (pc := 5) C dX6_count_5 rfl ?_
  refine jx_iconst (pc := 6) C dX6_count_6 nc_0 ?_
  refine jx_bipush (pc := 7) C dX6_count_7 nb_11 ?_
  refine jx_callD (pc := 9) C (go_X6_32 C  (Nat.le_of_ble_eq_true rfl) dX6_count_9) t_X6_in (by decide) (by decide) ⟨Nat.zero_le _, Nat.zero_le _⟩ ?_
  refine jx_if_eq (pc := 12) C (tgt := 23) dX6_count_12 (by decide) (fun c12 => ?_) (fun c12 => ?_)
  · rw [bI_0, decide_eq_false_iff_not] at c12
    refine jx_aload_n (pc := 23) C dX6_count_23 rfl ?_
    refine jx_iconst (pc := 24) C dX6_count_24 nc_1 ?_
    refine jx_callD (pc := 25) C (go_X6_39 C hS.1 (Nat.le_of_ble_eq_true rfl) dX6_count_25) (t_X6_fails hS.1) (by decide) (by decide) ⟨Nat.zero_le _, Nat.zero_le _⟩ ?_
    exact jn_iret (pc := 28) C hr (by first | exact mQu_ok (by unfold scount; rw [if_pos (nI_inn (by decide) hk), sW_N (by omega)]) | exact mQu_fail (k := 1) (by unfold scount; rw [if_neg c12]) (by decide)) dX6_count_28
  · rw [bI_0, decide_eq_false_iff_not, Decidable.not_not] at c12
    obtain ⟨k, hk, rfl⟩ := in_N (by decide) c12
    refine jx_aload_n (pc := 15) C dX6_count_15 rfl ?_
    refine jx_iload_n (pc := 16) C dX6_count_16 rfl ?_
    refine jx_callD (pc := 17) C (go_X6_178 C hS.1 (Nat.le_of_ble_eq_true rfl) dX6_count_17) (t_X6_counted hS hP hk) (by decide) (by decide) ⟨Nat.zero_le _, Nat.zero_le _⟩ ?_
    rw [e0, e3]
    refine jx_goto (pc := 20) C (tgt := 28) dX6_count_20 (by decide) ?_
    exact jn_iret (pc := 28) C hr (by first | exact mQu_ok (by unfold scount; rw [if_pos (nI_inn (by decide) hk), sW_N (by omega)]) | exact mQu_fail (k := 1) (by unfold scount; rw [if_neg c12]) (by decide)) dX6_count_28
theorem t_X6_count {l : Launch} {D : va_G} {cA : Nat → ClassId} {N0 : Nat} {Sh : jS} {I : jI} {P : jP} {L : jL} {x : Nat} (hS : mS Sh x) (hP : mP P x) {kv : Int32} : jN l D cA N0 3 yX6_count cX6_count 2 (some .int) [.ref x, .int kv] Sh I P L (mQu I P L x (scount (I (x + 1)) (I x 3) kv)) := jN_of (by decide) (Nat.le_of_ble_eq_true rfl) (fun _ _ _ _ _ _ _ _ C hr => b_X6_count C hr hS hP)
set_option maxHeartbeats 4000000 in
theorem b_X6_setting {p : Program} {l : Launch} {e : Env} {s : State} {m : MethodId} {args : Array Value} {below : List Frame} {meth : Method} {c : Code} {D : va_G} {cA : Nat → ClassId} {N0 : Nat} {Sh : jS} {I : jI} {P : jP} {L : jL} (C : jC p (jRm 1 0 0) s m args meth c D cA N0 cX6_setting 2 RX6 1) (hr : meth.sig.returnType = (some .int)) {x : Nat} (hS : mS Sh x) (hP : mP P x) {kv : Int32} : jJ p l e (jRm 1 0 0) s m args below meth c D cA N0 2 (MQ below (jQn D cA N0 Sh (mQu I P L x (ssetting (I (x + 1)) kv))) args s 0 0 (fun q => N0 ≤ q)) (fun _ => True) Sh I P L 0 0 0 [some (.ref x), some (.int kv)] [] := by
  have e0 : jst I x 6 (nI 0) (x + 1) = I (x + 1) := jst_ne (by omega)
  refine jx_aload_n (pc := 0) C dX6_setting_0 rfl ?_
  refine jx_iconst (pc := 1) C dX6_setting_1 nc_0 ?_
  refine jx_putI (pc := 2) C kf_X6_28 rfl rfl rfl rfl hS.1 dX6_setting_2 ?_
  refine jx_iload_n (pc := 5) C dX6_setting_5 rfl ?_
  refine jx_iconst (pc := 6) C dX6_setting_6 nc_0 ?_
  refine jx_iconst (pc := 7) C dX6_setting_7 nc_3 ?_
  refine jx_callD (pc := 8) C (go_X6_32 C  (Nat.le_of_ble_eq_true rfl) dX6_setting_8) t_X6_in (by decide) (by decide) ⟨Nat.zero_le _, Nat.zero_le _⟩ ?_
  refine jx_if_eq (pc := 11) C (tgt := 23) dX6_setting_11 (by decide) (fun c11 => ?_) (fun c11 => ?_)
  · rw [bI_0, decide_eq_false_iff_not] at c11
    refine jx_aload_n (pc := 23) C dX6_setting_23 rfl ?_
    refine jx_iconst (pc := 24) C dX6_setting_24 nc_1 ?_
    refine jx_callD (pc := 25) C (go_X6_39 C hS.1 (Nat.le_of_ble_eq_true rfl) dX6_setting_25) (t_X6_fails hS.1) (by decide) (by decide) ⟨Nat.zero_le _, Nat.zero_le _⟩ ?_
    exact jn_iret (pc := 28) C hr (by first | exact mQu_ok (by unfold ssetting; rw [if_pos (nI_inn (by decide) hk), sW_N (by omega)]) | exact mQu_fail (k := 1) (by unfold ssetting; rw [if_neg c11]) (by decide)) dX6_setting_28
  · rw [bI_0, decide_eq_false_iff_not, Decidable.not_not] at c11
    obtain ⟨k, hk, rfl⟩ := in_N (by decide) c11
    refine jx_aload_n (pc := 14) C dX6_setting_14 rfl ?_
    refine jx_getP (pc := 15) C kf_X6_7 rfl hS.1 hP.1 dX6_setting_15 ?_
    refine jx_iload_n (pc := 18) C dX6_setting_18 rfl ?_
    refine jx_ialdv (pc := 19) C hS.2.1 (by omega) (by decide) (congrFun e0 _) dX6_setting_19 ?_
    refine jx_goto (pc := 20) C (tgt := 28) dX6_setting_20 (by decide) ?_
    exact jn_iret (pc := 28) C hr (by first | exact mQu_ok (by unfold ssetting; rw [if_pos (nI_inn (by decide) hk), sW_N (by omega)]) | exact mQu_fail (k := 1) (by unfold ssetting; rw [if_neg c11]) (by decide)) dX6_setting_28
theorem t_X6_setting {l : Launch} {D : va_G} {cA : Nat → ClassId} {N0 : Nat} {Sh : jS} {I : jI} {P : jP} {L : jL} {x : Nat} (hS : mS Sh x) (hP : mP P x) {kv : Int32} : jN l D cA N0 1 yX6_setting cX6_setting 2 (some .int) [.ref x, .int kv] Sh I P L (mQu I P L x (ssetting (I (x + 1)) kv)) := jN_of (by decide) (Nat.le_of_ble_eq_true rfl) (fun _ _ _ _ _ _ _ _ C hr => b_X6_setting C hr hS hP)
