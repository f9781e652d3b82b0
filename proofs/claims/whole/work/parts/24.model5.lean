theorem in_N {v : Int32} {n : Nat} (hn : n < 2 ^ 31) (h : nI 0 ≤ v ∧ v ≤ nI n) : ∃ w : Nat, w ≤ n ∧ v = nI w := by
  refine nI_of2 (nI_toInt hn) ?_ h.2
  rw [← nI_0]; exact i32_nlt.mpr h.1
theorem nI_inn {w n : Nat} (hn : n < 2 ^ 31) (h : w ≤ n) : nI 0 ≤ nI w ∧ nI w ≤ nI n := ⟨(nI_leI (by decide) (by omega)).mpr (Nat.zero_le _), (nI_leI (by omega) hn).mpr h⟩
/-- a state was saved -/
def mPush (I : jI) (x : Nat) (I' : jI) : Prop := ∃ q : Nat, I x 3 = nI q ∧ q ≤ 6 ∧ I' x 3 = nI (min q 5 + 1) ∧ (∀ k, k < 210 → I' (x + 3) (210 * (min q 5) + k) = I (x + 1) k) ∧ ∀ i, i < min q 5 → ∀ k, k < 210 → I' (x + 3) (210 * i + k) = I (x + 3) (210 * (i + (q - min q 5)) + k)
def mSv (I : jI) (x : Nat) (I' : jI) : Prop := I' (x + 1) = I (x + 1) ∧ I' (x + 2) = I (x + 2) ∧ I' (x + 4) = I (x + 4) ∧ (∀ k, k ≠ 3 → I' x k = I x k) ∧ (∀ b, b < x ∨ x + 3 < b → I' b = I b) ∧ mPush I x I'
/-- the end of a reference's method that changes the state: S is the sort of its failure (0: none), its answer, the new state -/
def mDo (I : jI) (P : jP) (L : jL) (x : Nat) (S : Nat × Int32 × sF) : Option Value → jI → jP → jL → Prop := fun v I' P' L' => P' = P ∧ L' = L ∧ ∃ r, v = some (.int r) ∧ I' x 6 = nI S.1 ∧ (∀ b, b < x ∨ x + 6 < b → I' b = I b) ∧ I' x 5 = I x 5 ∧ I' (x + 4) = I (x + 4) ∧ (S.1 = 0 → r = S.2.1 ∧ I' (x + 1) = S.2.2 ∧ mPush I x I') ∧ (S.1 ≠ 0 → I' (x + 1) = I (x + 1) ∧ I' x 3 = I x 3 ∧ I' (x + 3) = I (x + 3))
theorem mDo_fail {I : jI} {P : jP} {L : jL} {x k : Nat} {S : Nat × Int32 × sF} (e : S.1 = k) (hk : k ≠ 0) : mDo I P L x S (some (.int (nI 0))) (jst (jst I x 6 (nI 0)) x 6 (nI k)) P L := by
  refine ⟨rfl, rfl, _, rfl, ?_, fun b hb => ?_, ?_, ?_, fun h => absurd (e.symm.trans h) hk, fun _ => ⟨?_, ?_, ?_⟩⟩
  · rw [e, jst_eq, upd_s]
  · rw [jst_ne (by omega), jst_ne (by omega)]
  · rw [jst_eq, upd_n (by decide), jst_eq, upd_n (by decide)]
  · rw [jst_ne (by omega), jst_ne (by omega)]
  · rw [jst_ne (by omega), jst_ne (by omega)]
  · rw [jst_eq, upd_n (by decide), jst_eq, upd_n (by decide)]
  · rw [jst_ne (by omega), jst_ne (by omega)]
theorem mPush_0 {I I1 : jI} {x : Nat} {v : Int32} (h : mPush (jst I x 6 v) x I1) : mPush I x I1 := by
  obtain ⟨q, h1, h2, h3, h4, h5⟩ := h
  rw [jst_eq, upd_n (by decide)] at h1
  refine ⟨q, h1, h2, h3, fun k hk => ?_, fun i hi k hk => ?_⟩
  · rw [h4 k hk, jst_ne (by omega)]
  · rw [h5 i hi k hk, jst_ne (by omega)]
theorem mPush_now {I I1 : jI} {x : Nat} {g : sF} (h : mPush I x I1) : mPush I x (va_up I1 (x + 1) g) := by
  obtain ⟨q, h1, h2, h3, h4, h5⟩ := h
  refine ⟨q, h1, h2, ?_, fun k hk => ?_, fun i hi k hk => ?_⟩
  · rw [va_up_n (by omega)]; exact h3
  · rw [va_up_n (by omega)]; exact h4 k hk
  · rw [va_up_n (by omega)]; exact h5 i hi k hk
theorem mDo_ok {I I1 I' : jI} {P : jP} {L : jL} {x : Nat} {S : Nat × Int32 × sF} {r : Int32} (hs : mSv (jst I x 6 (nI 0)) x I1) (e : S.1 = 0) (hr : r = S.2.1) (hI : I' = va_up I1 (x + 1) S.2.2) : mDo I P L x S (some (.int r)) I' P L := by
  obtain ⟨h1, h2, h4, h6, hb, hp⟩ := hs
  subst hI
  refine ⟨rfl, rfl, _, rfl, ?_, fun b hb' => ?_, ?_, ?_, fun _ => ⟨hr, va_up_s, mPush_now (mPush_0 hp)⟩, fun h => absurd e h⟩
  · rw [va_up_n (by omega), h6 6 (by decide), e, jst_eq, upd_s]
  · rw [va_up_n (by omega), hb b (by omega), jst_ne (by omega)]
  · rw [va_up_n (by omega), h6 5 (by decide), jst_eq, upd_n (by decide)]
  · rw [va_up_n (by omega), h4, jst_ne (by omega)]
/-- copies from one row to another -/
def cpy (g h : Nat → Int32) (b c n : Nat) : Nat → Int32 := fun k => if b ≤ k ∧ k < b + n then h (c + (k - b)) else g k
theorem cpy_0 {g h : Nat → Int32} {b c : Nat} : cpy g h b c 0 = g := by funext k; unfold cpy; rw [if_neg (by omega)]
theorem cpy_s {g h : Nat → Int32} {b c n : Nat} : upd (cpy g h b c n) (b + n) (h (c + n)) = cpy g h b c (n + 1) := by
  funext k
  simp only [upd, cpy]
  by_cases h1 : k = b + n
  · subst h1; rw [if_pos rfl, if_pos (by omega)]; exact congrArg h (by omega)
  · rw [if_neg h1]
    by_cases h2 : b ≤ k ∧ k < b + n
    · rw [if_pos h2, if_pos (by omega)]
    · rw [if_neg h2, if_neg (by omega)]
theorem cpy_in {g h : Nat → Int32} {b c n k : Nat} (h1 : k < n) : cpy g h b c n (b + k) = h (c + k) := by unfold cpy; rw [if_pos (by omega)]; exact congrArg h (by omega)
theorem cpy_out {g h : Nat → Int32} {b c n k : Nat} (h1 : k < b ∨ b + n ≤ k) : cpy g h b c n k = g k := by unfold cpy; rw [if_neg (by omega)]
set_option maxHeartbeats 4000000 in
theorem lp_X6_tries {p : Program} {l : Launch} {e : Env} {s : State} {m : MethodId} {args : Array Value} {below : List Frame} {meth : Method} {c : Code} {D : va_G} {cA : Nat → ClassId} {N0 : Nat} {Sh : jS} {I : jI} {P : jP} {L : jL} {Qf : State → Prop} (C : jC p (jRm 0 0 0) s m args meth c D cA N0 cX6_tries 2 RX6 0) {x : Nat} (hS : mS Sh x) (hP : mP P x) (hx : jJ p l e (jRm 0 0 0) s m args below meth c D cA N0 2 Qf (fun _ => True) Sh (va_up I (x + 2) (cpy (I (x + 2)) (I (x + 1)) 0 0 210)) P L 0 0 27 [some (.ref x), some (.int (nI 210))] []) : ∀ d i, i + d = 210 → jJ p l e (jRm 0 0 0) s m args below meth c D cA N0 2 Qf (fun _ => True) Sh (va_up I (x + 2) (cpy (I (x + 2)) (I (x + 1)) 0 0 i)) P L 0 0 2 [some (.ref x), some (.int (nI i))] [] := by
  intro d
  induction d with
  | zero =>
    intro i hi
    obtain rfl : i = 210 := by omega
    refine jx_iload_n (pc := 2) C dX6_tries_2 rfl ?_
    refine jx_sipush (pc := 3) C dX6_tries_3 ns_210 ?_
    refine jx_icmp_ge (pc := 6) C (tgt := 27) dX6_tries_6 (by decide) (fun c6 => ?_) (fun c6 => (by rw [nI_leI (by omega) (by omega)] at c6; exfalso; omega))
    rw [nI_leI (by omega) (by omega)] at c6
    exact hx
  | succ d ih =>
    intro i hi
    have h1 : (va_up I (x + 2) (cpy (I (x + 2)) (I (x + 1)) 0 0 i)) (x + 1) i = I (x + 1) (0 + i) := by rw [va_up_n (by omega), Nat.zero_add]
    have h2 := cpy_s (g := I (x + 2)) (h := I (x + 1)) (b := 0) (c := 0) (n := i)
    rw [Nat.zero_add i] at h1 h2
    refine jx_iload_n (pc := 2) C dX6_tries_2 rfl ?_
    refine jx_sipush (pc := 3) C dX6_tries_3 ns_210 ?_
    refine jx_icmp_ge (pc := 6) C (tgt := 27) dX6_tries_6 (by decide) (fun c6 => (by rw [nI_leI (by omega) (by omega)] at c6; exfalso; omega)) (fun c6 => ?_)
    rw [nI_leI (by omega) (by omega)] at c6
    refine jx_aload_n (pc := 9) C dX6_tries_9 rfl ?_
    refine jx_getP (pc := 10) C kf_X6_13 rfl hS.1 hP.2.1 dX6_tries_10 ?_
    refine jx_iload_n (pc := 13) C dX6_tries_13 rfl ?_
    refine jx_aload_n (pc := 14) C dX6_tries_14 rfl ?_
    refine jx_getP (pc := 15) C kf_X6_7 rfl hS.1 hP.1 dX6_tries_15 ?_
    refine jx_iload_n (pc := 18) C dX6_tries_18 rfl ?_
    refine jx_ialdv (pc := 19) C hS.2.1 (by omega) (by decide) h1 dX6_tries_19 ?_
    refine jx_iast (pc := 20) C hS.2.2.1 (by omega) (by decide) dX6_tries_20 ?_
    rw [jst_up, h2]
    refine jx_iincN (pc := 21) C dX6_tries_21 rfl (jset_1 jc_r) (by decide) ?_
    refine jx_goto (pc := 24) C (tgt := 2) dX6_tries_24 (by decide) ?_
    exact ih (i + 1) (by omega)
set_option maxHeartbeats 4000000 in
theorem b_X6_tries {p : Program} {l : Launch} {e : Env} {s : State} {m : MethodId} {args : Array Value} {below : List Frame} {meth : Method} {c : Code} {D : va_G} {cA : Nat → ClassId} {N0 : Nat} {Sh : jS} {I : jI} {P : jP} {L : jL} (C : jC p (jRm 0 0 0) s m args meth c D cA N0 cX6_tries 2 RX6 0) (hr : meth.sig.returnType = none) {x : Nat} (hS : mS Sh x) (hP : mP P x) : jJ p l e (jRm 0 0 0) s m args below meth c D cA N0 2 (MQ below (jQn D cA N0 Sh (jD none (va_up I (x + 2) (cpy (I (x + 2)) (I (x + 1)) 0 0 210)) P L)) args s 0 0 (fun q => N0 ≤ q)) (fun _ => True) Sh I P L 0 0 0 [some (.ref x), none] [] := by
  refine jx_iconst (pc := 0) C dX6_tries_0 nc_0 ?_
  refine jx_istore_n (pc := 1) C dX6_tries_1 (jset_1 jc_r) (by decide) ?_
  refine jx_mem (I' := (va_up I (x + 2) (cpy (I (x + 2)) (I (x + 1)) 0 0 0))) (P' := P) (by rw [cpy_0]; exact va_up_id.symm) rfl ?_
  refine lp_X6_tries C hS hP ?_ 210 0 rfl
  exact jn_vret (pc := 27) C hr (jD_r) dX6_tries_27
theorem t_X6_tries {l : Launch} {D : va_G} {cA : Nat → ClassId} {N0 : Nat} {Sh : jS} {I : jI} {P : jP} {L : jL} {x : Nat} (hS : mS Sh x) (hP : mP P x) : jN l D cA N0 0 yX6_tries cX6_tries 2 none [.ref x] Sh I P L (jD none (va_up I (x + 2) (cpy (I (x + 2)) (I (x + 1)) 0 0 210)) P L) := jN_of (by decide) (Nat.le_of_ble_eq_true rfl) (fun _ _ _ _ _ _ _ _ C hr => b_X6_tries C hr hS hP)
theorem cpy_sh {g : Nat → Int32} {b c n m : Nat} (h : b + n ≤ m) : cpy g g b c n m = g m := cpy_out (Or.inr h)
set_option maxHeartbeats 4000000 in
theorem lp_X6_savesA {p : Program} {l : Launch} {e : Env} {s : State} {m : MethodId} {args : Array Value} {below : List Frame} {meth : Method} {c : Code} {D : va_G} {cA : Nat → ClassId} {N0 : Nat} {Sh : jS} {I : jI} {P : jP} {L : jL} {Qf : State → Prop} (C : jC p (jRm 0 0 0) s m args meth c D cA N0 cX6_saves 2 RX6 0) {x : Nat} (hS : mS Sh x) (hP : mP P x) (hx : jJ p l e (jRm 0 0 0) s m args below meth c D cA N0 2 Qf (fun _ => True) Sh (va_up I (x + 3) (cpy (I (x + 3)) (I (x + 3)) 0 210 1050)) P L 0 0 40 [some (.ref x), some (.int (nI 1050))] []) : ∀ d i, i + d = 1050 → jJ p l e (jRm 0 0 0) s m args below meth c D cA N0 2 Qf (fun _ => True) Sh (va_up I (x + 3) (cpy (I (x + 3)) (I (x + 3)) 0 210 i)) P L 0 0 11 [some (.ref x), some (.int (nI i))] [] := by
  intro d
  induction d with
  | zero =>
    intro i hi
    obtain rfl : i = 1050 := by omega
    refine jx_iload_n (pc := 11) C dX6_saves_11 rfl ?_
    refine jx_sipush (pc := 12) C dX6_saves_12 ns_1050 ?_
    refine jx_icmp_ge (pc := 15) C (tgt := 40) dX6_saves_15 (by decide) (fun c15 => ?_) (fun c15 => (by rw [nI_leI (by omega) (by omega)] at c15; exfalso; omega))
    rw [nI_leI (by omega) (by omega)] at c15
    exact hx
  | succ d ih =>
    intro i hi
    have h1 : (va_up I (x + 3) (cpy (I (x + 3)) (I (x + 3)) 0 210 i)) (x + 3) (i + 210) = I (x + 3) (210 + i) := by rw [va_up_s, cpy_out (by omega), Nat.add_comm i]
    have h2 := cpy_s (g := I (x + 3)) (h := I (x + 3)) (b := 0) (c := 210) (n := i)
    rw [Nat.zero_add i] at h2
    refine jx_iload_n (pc := 11) C dX6_saves_11 rfl ?_
    refine jx_sipush (pc := 12) C dX6_saves_12 ns_1050 ?_
    refine jx_icmp_ge (pc := 15) C (tgt := 40) dX6_saves_15 (by decide) (fun c15 => (by rw [nI_leI (by omega) (by omega)] at c15; exfalso; omega)) (fun c15 => ?_)
    rw [nI_leI (by omega) (by omega)] at c15
    refine jx_aload_n (pc := 18) C dX6_saves_18 rfl ?_
    refine jx_getP (pc := 19) C kf_X6_16 rfl hS.1 hP.2.2.1 dX6_saves_19 ?_
    refine jx_iload_n (pc := 22) C dX6_saves_22 rfl ?_
    refine jx_aload_n (pc := 23) C dX6_saves_23 rfl ?_
    refine jx_getP (pc := 24) C kf_X6_16 rfl hS.1 hP.2.2.1 dX6_saves_24 ?_
    refine jx_iload_n (pc := 27) C dX6_saves_27 rfl ?_
    refine jx_sipush (pc := 28) C dX6_saves_28 ns_210 ?_
    refine jx_iaddN (pc := 31) C dX6_saves_31 ?_
    refine jx_ialdv (pc := 32) C hS.2.2.2.1 (by omega) (by decide) h1 dX6_saves_32 ?_
    refine jx_iast (pc := 33) C hS.2.2.2.1 (by omega) (by decide) dX6_saves_33 ?_
    rw [jst_up, h2]
    refine jx_iincN (pc := 34) C dX6_saves_34 rfl (jset_1 jc_r) (by decide) ?_
    refine jx_goto (pc := 37) C (tgt := 11) dX6_saves_37 (by decide) ?_
    exact ih (i + 1) (by omega)
set_option maxHeartbeats 4000000 in
theorem lp_X6_savesB {p : Program} {l : Launch} {e : Env} {s : State} {m : MethodId} {args : Array Value} {below : List Frame} {meth : Method} {c : Code} {D : va_G} {cA : Nat → ClassId} {N0 : Nat} {Sh : jS} {I : jI} {P : jP} {L : jL} {Qf : State → Prop} (C : jC p (jRm 0 0 0) s m args meth c D cA N0 cX6_saves 2 RX6 0) {x : Nat} (hS : mS Sh x) (hP : mP P x) {q : Nat} (hq : I x 3 = nI q) (hq6 : q < 6) (hx : jJ p l e (jRm 0 0 0) s m args below meth c D cA N0 2 Qf (fun _ => True) Sh (va_up I (x + 3) (cpy (I (x + 3)) (I (x + 1)) (210 * q) 0 210)) P L 0 0 86 [some (.ref x), some (.int (nI 210))] []) : ∀ d i, i + d = 210 → jJ p l e (jRm 0 0 0) s m args below meth c D cA N0 2 Qf (fun _ => True) Sh (va_up I (x + 3) (cpy (I (x + 3)) (I (x + 1)) (210 * q) 0 i)) P L 0 0 52 [some (.ref x), some (.int (nI i))] [] := by
  intro d
  induction d with
  | zero =>
    intro i hi
    obtain rfl : i = 210 := by omega
    refine jx_iload_n (pc := 52) C dX6_saves_52 rfl ?_
    refine jx_sipush (pc := 53) C dX6_saves_53 ns_210 ?_
    refine jx_icmp_ge (pc := 56) C (tgt := 86) dX6_saves_56 (by decide) (fun c56 => ?_) (fun c56 => (by rw [nI_leI (by omega) (by omega)] at c56; exfalso; omega))
    rw [nI_leI (by omega) (by omega)] at c56
    exact hx
  | succ d ih =>
    intro i hi
    have h1 : (va_up I (x + 3) (cpy (I (x + 3)) (I (x + 1)) (210 * q) 0 i)) (x + 1) i = I (x + 1) (0 + i) := by rw [va_up_n (by omega), Nat.zero_add]
    have h2 := cpy_s (g := I (x + 3)) (h := I (x + 1)) (b := 210 * q) (c := 0) (n := i)
    have h3 : (va_up I (x + 3) (cpy (I (x + 3)) (I (x + 1)) (210 * q) 0 i)) x 3 = nI q := by rw [va_up_n (by omega)]; exact hq
    refine jx_iload_n (pc := 52) C dX6_saves_52 rfl ?_
    refine jx_sipush (pc := 53) C dX6_saves_53 ns_210 ?_
    refine jx_icmp_ge (pc := 56) C (tgt := 86) dX6_saves_56 (by decide) (fun c56 => (by rw [nI_leI (by omega) (by omega)] at c56; exfalso; omega)) (fun c56 => ?_)
    rw [nI_leI (by omega) (by omega)] at c56
    refine jx_aload_n (pc := 59) C dX6_saves_59 rfl ?_
    refine jx_getP (pc := 60) C kf_X6_16 rfl hS.1 hP.2.2.1 dX6_saves_60 ?_
    refine jx_sipush (pc := 63) C dX6_saves_63 ns_210 ?_
    refine jx_aload_n (pc := 66) C dX6_saves_66 rfl ?_
    refine jx_getIv (pc := 67) C kf_X6_36 rfl hS.1 h3 dX6_saves_67 ?_
    refine jx_imulN (pc := 70) C dX6_saves_70 ?_
    refine jx_iload_n (pc := 71) C dX6_saves_71 rfl ?_
    refine jx_iaddN (pc := 72) C dX6_saves_72 ?_
    refine jx_aload_n (pc := 73) C dX6_saves_73 rfl ?_
    refine jx_getP (pc := 74) C kf_X6_7 rfl hS.1 hP.1 dX6_saves_74 ?_
    refine jx_iload_n (pc := 77) C dX6_saves_77 rfl ?_
    refine jx_ialdv (pc := 78) C hS.2.1 (by omega) (by decide) h1 dX6_saves_78 ?_
    refine jx_iast (pc := 79) C hS.2.2.2.1 (by omega) (by decide) dX6_saves_79 ?_
    rw [jst_up, h2]
    refine jx_iincN (pc := 80) C dX6_saves_80 rfl (jset_1 jc_r) (by decide) ?_
    refine jx_goto (pc := 83) C (tgt := 52) dX6_saves_83 (by decide) ?_
    exact ih (i + 1) (by omega)
set_option maxHeartbeats 4000000 in
theorem le_X6_saves {p : Program} {l : Launch} {e : Env} {s : State} {m : MethodId} {args : Array Value} {below : List Frame} {meth : Method} {c : Code} {D : va_G} {cA : Nat → ClassId} {N0 : Nat} {Sh : jS} {I : jI} {P : jP} {L : jL} (C : jC p (jRm 0 0 0) s m args meth c D cA N0 cX6_saves 2 RX6 0) (hr : meth.sig.returnType = none) {I0 : jI} {x : Nat} (hS : mS Sh x) (hP : mP P x) {q q0 : Nat} {v : Option Value} (hq : I x 3 = nI q) (hq6 : q < 6) (hq0 : I0 x 3 = nI q0) (hqq : q0 ≤ 6) (hm : q = min q0 5) (h1 : ∀ b, b < x ∨ x < b → b ≠ x + 3 → I b = I0 b) (h2 : ∀ k, k ≠ 3 → I x k = I0 x k) (h3 : ∀ i, i < q → ∀ k, k < 210 → I (x + 3) (210 * i + k) = I0 (x + 3) (210 * (i + (q0 - q)) + k)) : jJ p l e (jRm 0 0 0) s m args below meth c D cA N0 2 (MQ below (jQn D cA N0 Sh (jNv (fun I' P' L' => mSv I0 x I' ∧ P' = P ∧ L' = L))) args s 0 0 (fun q => N0 ≤ q)) (fun _ => True) Sh I P L 0 0 50 [some (.ref x), v] [] := by
  refine jx_iconst (pc := 50) C dX6_saves_50 nc_0 ?_
  refine jx_istore_n (pc := 51) C dX6_saves_51 (jset_1 jc_r) (by decide) ?_
  refine jx_mem (I' := (va_up I (x + 3) (cpy (I (x + 3)) (I (x + 1)) (210 * q) 0 0))) (P' := P) (by rw [cpy_0]; exact va_up_id.symm) rfl ?_
  refine lp_X6_savesB C hS hP hq hq6 ?_ 210 0 rfl
  have e3 : (va_up I (x + 3) (cpy (I (x + 3)) (I (x + 1)) (210 * q) 0 210)) x 3 = nI q := by rw [va_up_n (by omega)]; exact hq
  refine jx_aload_n (pc := 86) C dX6_saves_86 rfl ?_
  refine jx_dup (pc := 87) C dX6_saves_87 rfl ?_
  refine jx_getIv (pc := 88) C kf_X6_36 rfl hS.1 e3 dX6_saves_88 ?_
  refine jx_iconst (pc := 91) C dX6_saves_91 nc_1 ?_
  refine jx_iaddN (pc := 92) C dX6_saves_92 ?_
  refine jx_putI (pc := 93) C kf_X6_36 rfl rfl rfl rfl hS.1 dX6_saves_93 ?_
  exact jn_vret (pc := 96) C hr (by
    refine ⟨rfl, ⟨?_, ?_, ?_, fun k hk => ?_, fun b hb => ?_, q0, hq0, hqq, ?_, fun k hk => ?_, fun i hi k hk => ?_⟩, rfl, rfl⟩
    · rw [jst_ne (by omega), va_up_n (by omega)]; exact h1 _ (by omega) (by omega)
    · rw [jst_ne (by omega), va_up_n (by omega)]; exact h1 _ (by omega) (by omega)
    · rw [jst_ne (by omega), va_up_n (by omega)]; exact h1 _ (by omega) (by omega)
    · rw [jst_eq, upd_n hk, va_up_n (by omega)]; exact h2 k hk
    · rw [jst_ne (by omega), va_up_n (by omega)]; exact h1 _ (by omega) (by omega)
    · rw [jst_eq, upd_s, hm]
    · rw [← hm, jst_ne (by omega), va_up_s, cpy_in hk, h1 _ (by omega) (by omega), Nat.zero_add]
    · rw [← hm] at hi ⊢
      rw [jst_ne (by omega), va_up_s, cpy_out (by omega)]
      exact h3 i hi k hk) dX6_saves_96
set_option maxHeartbeats 4000000 in
theorem b_X6_saves {p : Program} {l : Launch} {e : Env} {s : State} {m : MethodId} {args : Array Value} {below : List Frame} {meth : Method} {c : Code} {D : va_G} {cA : Nat → ClassId} {N0 : Nat} {Sh : jS} {I : jI} {P : jP} {L : jL} (C : jC p (jRm 0 0 0) s m args meth c D cA N0 cX6_saves 2 RX6 0) (hr : meth.sig.returnType = none) {x : Nat} (hS : mS Sh x) (hP : mP P x) {q0 : Nat} (hq0 : I x 3 = nI q0) (hqq : q0 ≤ 6) : jJ p l e (jRm 0 0 0) s m args below meth c D cA N0 2 (MQ below (jQn D cA N0 Sh (jNv (fun I' P' L' => mSv I x I' ∧ P' = P ∧ L' = L))) args s 0 0 (fun q => N0 ≤ q)) (fun _ => True) Sh I P L 0 0 0 [some (.ref x), none] [] := by
  refine jx_aload_n (pc := 0) C dX6_saves_0 rfl ?_
  refine jx_getIv (pc := 1) C kf_X6_36 rfl hS.1 hq0 dX6_saves_1 ?_
  refine jx_bipush (pc := 4) C dX6_saves_4 nb_6 ?_
  refine jx_icmp_ne (pc := 6) C (tgt := 50) dX6_saves_6 (by decide) (fun c6 => ?_) (fun c6 => ?_)
  · rw [nI_eq (by omega) (by omega)] at c6
    exact le_X6_saves C hr hS hP hq0 (by omega) hq0 hqq (by omega) (fun b hb hb3 => rfl) (fun k hk => rfl) (fun i hi k hk => congrArg _ (by omega))
  · rw [nI_eq (by omega) (by omega)] at c6
    refine jx_iconst (pc := 9) C dX6_saves_9 nc_0 ?_
    refine jx_istore_n (pc := 10) C dX6_saves_10 (jset_1 jc_r) (by decide) ?_
    obtain rfl : q0 = 6 := c6
    refine jx_mem (I' := (va_up I (x + 3) (cpy (I (x + 3)) (I (x + 3)) 0 210 0))) (P' := P) (by rw [cpy_0]; exact va_up_id.symm) rfl ?_
    refine lp_X6_savesA C hS hP ?_ 1050 0 rfl
    have e3 : (va_up I (x + 3) (cpy (I (x + 3)) (I (x + 3)) 0 210 1050)) x 3 = nI 6 := by rw [va_up_n (by omega)]; exact hq0
    refine jx_aload_n (pc := 40) C dX6_saves_40 rfl ?_
    refine jx_dup (pc := 41) C dX6_saves_41 rfl ?_
    refine jx_getIv (pc := 42) C kf_X6_36 rfl hS.1 e3 dX6_saves_42 ?_
    refine jx_iconst (pc := 45) C dX6_saves_45 nc_1 ?_
    refine jx_isubN (pc := 46) C (by omega) dX6_saves_46 ?_
    refine jx_putI (pc := 47) C kf_X6_36 rfl rfl rfl rfl hS.1 dX6_saves_47 ?_
    exact le_X6_saves (q := 5) (q0 := 6) C hr hS hP (by rw [jst_eq, upd_s]) (by decide) hq0 hqq (by decide) (fun b hb hb3 => by rw [jst_ne (by omega), va_up_n hb3]) (fun k hk => by rw [jst_eq, upd_n hk, va_up_n (by omega)]) (fun i hi k hk => by
      rw [jst_ne (by omega), va_up_s]
      have h4 := cpy_in (g := I (x + 3)) (h := I (x + 3)) (b := 0) (c := 210) (n := 1050) (k := 210 * i + k) (by omega)
      rw [Nat.zero_add] at h4
      rw [h4]
      exact congrArg _ (by omega))
theorem t_X6_saves {l : Launch} {D : va_G} {cA : Nat → ClassId} {N0 : Nat} {Sh : jS} {I : jI} {P : jP} {L : jL} {x : Nat} (hS : mS Sh x) (hP : mP P x) {q0 : Nat} (hq0 : I x 3 = nI q0) (hqq : q0 ≤ 6) : jN l D cA N0 0 yX6_saves cX6_saves 2 none [.ref x] Sh I P L (jNv (fun I' P' L' => mSv I x I' ∧ P' = P ∧ L' = L)) := jN_of (by decide) (Nat.le_of_ble_eq_true rfl) (fun _ _ _ _ _ _ _ _ C hr => b_X6_saves C hr hS hP hq0 hqq)
set_option maxHeartbeats 4000000 in
theorem lp_X6_undo {p : Program} {l : Launch} {e : Env} {s : State} {m : MethodId} {args : Array Value} {below : List Frame} {meth : Method} {c : Code} {D : va_G} {cA : Nat → ClassId} {N0 : Nat} {Sh : jS} {I : jI} {P : jP} {L : jL} {Qf : State → Prop} (C : jC p (jRm 1 0 0) s m args meth c D cA N0 cX6_undo 2 RX6 1) {x : Nat} (hS : mS Sh x) (hP : mP P x) {q : Nat} (hq : I x 3 = nI q) (hq6 : q < 6) (hx : jJ p l e (jRm 1 0 0) s m args below meth c D cA N0 2 Qf (fun _ => True) Sh (va_up I (x + 1) (cpy (I (x + 1)) (I (x + 3)) 0 (210 * q) 210)) P L 0 0 64 [some (.ref x), some (.int (nI 210))] []) : ∀ d i, i + d = 210 → jJ p l e (jRm 1 0 0) s m args below meth c D cA N0 2 Qf (fun _ => True) Sh (va_up I (x + 1) (cpy (I (x + 1)) (I (x + 3)) 0 (210 * q) i)) P L 0 0 30 [some (.ref x), some (.int (nI i))] [] := by
  intro d
  induction d with
  | zero =>
    intro i hi
    obtain rfl : i = 210 := by omega
    refine jx_iload_n (pc := 30) C dX6_undo_30 rfl ?_
    refine jx_sipush (pc := 31) C dX6_undo_31 ns_210 ?_
    refine jx_icmp_ge (pc := 34) C (tgt := 64) dX6_undo_34 (by decide) (fun c34 => ?_) (fun c34 => (by rw [nI_leI (by omega) (by omega)] at c34; exfalso; omega))
    rw [nI_leI (by omega) (by omega)] at c34
    exact hx
  | succ d ih =>
    intro i hi
    have h1 : (va_up I (x + 1) (cpy (I (x + 1)) (I (x + 3)) 0 (210 * q) i)) (x + 3) (210 * q + i) = I (x + 3) (210 * q + i) := by rw [va_up_n (by omega)]
    have h2 := cpy_s (g := I (x + 1)) (h := I (x + 3)) (b := 0) (c := 210 * q) (n := i)
    rw [Nat.zero_add i] at h2
    have h3 : (va_up I (x + 1) (cpy (I (x + 1)) (I (x + 3)) 0 (210 * q) i)) x 3 = nI q := by rw [va_up_n (by omega)]; exact hq
    refine jx_iload_n (pc := 30) C dX6_undo_30 rfl ?_
    refine jx_sipush (pc := 31) C dX6_undo_31 ns_210 ?_
    refine jx_icmp_ge (pc := 34) C (tgt := 64) dX6_undo_34 (by decide) (fun c34 => (by rw [nI_leI (by omega) (by omega)] at c34; exfalso; omega)) (fun c34 => ?_)
    rw [nI_leI (by omega) (by omega)] at c34
    refine jx_aload_n (pc := 37) C dX6_undo_37 rfl ?_
    refine jx_getP (pc := 38) C kf_X6_7 rfl hS.1 hP.1 dX6_undo_38 ?_
    refine jx_iload_n (pc := 41) C dX6_undo_41 rfl ?_
    refine jx_aload_n (pc := 42) C dX6_undo_42 rfl ?_
    refine jx_getP (pc := 43) C kf_X6_16 rfl hS.1 hP.2.2.1 dX6_undo_43 ?_
    refine jx_sipush (pc := 46) C dX6_undo_46 ns_210 ?_
    refine jx_aload_n (pc := 49) C dX6_undo_49 rfl ?_
    refine jx_getIv (pc := 50) C kf_X6_36 rfl hS.1 h3 dX6_undo_50 ?_
    refine jx_imulN (pc := 53) C dX6_undo_53 ?_
    refine jx_iload_n (pc := 54) C dX6_undo_54 rfl ?_
    refine jx_iaddN (pc := 55) C dX6_undo_55 ?_
    refine jx_ialdv (pc := 56) C hS.2.2.2.1 (by omega) (by decide) h1 dX6_undo_56 ?_
    refine jx_iast (pc := 57) C hS.2.1 (by omega) (by decide) dX6_undo_57 ?_
    rw [jst_up, h2]
    refine jx_iincN (pc := 58) C dX6_undo_58 rfl (jset_1 jc_r) (by decide) ?_
    refine jx_goto (pc := 61) C (tgt := 30) dX6_undo_61 (by decide) ?_
    exact ih (i + 1) (by omega)
/-- the end of the reference's undo, q states being saved -/
def mUn (I : jI) (P : jP) (L : jL) (x q : Nat) : Option Value → jI → jP → jL → Prop := fun v I' P' L' => P' = P ∧ L' = L ∧ ∃ r, v = some (.int r) ∧ I' x 6 = nI (if q = 0 then 1 else 0) ∧ (∀ b, b < x ∨ x + 1 < b → I' b = I b) ∧ I' x 5 = I x 5 ∧ I' x 3 = nI (q - 1) ∧ (q ≠ 0 → r = nI (q - 1) ∧ ∀ k, k < 210 → I' (x + 1) k = I (x + 3) (210 * (q - 1) + k)) ∧ (q = 0 → I' (x + 1) = I (x + 1))
set_option maxHeartbeats 4000000 in
theorem b_X6_undo {p : Program} {l : Launch} {e : Env} {s : State} {m : MethodId} {args : Array Value} {below : List Frame} {meth : Method} {c : Code} {D : va_G} {cA : Nat → ClassId} {N0 : Nat} {Sh : jS} {I : jI} {P : jP} {L : jL} (C : jC p (jRm 1 0 0) s m args meth c D cA N0 cX6_undo 2 RX6 1) (hr : meth.sig.returnType = (some .int)) {x : Nat} (hS : mS Sh x) (hP : mP P x) {q : Nat} (hq : I x 3 = nI q) (hqq : q ≤ 6) : jJ p l e (jRm 1 0 0) s m args below meth c D cA N0 2 (MQ below (jQn D cA N0 Sh (mUn I P L x q)) args s 0 0 (fun q => N0 ≤ q)) (fun _ => True) Sh I P L 0 0 0 [some (.ref x), none] [] := by
  have e1 : jst I x 6 (nI 0) x 3 = nI q := by rw [jst_eq, upd_n (by decide)]; exact hq
  refine jx_aload_n (pc := 0) C dX6_undo_0 rfl ?_
  refine jx_iconst (pc := 1) C dX6_undo_1 nc_0 ?_
  refine jx_putI (pc := 2) C kf_X6_28 rfl rfl rfl rfl hS.1 dX6_undo_2 ?_
  refine jx_aload_n (pc := 5) C dX6_undo_5 rfl ?_
  refine jx_getIv (pc := 6) C kf_X6_36 rfl hS.1 e1 dX6_undo_6 ?_
  refine jx_if_ne (pc := 9) C (tgt := 18) dX6_undo_9 (by decide) (fun c9 => ?_) (fun c9 => ?_)
  · rw [nI_eq0 (by omega)] at c9
    have hq0 : q ≠ 0 := c9
    refine jx_aload_n (pc := 18) C dX6_undo_18 rfl ?_
    refine jx_dup (pc := 19) C dX6_undo_19 rfl ?_
    refine jx_getIv (pc := 20) C kf_X6_36 rfl hS.1 e1 dX6_undo_20 ?_
    refine jx_iconst (pc := 23) C dX6_undo_23 nc_1 ?_
    refine jx_isubN (pc := 24) C (by omega) dX6_undo_24 ?_
    refine jx_putI (pc := 25) C kf_X6_36 rfl rfl rfl rfl hS.1 dX6_undo_25 ?_
    refine jx_iconst (pc := 28) C dX6_undo_28 nc_0 ?_
    refine jx_istore_n (pc := 29) C dX6_undo_29 (jset_1 jc_r) (by decide) ?_
    have e3 : (jst (jst I x 6 (nI 0)) x 3 (nI (q - 1))) x 3 = nI (q - 1) := by rw [jst_eq, upd_s]
    have e4 : (jst (jst I x 6 (nI 0)) x 3 (nI (q - 1))) (x + 1) = I (x + 1) := by rw [jst_ne (by omega), jst_ne (by omega)]
    have e5 : (jst (jst I x 6 (nI 0)) x 3 (nI (q - 1))) (x + 3) = I (x + 3) := by rw [jst_ne (by omega), jst_ne (by omega)]
    refine jx_mem (I' := va_up (jst (jst I x 6 (nI 0)) x 3 (nI (q - 1))) (x + 1) (cpy ((jst (jst I x 6 (nI 0)) x 3 (nI (q - 1))) (x + 1)) ((jst (jst I x 6 (nI 0)) x 3 (nI (q - 1))) (x + 3)) 0 (210 * (q - 1)) 0)) (P' := P) (by rw [cpy_0]; exact va_up_id.symm) rfl ?_
    refine lp_X6_undo C hS hP e3 (by omega) ?_ 210 0 rfl
    refine jx_aload_n (pc := 64) C dX6_undo_64 rfl ?_
    refine jx_getIv (pc := 65) C kf_X6_36 rfl hS.1 ((congrFun (va_up_n (by omega)) 3).trans e3) dX6_undo_65 ?_
    exact jn_iret (pc := 68) C hr (by
      refine ⟨rfl, rfl, _, rfl, ?_, fun b hb => ?_, ?_, ?_, fun _ => ⟨rfl, fun k hk => ?_⟩, fun h => absurd h hq0⟩
      · rw [va_up_n (by omega), jst_eq, upd_n (by decide), jst_eq, upd_s, if_neg hq0]
      · rw [va_up_n (by omega), jst_ne (by omega), jst_ne (by omega)]
      · rw [va_up_n (by omega), jst_eq, upd_n (by decide), jst_eq, upd_n (by decide)]
      · rw [va_up_n (by omega)]; exact e3
      · rw [va_up_s, e4, e5]
        have h4 := cpy_in (g := I (x + 1)) (h := I (x + 3)) (b := 0) (c := 210 * (q - 1)) (n := 210) (k := k) hk
        rw [Nat.zero_add] at h4
        exact h4) dX6_undo_68
  · rw [nI_eq0 (by omega)] at c9
    refine jx_aload_n (pc := 12) C dX6_undo_12 rfl ?_
    refine jx_iconst (pc := 13) C dX6_undo_13 nc_1 ?_
    refine jx_callD (pc := 14) C (go_X6_39 C hS.1 (Nat.le_of_ble_eq_true rfl) dX6_undo_14) (t_X6_fails hS.1) (by decide) (by decide) ⟨Nat.zero_le _, Nat.zero_le _⟩ ?_
    exact jn_iret (pc := 17) C hr (by
      obtain rfl : q = 0 := by omega
      refine ⟨rfl, rfl, _, rfl, ?_, fun b hb => ?_, ?_, ?_, fun h => absurd rfl h, fun _ => ?_⟩
      · rw [jst_eq, upd_s]; rfl
      · rw [jst_ne (by omega), jst_ne (by omega)]
      · rw [jst_eq, upd_n (by decide), jst_eq, upd_n (by decide)]
      · rw [jst_eq, upd_n (by decide), jst_eq, upd_n (by decide)]; exact hq
      · rw [jst_ne (by omega), jst_ne (by omega)]) dX6_undo_17
theorem t_X6_undo {l : Launch} {D : va_G} {cA : Nat → ClassId} {N0 : Nat} {Sh : jS} {I : jI} {P : jP} {L : jL} {x : Nat} (hS : mS Sh x) (hP : mP P x) {q : Nat} (hq : I x 3 = nI q) (hqq : q ≤ 6) : jN l D cA N0 1 yX6_undo cX6_undo 2 (some .int) [.ref x] Sh I P L (mUn I P L x q) := jN_of (by decide) (Nat.le_of_ble_eq_true rfl) (fun _ _ _ _ _ _ _ _ C hr => b_X6_undo C hr hS hP hq hqq)
