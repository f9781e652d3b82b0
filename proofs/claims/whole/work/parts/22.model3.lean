/-- the reference object's cells: x, its rows behind it -/
def mS (Sh : jS) (x : Nat) : Prop := Sh x = some (6, 0) ∧ Sh (x + 1) = some (10, 210) ∧ Sh (x + 2) = some (10, 210) ∧ Sh (x + 3) = some (10, 1260) ∧ Sh (x + 4) = some (10, 60) ∧ Sh (x + 5) = some (10, 50) ∧ Sh (x + 6) = some (10, 6)
def mP (P : jP) (x : Nat) : Prop := P x 0 = some (x + 1) ∧ P x 1 = some (x + 2) ∧ P x 2 = some (x + 3) ∧ P x 4 = some (x + 4) ∧ P x 10 = some (x + 5) ∧ P x 12 = some (x + 6)
/-- memory with the state row a and the row of dues -/
def mm (I : jI) (x a : Nat) (d : Nat → Int32) (g : sF) : jI := va_up (va_up I (x + 6) d) a g
theorem mm_a {I : jI} {x a : Nat} {d : Nat → Int32} {g : sF} : mm I x a d g a = g := va_up_s
theorem mm_d {I : jI} {x a : Nat} {d : Nat → Int32} {g : sF} (h : a ≠ x + 6) : mm I x a d g (x + 6) = d := by unfold mm; rw [va_up_n (Ne.symm h), va_up_s]
theorem mm_st {I : jI} {x a k : Nat} {d : Nat → Int32} {g : sF} {v : Int32} : jst (mm I x a d g) a k v = mm I x a d (upd g k v) := jst_up
theorem mm_up {I : jI} {x a : Nat} {d : Nat → Int32} {g g' : sF} : va_up (mm I x a d g) a g' = mm I x a d g' := va_up_u
theorem mm_ud {I : jI} {x a : Nat} {d d' : Nat → Int32} {g : sF} (h : a ≠ x + 6) : va_up (mm I x a d g) (x + 6) d' = mm I x a d' g := by unfold mm; rw [va_up_c h, va_up_u]
theorem mm_mm {I : jI} {x a : Nat} {d d' : Nat → Int32} {g g' : sF} (h : a ≠ x + 6) : mm (mm I x a d g) x a d' g' = mm I x a d' g' := by
  show va_up (va_up (mm I x a d g) (x + 6) d') a g' = _
  rw [mm_ud h, mm_up]
theorem mm_id {I : jI} {x a : Nat} (h : a ≠ x + 6) : mm I x a (I (x + 6)) (I a) = I := by unfold mm; rw [va_up_id]; exact va_up_id
theorem spayN_c {f : sF} {du du' : Nat → Int32} : ∀ {n : Nat}, (∀ w, w < n → du w = du' w) → spayN f du n = spayN f du' n := by
  intro n
  induction n with
  | zero => intro _; rfl
  | succ n ih =>
    intro h
    show spay1 (spayN f du n) du n = spay1 (spayN f du' n) du' n
    rw [ih (fun w hw => h w (Nat.lt_succ_of_lt hw))]
    unfold spay1
    rw [h n (Nat.lt_succ_self n)]
theorem sshares_c {f : sF} {o : Nat} {whole len : Int32} {du du' : Nat → Int32} {w : Nat} (hw : w < 6) : sshares f o whole len du w = sshares f o whole len du' w := by
  have hm := smost_le f o 6
  unfold sshares
  simp only [upd]
  rw [sdues_w hw, sdues_w hw, sdues_w (du := du) (show smost f o 6 < 6 by omega), sdues_w (du := du') (show smost f o 6 < 6 by omega)]
/-- what is due of an order that is done -/
def sduR (f : sF) (o : Nat) : Nat → Int32 := sshares f o (swhole f o (f (90 + 12 * o + 3))) (f (90 + 12 * o + 3)) (fun _ => nI 0)
def spaysF (f : sF) (o : Nat) : sF := spays f o (sduR f o)
def swv (w o : Nat) : Nat → sF → sF × Nat
  | 0, f => (f, 0)
  | r + 1, f => match stake f w o with
    | none => (f, 0)
    | some f1 => if sgood (smake f1 w o) o = smake f1 w o (90 + 12 * o + 3) then (spaysF (smake f1 w o) o, 1) else ((swv w o r (smake f1 w o)).1, (swv w o r (smake f1 w o)).2 + 1)
def sweaves (f : sF) (w : Nat) : sF × Nat := match schos f w with | none => (f, 0) | some o => swv w o (sspd f w) f
def sweave (f : sF) (w : Nat) : sF := upd (sweaves f w).1 13 ((sweaves f w).1 13 + (if (sweaves f w).2 = 0 then nI 1 else nI 0))
def shourN (f : sF) : Nat → sF | 0 => f | w + 1 => if 0 < shourN f w (18 + 12 * w + 0) then sweave (shourN f w) w else shourN f w
def shour (f : sF) : sF := upd (shourN f 6) 4 (shourN f 6 4 + nI 1)
def shours (f : sF) : Nat → sF | 0 => f | n + 1 => shour (shours f n)
/-- what the reference's methods need of a state -/
def sOK (f : sF) : Prop := f 5 = nI (smany f) ∧ smany f ≤ 10 ∧ (∀ o, o < smany f → f (90 + 12 * o + 1) = nI (scol f o) ∧ scol f o < 4) ∧ ∀ w, w < 6 → f (18 + 12 * w + 1) = nI (sspd f w) ∧ sspd f w ≤ 9
theorem sOK_of {f f' : sF} (h : sOK f) (h5 : f' 5 = f 5) (h1 : ∀ o, o < smany f → f' (90 + 12 * o + 1) = f (90 + 12 * o + 1)) (h2 : ∀ w, w < 6 → f' (18 + 12 * w + 1) = f (18 + 12 * w + 1)) : sOK f' := by
  have hm : smany f' = smany f := by unfold smany; rw [h5]
  refine ⟨by rw [hm, h5]; exact h.1, by rw [hm]; exact h.2.1, fun o ho => ?_, fun w hw => ?_⟩
  · rw [hm] at ho
    have hc : scol f' o = scol f o := by unfold scol; rw [h1 o ho]
    rw [hc, h1 o ho]; exact h.2.2.1 o ho
  · have hc : sspd f' w = sspd f w := by unfold sspd; rw [h2 w hw]
    rw [hc, h2 w hw]; exact h.2.2.2 w hw
theorem upd_n {f : sF} {k j : Nat} {v : Int32} (h : j ≠ k) : upd f k v j = f j := if_neg h
theorem upd_s {f : sF} {k : Nat} {v : Int32} : upd f k v k = v := if_pos rfl
theorem smost_t {f : sF} {o w : Nat} (h : f (90 + 12 * o + (6 + w)) ≤ f (90 + 12 * o + (6 + smost f o w))) : smost f o (w + 1) = smost f o w := if_pos h
theorem smost_e {f : sF} {o w : Nat} (h : ¬ f (90 + 12 * o + (6 + w)) ≤ f (90 + 12 * o + (6 + smost f o w))) : smost f o (w + 1) = w := if_neg h
/-- what taking yarn leaves -/
theorem stake_k {f f1 : sF} {w o k : Nat} (h : stake f w o = some f1) (h1 : k ≠ 12) (h2 : k ≠ 14 + scol f o) (h3 : k ≠ 18 + 12 * w + 3) (h4 : k ≠ 18 + 12 * w + 7) (h5 : k ≠ 18 + 12 * w + (8 + scol f o)) : f1 k = f k := by
  unfold stake at h
  try dsimp only at h
  split at h
  · cases h
    rw [upd_n h1, upd_n h5]
  · split at h
    · cases h
      rw [upd_n h1, upd_n h4, upd_n h3, upd_n h2]
    · cases h
theorem smake_k {f : sF} {w o k : Nat} (h1 : k ≠ 10) (h2 : k ≠ 11) (h3 : k ≠ 18 + 12 * w + 5) (h4 : k ≠ 18 + 12 * w + 6) (h5 : k ≠ 90 + 12 * o + 6 + w) : smake f w o k = f k := by
  unfold smake
  try dsimp only
  split
  · rw [upd_n h2, upd_n h4, upd_n h1, upd_n h3]
  · rw [upd_n h5, upd_n h1, upd_n h3]
theorem spay1_k {f : sF} {du : Nat → Int32} {w k : Nat} (h1 : k ≠ 18 + 12 * w + 3) (h2 : k ≠ 18 + 12 * w + 4) : spay1 f du w k = f k := by
  unfold spay1
  try dsimp only
  rw [upd_n h2, upd_n h1]
theorem spayN_k {f : sF} {du : Nat → Int32} {k : Nat} : ∀ {n : Nat}, (∀ w, w < n → k ≠ 18 + 12 * w + 3 ∧ k ≠ 18 + 12 * w + 4) → spayN f du n k = f k := by
  intro n
  induction n with
  | zero => intro _; rfl
  | succ n ih =>
    intro h
    show spay1 (spayN f du n) du n k = f k
    rw [spay1_k (h n (Nat.lt_succ_self n)).1 (h n (Nat.lt_succ_self n)).2]
    exact ih (fun w hw => h w (Nat.lt_succ_of_lt hw))
theorem sgoes_OK {f : sF} {o : Nat} (h : sOK f) (ho : o < smany f) : sOK (sgoes f o) := by
  obtain ⟨a1, a2, a3, a4⟩ := h
  have h5 : sgoes f o 5 = nI (smany f - 1) := by
    unfold sgoes
    rw [if_neg (by omega), upd_s, a1, pk_sub (by omega)]
  have hm : smany (sgoes f o) = smany f - 1 := by
    show (sgoes f o 5).toNatClampNeg = _
    rw [h5, nI_clamp (by omega)]
  refine ⟨by rw [hm, h5], by omega, fun q hq => ?_, fun w hw => ?_⟩
  · rw [hm] at hq
    by_cases hqo : o ≤ q
    · have e : sgoes f o (90 + 12 * q + 1) = f (90 + 12 * (q + 1) + 1) := by
        unfold sgoes
        rw [if_pos (by omega)]
        exact congrArg f (by omega)
      have hc : scol (sgoes f o) q = scol f (q + 1) := by unfold scol; rw [e]
      rw [hc, e]; exact a3 (q + 1) (by omega)
    · have e : sgoes f o (90 + 12 * q + 1) = f (90 + 12 * q + 1) := by
        unfold sgoes
        rw [if_neg (by omega), upd_n (by omega)]
      have hc : scol (sgoes f o) q = scol f q := by unfold scol; rw [e]
      rw [hc, e]; exact a3 q (by omega)
  · have e : sgoes f o (18 + 12 * w + 1) = f (18 + 12 * w + 1) := by
      unfold sgoes
      rw [if_neg (by omega), upd_n (by omega)]
    have hc : sspd (sgoes f o) w = sspd f w := by unfold sspd; rw [e]
    rw [hc, e]; exact a4 w hw
/-- the state ahead of the order's going -/
def spaysA (f : sF) (o : Nat) (du : Nat → Int32) : sF :=
  upd (upd (upd (spayN f du 6) 7 (spayN f du 6 7 + nI 1)) 8 (upd (spayN f du 6) 7 (spayN f du 6 7 + nI 1) 8 + (if slate (upd (spayN f du 6) 7 (spayN f du 6 7 + nI 1)) o ≤ 0 then nI 0 else nI 1))) 9
   (upd (upd (spayN f du 6) 7 (spayN f du 6 7 + nI 1)) 8 (upd (spayN f du 6) 7 (spayN f du 6 7 + nI 1) 8 + (if slate (upd (spayN f du 6) 7 (spayN f du 6 7 + nI 1)) o ≤ 0 then nI 0 else nI 1)) 9 + swhole f o (f (90 + 12 * o + 3)))
theorem spays_A {f : sF} {o : Nat} {du : Nat → Int32} : spays f o du = sgoes (spaysA f o du) o := rfl
theorem spaysA_k {f : sF} {o k : Nat} {du : Nat → Int32} (h7 : k ≠ 7) (h8 : k ≠ 8) (h9 : k ≠ 9) (h : ∀ w, w < 6 → k ≠ 18 + 12 * w + 3 ∧ k ≠ 18 + 12 * w + 4) : spaysA f o du k = f k := by
  unfold spaysA
  rw [upd_n h9, upd_n h8, upd_n h7]
  exact spayN_k h
theorem spaysA_OK {f : sF} {o : Nat} {du : Nat → Int32} (h : sOK f) : sOK (spaysA f o du) ∧ smany (spaysA f o du) = smany f := by
  have e5 : spaysA f o du 5 = f 5 := spaysA_k (by decide) (by decide) (by decide) (fun w hw => ⟨by omega, by omega⟩)
  refine ⟨sOK_of h e5 (fun q hq => spaysA_k (by omega) (by omega) (by omega) (fun w hw => ⟨by omega, by omega⟩)) (fun v hv => spaysA_k (by omega) (by omega) (by omega) (fun w hw => ⟨by omega, by omega⟩)), ?_⟩
  unfold smany; rw [e5]
theorem spaysF_OK {f : sF} {o : Nat} (h : sOK f) (ho : o < smany f) : sOK (spaysF f o) := by
  unfold spaysF
  rw [spays_A]
  exact sgoes_OK (spaysA_OK h).1 (by rw [(spaysA_OK h).2]; exact ho)
theorem stake_OK {f f1 : sF} {w o : Nat} (h : sOK f) (hw : w < 6) (ho : o < smany f) (ht : stake f w o = some f1) : sOK f1 ∧ smany f1 = smany f := by
  have hc := (h.2.2.1 o ho).2
  have hk := h.2.1
  have e5 : f1 5 = f 5 := stake_k ht (by omega) (by omega) (by omega) (by omega) (by omega)
  exact ⟨sOK_of h e5 (fun q hq => stake_k ht (by omega) (by omega) (by omega) (by omega) (by omega)) (fun v hv => stake_k ht (by omega) (by omega) (by omega) (by omega) (by omega)), by unfold smany; rw [e5]⟩
theorem smake_OK {f : sF} {w o : Nat} (h : sOK f) (hw : w < 6) (ho : o < smany f) : sOK (smake f w o) ∧ smany (smake f w o) = smany f := by
  have hk := h.2.1
  have e5 : smake f w o 5 = f 5 := smake_k (by omega) (by omega) (by omega) (by omega) (by omega)
  exact ⟨sOK_of h e5 (fun q hq => smake_k (by omega) (by omega) (by omega) (by omega) (by omega)) (fun v hv => smake_k (by omega) (by omega) (by omega) (by omega) (by omega)), by unfold smany; rw [e5]⟩
theorem swv_OK {w o : Nat} (hw : w < 6) : ∀ (r : Nat) (f : sF), sOK f → o < smany f → sOK (swv w o r f).1 := by
  intro r
  induction r with
  | zero => intro f h _; exact h
  | succ r ih =>
    intro f h ho
    unfold swv
    cases ht : stake f w o with
    | none => exact h
    | some f1 =>
      obtain ⟨b1, b2⟩ := stake_OK h hw ho ht
      obtain ⟨b3, b4⟩ := smake_OK b1 hw (by rw [b2]; exact ho)
      dsimp only
      split
      · exact spaysF_OK b3 (by rw [b4, b2]; exact ho)
      · exact ih _ b3 (by rw [b4, b2]; exact ho)
theorem sweave_OK {f : sF} {w : Nat} (hw : w < 6) (h : sOK f) : sOK (sweave f w) := by
  have h1 : sOK (sweaves f w).1 := by
    unfold sweaves
    cases hq : schos f w with
    | none => exact h
    | some o => exact swv_OK hw _ _ h (schosN_lt hq).1
  have hk := h1.2.1
  exact sOK_of h1 (upd_n (by decide)) (fun q hq => upd_n (by omega)) (fun v hv => upd_n (by omega))
theorem shourN_OK {f : sF} (h : sOK f) : ∀ n, n ≤ 6 → sOK (shourN f n) := by
  intro n
  induction n with
  | zero => intro _; exact h
  | succ n ih =>
    intro hn
    unfold shourN
    split
    · exact sweave_OK (by omega) (ih (by omega))
    · exact ih (by omega)
theorem shour_OK {f : sF} (h : sOK f) : sOK (shour f) := by
  have h1 := shourN_OK h 6 (Nat.le_refl 6)
  have hk := h1.2.1
  exact sOK_of h1 (upd_n (by decide)) (fun q hq => upd_n (by omega)) (fun v hv => upd_n (by omega))
theorem shours_OK {f : sF} (h : sOK f) : ∀ n, sOK (shours f n) := by
  intro n
  induction n with
  | zero => exact h
  | succ n ih => exact shour_OK ih
set_option maxHeartbeats 4000000 in
theorem lp_X6_shares {p : Program} {l : Launch} {e : Env} {s : State} {m : MethodId} {args : Array Value} {below : List Frame} {meth : Method} {c : Code} {D : va_G} {cA : Nat → ClassId} {N0 : Nat} {Sh : jS} {I : jI} {P : jP} {L : jL} {Qf : State → Prop} (C : jC p (jRm 1 0 0) s m args meth c D cA N0 cX6_shares 8 RX6 1) {x a : Nat} (hS : mS Sh x) (hP : mP P x) (hs : Sh a = some (10, 210)) (hne : a ≠ x + 6) {o : Nat} (ho : o < 10) {whole len : Int32} (hx : jJ p l e (jRm 1 0 0) s m args below meth c D cA N0 8 Qf (fun _ => True) Sh (va_up I (x + 6) (sdues (I a) o whole len 6 (I (x + 6)))) P L 0 0 97 [some (.ref x), some (.ref a), some (.int (nI o)), some (.int whole), some (.int len), some (.int (sleft (I a) o whole len 6)), some (.int (nI (smost (I a) o 6))), some (.int (nI 6))] []) : ∀ d w, w + d = 6 → jJ p l e (jRm 1 0 0) s m args below meth c D cA N0 8 Qf (fun _ => True) Sh (va_up I (x + 6) (sdues (I a) o whole len w (I (x + 6)))) P L 0 0 9 [some (.ref x), some (.ref a), some (.int (nI o)), some (.int whole), some (.int len), some (.int (sleft (I a) o whole len w)), some (.int (nI (smost (I a) o w))), some (.int (nI w))] [] := by
  intro d
  induction d with
  | zero =>
    intro w hw
    obtain rfl : w = 6 := by omega
    refine jx_iload (pc := 9) C dX6_shares_9 rfl ?_
    refine jx_bipush (pc := 11) C dX6_shares_11 nb_6 ?_
    refine jx_icmp_ge (pc := 13) C (tgt := 97) dX6_shares_13 (by decide) (fun c13 => ?_) (fun c13 => (by rw [nI_leI (by omega) (by omega)] at c13; exfalso; omega))
    rw [nI_leI (by omega) (by omega)] at c13
    exact hx
  | succ d ih =>
    intro w hw
    have hml := smost_le (I a) o w
    have hb : ∀ k, (va_up I (x + 6) (sdues (I a) o whole len w (I (x + 6)))) a k = I a k := fun k => by rw [va_up_n hne]
    have hb1 : ∀ k, (va_up I (x + 6) (sdues (I a) o whole len (w + 1) (I (x + 6)))) a k = I a k := fun k => by rw [va_up_n hne]
    have hd1 : (va_up I (x + 6) (sdues (I a) o whole len (w + 1) (I (x + 6)))) (x + 6) w = sdue (I a) o whole len w := by rw [va_up_s, sdues_w (Nat.lt_succ_self w)]
    have key : ∀ v, v = sdue (I a) o whole len w → jJ p l e (jRm 1 0 0) s m args below meth c D cA N0 8 Qf (fun _ => True) Sh (va_up I (x + 6) (sdues (I a) o whole len w (I (x + 6)))) P L 0 0 46 [some (.ref x), some (.ref a), some (.int (nI o)), some (.int whole), some (.int len), some (.int (sleft (I a) o whole len w)), some (.int (nI (smost (I a) o w))), some (.int (nI w))] [.int v, .int (nI w), .ref (x + 6)] := by
      intro v hv
      subst hv
      refine jx_iast (pc := 46) C hS.2.2.2.2.2.2 (by omega) (by decide) dX6_shares_46 ?_
      rw [jst_up, sdues_s]
      refine jx_iload (pc := 47) C dX6_shares_47 rfl ?_
      refine jx_aload_n (pc := 49) C dX6_shares_49 rfl ?_
      refine jx_getP (pc := 50) C kf_X6_25 rfl hS.1 hP.2.2.2.2.2 dX6_shares_50 ?_
      refine jx_iload (pc := 53) C dX6_shares_53 rfl ?_
      refine jx_ialdv (pc := 55) C hS.2.2.2.2.2.2 (by omega) (by decide) hd1 dX6_shares_55 ?_
      refine jx_isub (pc := 56) C dX6_shares_56 ?_
      refine jx_istore (pc := 57) C dX6_shares_57 (jset_5 jc_i) (by decide) ?_
      refine jx_aload_n (pc := 59) C dX6_shares_59 rfl ?_
      refine jx_iload_n (pc := 60) C dX6_shares_60 rfl ?_
      refine jx_bipush (pc := 61) C dX6_shares_61 nb_6 ?_
      refine jx_iload (pc := 63) C dX6_shares_63 rfl ?_
      refine jx_iaddN (pc := 65) C dX6_shares_65 ?_
      refine jx_callD (pc := 66) C (go_X6_43 C  (Nat.le_of_ble_eq_true rfl) dX6_shares_66) (t_X6_byv hs (by omega) (hb1 _)) (by decide) (by decide) ⟨Nat.zero_le _, Nat.zero_le _⟩ ?_
      refine jx_aload_n (pc := 69) C dX6_shares_69 rfl ?_
      refine jx_iload_n (pc := 70) C dX6_shares_70 rfl ?_
      refine jx_bipush (pc := 71) C dX6_shares_71 nb_6 ?_
      refine jx_iload (pc := 73) C dX6_shares_73 rfl ?_
      refine jx_iaddN (pc := 75) C dX6_shares_75 ?_
      refine jx_callD (pc := 76) C (go_X6_43 C  (Nat.le_of_ble_eq_true rfl) dX6_shares_76) (t_X6_byv hs (by omega) (hb1 _)) (by decide) (by decide) ⟨Nat.zero_le _, Nat.zero_le _⟩ ?_
      refine jx_icmp_le (pc := 79) C (tgt := 87) dX6_shares_79 (by decide) (fun c79 => ?_) (fun c79 => ?_)
      · refine jx_iload (pc := 87) C dX6_shares_87 rfl ?_
        refine jx_istore (pc := 89) C dX6_shares_89 (jset_6 jc_i) (by decide) ?_
        refine jx_iincN (pc := 91) C dX6_shares_91 rfl (jset_7 jc_i) (by decide) ?_
        refine jx_goto (pc := 94) C (tgt := 9) dX6_shares_94 (by decide) ?_
        have h4 := ih (w + 1) (by omega)
        first | rw [smost_t c79] at h4 | rw [smost_e c79] at h4
        exact h4
      · refine jx_iload (pc := 82) C dX6_shares_82 rfl ?_
        refine jx_goto (pc := 84) C (tgt := 89) dX6_shares_84 (by decide) ?_
        refine jx_istore (pc := 89) C dX6_shares_89 (jset_6 jc_i) (by decide) ?_
        refine jx_iincN (pc := 91) C dX6_shares_91 rfl (jset_7 jc_i) (by decide) ?_
        refine jx_goto (pc := 94) C (tgt := 9) dX6_shares_94 (by decide) ?_
        have h4 := ih (w + 1) (by omega)
        first | rw [smost_t c79] at h4 | rw [smost_e c79] at h4
        exact h4
    refine jx_iload (pc := 9) C dX6_shares_9 rfl ?_
    refine jx_bipush (pc := 11) C dX6_shares_11 nb_6 ?_
    refine jx_icmp_ge (pc := 13) C (tgt := 97) dX6_shares_13 (by decide) (fun c13 => (by rw [nI_leI (by omega) (by omega)] at c13; exfalso; omega)) (fun c13 => ?_)
    rw [nI_leI (by omega) (by omega)] at c13
    refine jx_aload_n (pc := 16) C dX6_shares_16 rfl ?_
    refine jx_getP (pc := 17) C kf_X6_25 rfl hS.1 hP.2.2.2.2.2 dX6_shares_17 ?_
    refine jx_iload (pc := 20) C dX6_shares_20 rfl ?_
    refine jx_iload (pc := 22) C dX6_shares_22 rfl ?_
    refine jx_if_ne (pc := 24) C (tgt := 31) dX6_shares_24 (by decide) (fun c24 => ?_) (fun c24 => ?_)
    · refine jx_iload_n (pc := 31) C dX6_shares_31 rfl ?_
      refine jx_aload_n (pc := 32) C dX6_shares_32 rfl ?_
      refine jx_iload_n (pc := 33) C dX6_shares_33 rfl ?_
      refine jx_bipush (pc := 34) C dX6_shares_34 nb_6 ?_
      refine jx_iload (pc := 36) C dX6_shares_36 rfl ?_
      refine jx_iaddN (pc := 38) C dX6_shares_38 ?_
      refine jx_callD (pc := 39) C (go_X6_43 C  (Nat.le_of_ble_eq_true rfl) dX6_shares_39) (t_X6_byv hs (by omega) (hb _)) (by decide) (by decide) ⟨Nat.zero_le _, Nat.zero_le _⟩ ?_
      refine jx_imul (pc := 42) C dX6_shares_42 ?_
      refine jx_iload (pc := 43) C dX6_shares_43 rfl ?_
      refine jx_idiv (pc := 45) C dX6_shares_45 c24 ?_
      first | exact key _ (if_pos c24).symm | exact key _ (if_neg c24).symm
    · refine jx_iconst (pc := 27) C dX6_shares_27 nc_0 ?_
      refine jx_goto (pc := 28) C (tgt := 46) dX6_shares_28 (by decide) ?_
      first | exact key _ (if_pos c24).symm | exact key _ (if_neg c24).symm
set_option maxHeartbeats 4000000 in
theorem b_X6_shares {p : Program} {l : Launch} {e : Env} {s : State} {m : MethodId} {args : Array Value} {below : List Frame} {meth : Method} {c : Code} {D : va_G} {cA : Nat → ClassId} {N0 : Nat} {Sh : jS} {I : jI} {P : jP} {L : jL} (C : jC p (jRm 1 0 0) s m args meth c D cA N0 cX6_shares 8 RX6 1) (hr : meth.sig.returnType = none) {x a : Nat} (hS : mS Sh x) (hP : mP P x) (hs : Sh a = some (10, 210)) (hne : a ≠ x + 6) {o : Nat} (ho : o < 10) {whole len : Int32} : jJ p l e (jRm 1 0 0) s m args below meth c D cA N0 8 (MQ below (jQn D cA N0 Sh (jD none (va_up I (x + 6) (sshares (I a) o whole len (I (x + 6)))) P L)) args s 0 0 (fun q => N0 ≤ q)) (fun _ => True) Sh I P L 0 0 0 [some (.ref x), some (.ref a), some (.int (nI o)), some (.int whole), some (.int len), none, none, none] [] := by
  refine jx_iload_n (pc := 0) C dX6_shares_0 rfl ?_
  refine jx_istore (pc := 1) C dX6_shares_1 (jset_5 jc_i) (by decide) ?_
  refine jx_iconst (pc := 3) C dX6_shares_3 nc_0 ?_
  refine jx_istore (pc := 4) C dX6_shares_4 (jset_6 jc_i) (by decide) ?_
  refine jx_iconst (pc := 6) C dX6_shares_6 nc_0 ?_
  refine jx_istore (pc := 7) C dX6_shares_7 (jset_7 jc_i) (by decide) ?_
  have hml := smost_le (I a) o 6
  refine jx_mem (I' := (va_up I (x + 6) (sdues (I a) o whole len 0 (I (x + 6))))) (P' := P) (by rw [show sdues (I a) o whole len 0 (I (x + 6)) = I (x + 6) by funext j; exact if_neg (Nat.not_lt_zero j)]; exact va_up_id.symm) rfl ?_
  refine lp_X6_shares C hS hP hs hne ho ?_ 6 0 rfl
  refine jx_aload_n (pc := 97) C dX6_shares_97 rfl ?_
  refine jx_getP (pc := 98) C kf_X6_25 rfl hS.1 hP.2.2.2.2.2 dX6_shares_98 ?_
  refine jx_iload (pc := 101) C dX6_shares_101 rfl ?_
  refine jx_dup2_11 (pc := 103) C dX6_shares_103 rfl rfl ?_
  refine jx_iald (pc := 104) C hS.2.2.2.2.2.2 (by omega) (by decide) dX6_shares_104 ?_
  refine jx_iload (pc := 105) C dX6_shares_105 rfl ?_
  refine jx_if_ne (pc := 107) C (tgt := 114) dX6_shares_107 (by decide) (fun c107 => ?_) (fun c107 => ?_)
  · refine jx_iload (pc := 114) C dX6_shares_114 rfl ?_
    refine jx_iadd (pc := 116) C dX6_shares_116 ?_
    refine jx_iast (pc := 117) C hS.2.2.2.2.2.2 (by omega) (by decide) dX6_shares_117 ?_
    exact jn_vret (pc := 118) C hr (by
      refine jD_of rfl ?_ rfl rfl
      rw [jst_up, va_up_s]
      unfold sshares
      first | rw [if_pos c107] | rw [if_neg c107]) dX6_shares_118
  · refine jx_iconst (pc := 110) C dX6_shares_110 nc_0 ?_
    refine jx_goto (pc := 111) C (tgt := 116) dX6_shares_111 (by decide) ?_
    refine jx_iadd (pc := 116) C dX6_shares_116 ?_
    refine jx_iast (pc := 117) C hS.2.2.2.2.2.2 (by omega) (by decide) dX6_shares_117 ?_
    exact jn_vret (pc := 118) C hr (by
      refine jD_of rfl ?_ rfl rfl
      rw [jst_up, va_up_s]
      unfold sshares
      first | rw [if_pos c107] | rw [if_neg c107]) dX6_shares_118
theorem t_X6_shares {l : Launch} {D : va_G} {cA : Nat → ClassId} {N0 : Nat} {Sh : jS} {I : jI} {P : jP} {L : jL} {x a : Nat} (hS : mS Sh x) (hP : mP P x) (hs : Sh a = some (10, 210)) (hne : a ≠ x + 6) {o : Nat} (ho : o < 10) {whole len : Int32} : jN l D cA N0 1 yX6_shares cX6_shares 8 none [.ref x, .ref a, .int (nI o), .int whole, .int len] Sh I P L (jD none (va_up I (x + 6) (sshares (I a) o whole len (I (x + 6)))) P L) := jN_of (by decide) (Nat.le_of_ble_eq_true rfl) (fun _ _ _ _ _ _ _ _ C hr => b_X6_shares C hr hS hP hs hne ho)
