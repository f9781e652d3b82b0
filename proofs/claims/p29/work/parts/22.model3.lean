/-- the reference object's cells: x, its rows behind it -/
def mS (Sh : jS) (x : Nat) : Prop := Sh x = some (6, 0) ∧ Sh (x + 1) = some (10, 210) ∧ Sh (x + 2) = some (10, 210) ∧ Sh (x + 3) = some (10, 1260) ∧ Sh (x + 4) = some (10, 60) ∧ Sh (x + 5) = some (10, 50) ∧ Sh (x + 6) = some (10, 6)
def mP (P : jP) (x : Nat) : Prop := P x 0 = some (x + 1) ∧ P x 1 = some (x + 2) ∧ P x 2 = some (x + 3) ∧ P x 4 = some (x + 4) ∧ P x 10 = some (x + 5) ∧ P x 12 = some (x + 6)
/-- memory with the state row a and the row of dues -/
def mm (I : jI) (x a : Nat) (d : Nat → Int32) (g : sF) : jI := va_up (va_up I (x + 6) d) a g
theorem mm_a {I : jI} {x a : Nat} {d : Nat → Int32} {g : sF} : mm I x a d g a = g := va_up_s
theorem mm_d {I : jI} {x a : Nat} {d : Nat → Int32} {g : sF} (h : a ≠ x + 6) : mm I x a d g (x + 6) = d := by unfold mm; rw [va_up_n (Ne.symm h), va_up_s]
theorem mm_st {I : jI} {x a k : Nat} {d : Nat → Int32} {g : sF} {v : Int32} : jst (mm I x a d g) a k v = mm I x a d (upd g k v) := jst_up
theorem mm_up {I : jI} {x a : Nat} {d : Nat → Int32} {g g' : sF} : va_up (mm I x a d g) a g' = mm I x a d g' := va_up_u
theorem mm_ud {I : jI} {x a : Nat} {d d' : Nat → Int32} {g : sF} (h : a ≠ x + 6) : va_up (mm I x a d g) (x + 6) d' = mm I x a d' g := by unfold mm; rw [va_up_c h, va_up_u]
theorem mm_mm {I : jI} {x a : Nat} {d d' : Nat → Int32} {g g' : sF} (h : a ≠ x + 6) : mm (mm I x a d g) x a d' g' = mm I x a d' g' := by
  show va_up (va_up (mm I x a d g) (x + 6) d') a g' = _
  rw [mm_ud h, mm_up]
theorem mm_id {I : jI} {x a : Nat} (h : a ≠ x + 6) : mm I x a (I (x + 6)) (I a) = I := by unfold mm; rw [va_up_id]; exact va_up_id
theorem spayN_c {f : sF} {du du' : Nat → Int32} : ∀ {n : Nat}, (∀ w, w < n → du w = du' w) → spayN f du n = spayN f du' n := by
  intro n
  induction n with
  | zero => intro _; rfl
  | succ n ih =>
    intro h
    show spay1 (spayN f du n) du n = spay1 (spayN f du' n) du' n
    rw [ih (fun w hw => h w (Nat.lt_succ_of_lt hw))]
    unfold spay1
    rw [h n (Nat.lt_succ_self n)]
theorem sshares_c {f : sF} {o : Nat} {whole len : Int32} {du du' : Nat → Int32} {w : Nat} (hw : w < 6) : sshares f o whole len du w = sshares f o whole len du' w := by
  have hm := smost_le f o 6
  unfold sshares
  simp only [upd]
  rw [sdues_w hw, sdues_w hw, sdues_w (du := du) (show smost f o 6 < 6 by omega), sdues_w (du := du') (show smost f o 6 < 6 by omega)]
/-- what is due of an order that is done -/
def sduR (f : sF) (o : Nat) : Nat → Int32 := sshares f o (swhole f o (f (90 + 12 * o + 3))) (f (90 + 12 * o + 3)) (fun _ => nI 0)
def spaysF (f : sF) (o : Nat) : sF := spays f o (sduR f o)
def swv (w o : Nat) : Nat → sF → sF × Nat
  | 0, f => (f, 0)
  | r + 1, f => match stake f w o with
    | none => (f, 0)
    | some f1 => if sgood (smake f1 w o) o = smake f1 w o (90 + 12 * o + 3) then (spaysF (smake f1 w o) o, 1) else ((swv w o r (smake f1 w o)).1, (swv w o r (smake f1 w o)).2 + 1)
def sweaves (f : sF) (w : Nat) : sF × Nat := match schos f w with | none => (f, 0) | some o => swv w o (sspd f w) f
def sweave (f : sF) (w : Nat) : sF := upd (sweaves f w).1 13 ((sweaves f w).1 13 + (if (sweaves f w).2 = 0 then nI 1 else nI 0))
def shourN (f : sF) : Nat → sF | 0 => f | w + 1 => if 0 < shourN f w (18 + 12 * w + 0) then sweave (shourN f w) w else shourN f w
def shour (f : sF) : sF := upd (shourN f 6) 4 (shourN f 6 4 + nI 1)
def shours (f : sF) : Nat → sF | 0 => f | n + 1 => shour (shours f n)
/-- what the reference's methods need of a state -/
def sOK (f : sF) : Prop := f 5 = nI (smany f) ∧ smany f ≤ 10 ∧ (∀ o, o < smany f → f (90 + 12 * o + 1) = nI (scol f o) ∧ scol f o < 4) ∧ ∀ w, w < 6 → f (18 + 12 * w + 1) = nI (sspd f w) ∧ sspd f w ≤ 9
theorem sOK_of {f f' : sF} (h : sOK f) (h5 : f' 5 = f 5) (h1 : ∀ o, o < smany f → f' (90 + 12 * o + 1) = f (90 + 12 * o + 1)) (h2 : ∀ w, w < 6 → f' (18 + 12 * w + 1) = f (18 + 12 * w + 1)) : sOK f' := by
  have hm : smany f' = smany f := by unfold smany; rw [h5]
  refine ⟨by rw [hm, h5]; exact h.1, by rw [hm]; exact h.2.1, fun o ho => ?_, fun w hw => ?_⟩
  · rw [hm] at ho
    have hc : scol f' o = scol f o := by unfold scol; rw [h1 o ho]
    rw [hc, h1 o ho]; exact h.2.2.1 o ho
  · have hc : sspd f' w = sspd f w := by unfold sspd; rw [h2 w hw]
    rw [hc, h2 w hw]; exact h.2.2.2 w hw
theorem upd_n {f : sF} {k j : Nat} {v : Int32} (h : j ≠ k) : upd f k v j = f j := if_neg h
theorem upd_s {f : sF} {k : Nat} {v : Int32} : upd f k v k = v := if_pos rfl
theorem smost_t {f : sF} {o w : Nat} (h : f (90 + 12 * o + (6 + w)) ≤ f (90 + 12 * o + (6 + smost f o w))) : smost f o (w + 1) = smost f o w := if_pos h
theorem smost_e {f : sF} {o w : Nat} (h : ¬ f (90 + 12 * o + (6 + w)) ≤ f (90 + 12 * o + (6 + smost f o w))) : smost f o (w + 1) = w := if_neg h
/-- what taking yarn leaves -/
theorem stake_k {f f1 : sF} {w o k : Nat} (h : stake f w o = some f1) (h1 : k ≠ 12) (h2 : k ≠ 14 + scol f o) (h3 : k ≠ 18 + 12 * w + 3) (h4 : k ≠ 18 + 12 * w + 7) (h5 : k ≠ 18 + 12 * w + (8 + scol f o)) : f1 k = f k := by
  unfold stake at h
  try dsimp only at h
  split at h
  · cases h
    rw [upd_n h1, upd_n h5]
  · split at h
    · cases h
      rw [upd_n h1, upd_n h4, upd_n h3, upd_n h2]
    · cases h
theorem smake_k {f : sF} {w o k : Nat} (h1 : k ≠ 10) (h2 : k ≠ 11) (h3 : k ≠ 18 + 12 * w + 5) (h4 : k ≠ 18 + 12 * w + 6) (h5 : k ≠ 90 + 12 * o + 6 + w) : smake f w o k = f k := by
  unfold smake
  try dsimp only
  split
  · rw [upd_n h2, upd_n h4, upd_n h1, upd_n h3]
  · rw [upd_n h5, upd_n h1, upd_n h3]
theorem spay1_k {f : sF} {du : Nat → Int32} {w k : Nat} (h1 : k ≠ 18 + 12 * w + 3) (h2 : k ≠ 18 + 12 * w + 4) : spay1 f du w k = f k := by
  unfold spay1
  try dsimp only
  rw [upd_n h2, upd_n h1]
theorem spayN_k {f : sF} {du : Nat → Int32} {k : Nat} : ∀ {n : Nat}, (∀ w, w < n → k ≠ 18 + 12 * w + 3 ∧ k ≠ 18 + 12 * w + 4) → spayN f du n k = f k := by
  intro n
  induction n with
  | zero => intro _; rfl
  | succ n ih =>
    intro h
    show spay1 (spayN f du n) du n k = f k
    rw [spay1_k (h n (Nat.lt_succ_self n)).1 (h n (Nat.lt_succ_self n)).2]
    exact ih (fun w hw => h w (Nat.lt_succ_of_lt hw))
theorem sgoes_OK {f : sF} {o : Nat} (h : sOK f) (ho : o < smany f) : sOK (sgoes f o) := by
  obtain ⟨a1, a2, a3, a4⟩ := h
  have h5 : sgoes f o 5 = nI (smany f - 1) := by
    unfold sgoes
    rw [if_neg (by omega), upd_s, a1, pk_sub (by omega)]
  have hm : smany (sgoes f o) = smany f - 1 := by
    show (sgoes f o 5).toNatClampNeg = _
    rw [h5, nI_clamp (by omega)]
  refine ⟨by rw [hm, h5], by omega, fun q hq => ?_, fun w hw => ?_⟩
  · rw [hm] at hq
    by_cases hqo : o ≤ q
    · have e : sgoes f o (90 + 12 * q + 1) = f (90 + 12 * (q + 1) + 1) := by
        unfold sgoes
        rw [if_pos (by omega)]
        exact congrArg f (by omega)
      have hc : scol (sgoes f o) q = scol f (q + 1) := by unfold scol; rw [e]
      rw [hc, e]; exact a3 (q + 1) (by omega)
    · have e : sgoes f o (90 + 12 * q + 1) = f (90 + 12 * q + 1) := by
        unfold sgoes
        rw [if_neg (by omega), upd_n (by omega)]
      have hc : scol (sgoes f o) q = scol f q := by unfold scol; rw [e]
      rw [hc, e]; exact a3 q (by omega)
  · have e : sgoes f o (18 + 12 * w + 1) = f (18 + 12 * w + 1) := by
      unfold sgoes
      rw [if_neg (by omega), upd_n (by omega)]
    have hc : sspd (sgoes f o) w = sspd f w := by unfold sspd; rw [e]
    rw [hc, e]; exact a4 w hw
/-- the state ahead of the order's going -/
def spaysA (f : sF) (o : Nat) (du : Nat → Int32) : sF :=
  upd (upd (upd (spayN f du 6) 7 (spayN f du 6 7 + nI 1)) 8 (upd (spayN f du 6) 7 (spayN f du 6 7 + nI 1) 8 + (if slate (upd (spayN f du 6) 7 (spayN f du 6 7 + nI 1)) o ≤ 0 then nI 0 else nI 1))) 9
   (upd (upd (spayN f du 6) 7 (spayN f du 6 7 + nI 1)) 8 (upd (spayN f du 6) 7 (spayN f du 6 7 + nI 1) 8 + (if slate (upd (spayN f du 6) 7 (spayN f du 6 7 + nI 1)) o ≤ 0 then nI 0 else nI 1)) 9 + swhole f o (f (90 + 12 * o + 3)))
theorem spays_A {f : sF} {o : Nat} {du : Nat → Int32} : spays f o du = sgoes (spaysA f o du) o := rfl
theorem spaysA_k {f : sF} {o k : Nat} {du : Nat → Int32} (h7 : k ≠ 7) (h8 : k ≠ 8) (h9 : k ≠ 9) (h : ∀ w, w < 6 → k ≠ 18 + 12 * w + 3 ∧ k ≠ 18 + 12 * w + 4) : spaysA f o du k = f k := by
  unfold spaysA
  rw [upd_n h9, upd_n h8, upd_n h7]
  exact spayN_k h
theorem spaysA_OK {f : sF} {o : Nat} {du : Nat → Int32} (h : sOK f) : sOK (spaysA f o du) ∧ smany (spaysA f o du) = smany f := by
  have e5 : spaysA f o du 5 = f 5 := spaysA_k (by decide) (by decide) (by decide) (fun w hw => ⟨by omega, by omega⟩)
  refine ⟨sOK_of h e5 (fun q hq => spaysA_k (by omega) (by omega) (by omega) (fun w hw => ⟨by omega, by omega⟩)) (fun v hv => spaysA_k (by omega) (by omega) (by omega) (fun w hw => ⟨by omega, by omega⟩)), ?_⟩
  unfold smany; rw [e5]
theorem spaysF_OK {f : sF} {o : Nat} (h : sOK f) (ho : o < smany f) : sOK (spaysF f o) := by
  unfold spaysF
  rw [spays_A]
  exact sgoes_OK (spaysA_OK h).1 (by rw [(spaysA_OK h).2]; exact ho)
theorem stake_OK {f f1 : sF} {w o : Nat} (h : sOK f) (hw : w < 6) (ho : o < smany f) (ht : stake f w o = some f1) : sOK f1 ∧ smany f1 = smany f := by
  have hc := (h.2.2.1 o ho).2
  have hk := h.2.1
  have e5 : f1 5 = f 5 := stake_k ht (by omega) (by omega) (by omega) (by omega) (by omega)
  exact ⟨sOK_of h e5 (fun q hq => stake_k ht (by omega) (by omega) (by omega) (by omega) (by omega)) (fun v hv => stake_k ht (by omega) (by omega) (by omega) (by omega) (by omega)), by unfold smany; rw [e5]⟩
theorem smake_OK {f : sF} {w o : Nat} (h : sOK f) (hw : w < 6) (ho : o < smany f) : sOK (smake f w o) ∧ smany (smake f w o) = smany f := by
  have hk := h.2.1
  have e5 : smake f w o 5 = f 5 := smake_k (by omega) (by omega) (by omega) (by omega) (by omega)
  exact ⟨sOK_of h e5 (fun q hq => smake_k (by omega) (by omega) (by omega) (by omega) (by omega)) (fun v hv => smake_k (by omega) (by omega) (by omega) (by omega) (by omega)), by unfold smany; rw [e5]⟩
theorem swv_OK {w o : Nat} (hw : w < 6) : ∀ (r : Nat) (f : sF), sOK f → o < smany f → sOK (swv w o r f).1 := by
  intro r
  induction r with
  | zero => intro f h _; exact h
  | succ r ih =>
    intro f h ho
    unfold swv
    cases ht : stake f w o with
    | none => exact h
    | some f1 =>
      obtain ⟨b1, b2⟩ := stake_OK h hw ho ht
      obtain ⟨b3, b4⟩ := smake_OK b1 hw (by rw [b2]; exact ho)
      dsimp only
      split
      · exact spaysF_OK b3 (by rw [b4, b2]; exact ho)
      · exact ih _ b3 (by rw [b4, b2]; exact ho)
theorem sweave_OK {f : sF} {w : Nat} (hw : w < 6) (h : sOK f) : sOK (sweave f w) := by
  have h1 : sOK (sweaves f w).1 := by
    unfold sweaves
    cases hq : schos f w with
    | none => exact h
    | some o => exact swv_OK hw _ _ h (schosN_lt hq).1
  have hk := h1.2.1
  exact sOK_of h1 (upd_n (by decide)) (fun q hq => upd_n (by omega)) (fun v hv => upd_n (by omega))
theorem shourN_OK {f : sF} (h : sOK f) : ∀ n, n ≤ 6 → sOK (shourN f n) := by
  intro n
  induction n with
  | zero => intro _; exact h
  | succ n ih =>
    intro hn
    unfold shourN
    split
    · exact sweave_OK (by omega) (ih (by omega))
    · exact ih (by omega)
theorem shour_OK {f : sF} (h : sOK f) : sOK (shour f) := by
  have h1 := shourN_OK h 6 (Nat.le_refl 6)
  have hk := h1.2.1
  exact sOK_of h1 (upd_n (by decide)) (fun q hq => upd_n (by omega)) (fun v hv => upd_n (by omega))
theorem shours_OK {f : sF} (h : sOK f) : ∀ n, sOK (shours f n) := by
  intro n
  induction n with
  | zero => exact h
  | succ n ih => exact shour_OK ih
