theorem spays_c {f : sF} {o : Nat} {du du' : Nat → Int32} (h : ∀ w, w < 6 → du w = du' w) : spays f o du = spays f o du' := by
  rw [spays_A, spays_A]
  unfold spaysA
  rw [spayN_c h]
theorem mm_of {I : jI} {x a : Nat} {d : Nat → Int32} (h : a ≠ x + 6) : va_up I (x + 6) d = mm I x a d (I a) := by
  unfold mm
  rw [show I a = va_up I (x + 6) d a from (va_up_n h).symm]
  exact va_up_id.symm
theorem smake_1 {f : sF} {w o : Nat} (hw : w < 6) (ho : o < 10) : smake f w o (18 + 12 * w + 1) = f (18 + 12 * w + 1) := smake_k (by omega) (by omega) (by omega) (by omega) (by omega)
theorem stake_1 {f f1 : sF} {w o : Nat} (hw : w < 6) (hc : scol f o < 4) (h : stake f w o = some f1) : f1 (18 + 12 * w + 1) = f (18 + 12 * w + 1) := stake_k h (by omega) (by omega) (by omega) (by omega) (by omega)
theorem swv_2 {w o : Nat} : ∀ (r : Nat) (f : sF), (swv w o r f).2 ≤ r := by
  intro r
  induction r with
  | zero => intro f; exact Nat.le_refl 0
  | succ r ih =>
    intro f
    unfold swv
    cases stake f w o with
    | none => exact Nat.zero_le _
    | some f1 =>
      dsimp only
      split
      · exact Nat.succ_le_succ (Nat.zero_le _)
      · exact Nat.succ_le_succ (ih _)
theorem swv_none {w o r : Nat} {f : sF} (h : stake f w o = none) : swv w o (r + 1) f = (f, 0) := by
  show (match stake f w o with | none => _ | some f1 => _) = _
  rw [h]
theorem swv_done {w o r : Nat} {f f1 : sF} (h : stake f w o = some f1) (hd : sgood (smake f1 w o) o = smake f1 w o (90 + 12 * o + 3)) : swv w o (r + 1) f = (spaysF (smake f1 w o) o, 1) := by
  show (match stake f w o with | none => _ | some f1 => _) = _
  rw [h]
  exact if_pos hd
theorem swv_more {w o r : Nat} {f f1 : sF} (h : stake f w o = some f1) (hd : ¬ sgood (smake f1 w o) o = smake f1 w o (90 + 12 * o + 3)) : swv w o (r + 1) f = ((swv w o r (smake f1 w o)).1, (swv w o r (smake f1 w o)).2 + 1) := by
  show (match stake f w o with | none => _ | some f1 => _) = _
  rw [h]
  exact if_neg hd
