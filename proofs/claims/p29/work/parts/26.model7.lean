/-- rows from n on moved behind by one, up to m -/
def sshf (f : sF) (m n : Nat) : sF := fun k => if 90 + 12 * (n + 1) ≤ k ∧ k < 90 + 12 * (m + 1) then f (k - 12) else f k
theorem sshf_0 {f : sF} {m : Nat} : sshf f m m = f := by funext k; unfold sshf; rw [if_neg (by omega)]
theorem sshf_s {f : sF} {m n : Nat} (h : n + 1 ≤ m) : cpy (sshf f m (n + 1)) f (90 + 12 * (n + 1)) (90 + 12 * n) 12 = sshf f m n := by
  funext k
  unfold cpy sshf
  by_cases h1 : 90 + 12 * (n + 1) ≤ k ∧ k < 90 + 12 * (n + 1) + 12
  · rw [if_pos h1, if_pos (by omega)]; exact congrArg f (by omega)
  · rw [if_neg h1]
    by_cases h2 : 90 + 12 * (n + 1 + 1) ≤ k ∧ k < 90 + 12 * (m + 1)
    · rw [if_pos h2, if_pos (by omega)]
    · rw [if_neg h2, if_neg (by omega)]
theorem i32_ac (a b : Int32) : a + b - b = a := by
  apply Int32.toBitVec_inj.mp
  simp only [Int32.toBitVec_sub, Int32.toBitVec_add]
  exact BitVec.add_sub_cancel _ _
theorem scomes_eq {f : sF} {cv wd len pr due : Int32} {p : Nat} (hp : spos f due (smany f) = p) (hpm : p ≤ smany f) :
    upd (upd (upd (upd (upd (upd (upd (upd (cpy (sshf f (smany f) p) (fun _ => nI 0) (90 + 12 * p) 0 12) (90 + 12 * p + 0) (f 6)) (90 + 12 * p + 1) cv) (90 + 12 * p + 2) wd) (90 + 12 * p + 3) len) (90 + 12 * p + 4) pr) (90 + 12 * p + 5) due) 5 (f 5 + nI 1)) 6 (f 6 + nI 1) = scomes f cv wd len pr due := by
  funext k
  unfold scomes
  rw [hp]
  by_cases h1 : 90 + 12 * p ≤ k ∧ k < 90 + 12 * p + 12
  · rw [if_pos h1]
    obtain ⟨j, rfl⟩ : ∃ j, k = 90 + 12 * p + j := ⟨k - (90 + 12 * p), by omega⟩
    rw [Nat.add_sub_cancel_left, upd_n (by omega), upd_n (by omega)]
    have hj : j < 12 := by omega
    by_cases e5 : j = 5
    · subst e5; rw [upd_s]; rfl
    rw [upd_n (by omega)]
    by_cases e4 : j = 4
    · subst e4; rw [upd_s]; rfl
    rw [upd_n (by omega)]
    by_cases e3 : j = 3
    · subst e3; rw [upd_s]; rfl
    rw [upd_n (by omega)]
    by_cases e2 : j = 2
    · subst e2; rw [upd_s]; rfl
    rw [upd_n (by omega)]
    by_cases e1 : j = 1
    · subst e1; rw [upd_s]; rfl
    rw [upd_n (by omega)]
    by_cases e0 : j = 0
    · subst e0; rw [upd_s]; rfl
    rw [upd_n (by omega), cpy_in hj]
    match j, e0, e1, e2, e3, e4, e5 with
    | j + 6, _, _, _, _, _, _ => rfl
  · rw [if_neg h1]
    by_cases h6 : k = 6
    · subst h6; rw [upd_s, if_neg (by omega), upd_s]
    by_cases h5 : k = 5
    · subst h5; rw [upd_n (by decide), upd_s, if_neg (by omega), upd_n (by decide), upd_s]
    rw [upd_n h6, upd_n h5, upd_n (by omega), upd_n (by omega), upd_n (by omega), upd_n (by omega), upd_n (by omega), upd_n (by omega), cpy_out (by omega), upd_n h6, upd_n h5]
    unfold sshf
    by_cases h2 : 90 + 12 * p + 12 ≤ k ∧ k < 90 + 12 * (smany f + 1)
    · rw [if_pos h2, if_pos (by omega)]
    · rw [if_neg h2, if_neg (by omega)]
