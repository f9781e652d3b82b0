theorem in_N {v : Int32} {n : Nat} (hn : n < 2 ^ 31) (h : nI 0 ≤ v ∧ v ≤ nI n) : ∃ w : Nat, w ≤ n ∧ v = nI w := by
  refine nI_of2 (nI_toInt hn) ?_ h.2
  rw [← nI_0]; exact i32_nlt.mpr h.1
theorem nI_inn {w n : Nat} (hn : n < 2 ^ 31) (h : w ≤ n) : nI 0 ≤ nI w ∧ nI w ≤ nI n := ⟨(nI_leI (by decide) (by omega)).mpr (Nat.zero_le _), (nI_leI (by omega) hn).mpr h⟩
/-- a state was saved -/
def mPush (I : jI) (x : Nat) (I' : jI) : Prop := ∃ q : Nat, I x 3 = nI q ∧ q ≤ 6 ∧ I' x 3 = nI (min q 5 + 1) ∧ (∀ k, k < 210 → I' (x + 3) (210 * (min q 5) + k) = I (x + 1) k) ∧ ∀ i, i < min q 5 → ∀ k, k < 210 → I' (x + 3) (210 * i + k) = I (x + 3) (210 * (i + (q - min q 5)) + k)
def mSv (I : jI) (x : Nat) (I' : jI) : Prop := I' (x + 1) = I (x + 1) ∧ I' (x + 2) = I (x + 2) ∧ I' (x + 4) = I (x + 4) ∧ (∀ k, k ≠ 3 → I' x k = I x k) ∧ (∀ b, b < x ∨ x + 3 < b → I' b = I b) ∧ mPush I x I'
/-- the end of a reference's method that changes the state: S is the sort of its failure (0: none), its answer, the new state -/
def mDo (I : jI) (P : jP) (L : jL) (x : Nat) (S : Nat × Int32 × sF) : Option Value → jI → jP → jL → Prop := fun v I' P' L' => P' = P ∧ L' = L ∧ ∃ r, v = some (.int r) ∧ I' x 6 = nI S.1 ∧ (∀ b, b < x ∨ x + 6 < b → I' b = I b) ∧ I' x 5 = I x 5 ∧ I' (x + 4) = I (x + 4) ∧ (S.1 = 0 → r = S.2.1 ∧ I' (x + 1) = S.2.2 ∧ mPush I x I') ∧ (S.1 ≠ 0 → I' (x + 1) = I (x + 1) ∧ I' x 3 = I x 3 ∧ I' (x + 3) = I (x + 3))
theorem mDo_fail {I : jI} {P : jP} {L : jL} {x k : Nat} {S : Nat × Int32 × sF} (e : S.1 = k) (hk : k ≠ 0) : mDo I P L x S (some (.int (nI 0))) (jst (jst I x 6 (nI 0)) x 6 (nI k)) P L := by
  refine ⟨rfl, rfl, _, rfl, ?_, fun b hb => ?_, ?_, ?_, fun h => absurd (e.symm.trans h) hk, fun _ => ⟨?_, ?_, ?_⟩⟩
  · rw [e, jst_eq, upd_s]
  · rw [jst_ne (by omega), jst_ne (by omega)]
  · rw [jst_eq, upd_n (by decide), jst_eq, upd_n (by decide)]
  · rw [jst_ne (by omega), jst_ne (by omega)]
  · rw [jst_ne (by omega), jst_ne (by omega)]
  · rw [jst_eq, upd_n (by decide), jst_eq, upd_n (by decide)]
  · rw [jst_ne (by omega), jst_ne (by omega)]
theorem mPush_0 {I I1 : jI} {x : Nat} {v : Int32} (h : mPush (jst I x 6 v) x I1) : mPush I x I1 := by
  obtain ⟨q, h1, h2, h3, h4, h5⟩ := h
  rw [jst_eq, upd_n (by decide)] at h1
  refine ⟨q, h1, h2, h3, fun k hk => ?_, fun i hi k hk => ?_⟩
  · rw [h4 k hk, jst_ne (by omega)]
  · rw [h5 i hi k hk, jst_ne (by omega)]
theorem mPush_now {I I1 : jI} {x : Nat} {g : sF} (h : mPush I x I1) : mPush I x (va_up I1 (x + 1) g) := by
  obtain ⟨q, h1, h2, h3, h4, h5⟩ := h
  refine ⟨q, h1, h2, ?_, fun k hk => ?_, fun i hi k hk => ?_⟩
  · rw [va_up_n (by omega)]; exact h3
  · rw [va_up_n (by omega)]; exact h4 k hk
  · rw [va_up_n (by omega)]; exact h5 i hi k hk
theorem mDo_ok {I I1 I' : jI} {P : jP} {L : jL} {x : Nat} {S : Nat × Int32 × sF} {r : Int32} (hs : mSv (jst I x 6 (nI 0)) x I1) (e : S.1 = 0) (hr : r = S.2.1) (hI : I' = va_up I1 (x + 1) S.2.2) : mDo I P L x S (some (.int r)) I' P L := by
  obtain ⟨h1, h2, h4, h6, hb, hp⟩ := hs
  subst hI
  refine ⟨rfl, rfl, _, rfl, ?_, fun b hb' => ?_, ?_, ?_, fun _ => ⟨hr, va_up_s, mPush_now (mPush_0 hp)⟩, fun h => absurd e h⟩
  · rw [va_up_n (by omega), h6 6 (by decide), e, jst_eq, upd_s]
  · rw [va_up_n (by omega), hb b (by omega), jst_ne (by omega)]
  · rw [va_up_n (by omega), h6 5 (by decide), jst_eq, upd_n (by decide)]
  · rw [va_up_n (by omega), h4, jst_ne (by omega)]
/-- copies from one row to another -/
def cpy (g h : Nat → Int32) (b c n : Nat) : Nat → Int32 := fun k => if b ≤ k ∧ k < b + n then h (c + (k - b)) else g k
theorem cpy_0 {g h : Nat → Int32} {b c : Nat} : cpy g h b c 0 = g := by funext k; unfold cpy; rw [if_neg (by omega)]
theorem cpy_s {g h : Nat → Int32} {b c n : Nat} : upd (cpy g h b c n) (b + n) (h (c + n)) = cpy g h b c (n + 1) := by
  funext k
  simp only [upd, cpy]
  by_cases h1 : k = b + n
  · subst h1; rw [if_pos rfl, if_pos (by omega)]; exact congrArg h (by omega)
  · rw [if_neg h1]
    by_cases h2 : b ≤ k ∧ k < b + n
    · rw [if_pos h2, if_pos (by omega)]
    · rw [if_neg h2, if_neg (by omega)]
theorem cpy_in {g h : Nat → Int32} {b c n k : Nat} (h1 : k < n) : cpy g h b c n (b + k) = h (c + k) := by unfold cpy; rw [if_pos (by omega)]; exact congrArg h (by omega)
theorem cpy_out {g h : Nat → Int32} {b c n k : Nat} (h1 : k < b ∨ b + n ≤ k) : cpy g h b c n k = g k := by unfold cpy; rw [if_neg (by omega)]
theorem cpy_sh {g : Nat → Int32} {b c n m : Nat} (h : b + n ≤ m) : cpy g g b c n m = g m := cpy_out (Or.inr h)
/-- the end of the reference's undo, q states being saved -/
def mUn (I : jI) (P : jP) (L : jL) (x q : Nat) : Option Value → jI → jP → jL → Prop := fun v I' P' L' => P' = P ∧ L' = L ∧ ∃ r, v = some (.int r) ∧ I' x 6 = nI (if q = 0 then 1 else 0) ∧ (∀ b, b < x ∨ x + 1 < b → I' b = I b) ∧ I' x 5 = I x 5 ∧ I' x 3 = nI (q - 1) ∧ (q ≠ 0 → r = nI (q - 1) ∧ ∀ k, k < 210 → I' (x + 1) k = I (x + 3) (210 * (q - 1) + k)) ∧ (q = 0 → I' (x + 1) = I (x + 1))
