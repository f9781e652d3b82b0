def sput (f : sF) (rows : Nat → Nat → Nat) : Nat → sF | 0 => f | n + 1 => scomes (sput f rows n) (nI (rows n 2)) (nI (rows n 1)) (nI (rows n 0)) (nI (rows n 3)) (nI (rows n 4))
theorem sput_5 {f : sF} {rows : Nat → Nat → Nat} (h : f 5 = nI (smany f)) : ∀ {n}, smany f + n ≤ 100 → (sput f rows n) 5 = nI (smany f + n) := by
  intro n
  induction n with
  | zero => intro _; exact h
  | succ n ih =>
    intro hn
    show (scomes (sput f rows n) (nI (rows n 2)) (nI (rows n 1)) (nI (rows n 0)) (nI (rows n 3)) (nI (rows n 4))) 5 = _
    unfold scomes
    rw [if_neg (by omega), if_neg (by omega), upd_n (by decide), upd_s, ih (by omega), nI_add]
    rfl
theorem sput_m {f : sF} {rows : Nat → Nat → Nat} (h : f 5 = nI (smany f)) {n : Nat} (hn : smany f + n ≤ 100) : smany (sput f rows n) = smany f + n := by
  show ((sput f rows n) 5).toNatClampNeg = _
  rw [sput_5 h hn]
  exact nI_clamp (by omega)
