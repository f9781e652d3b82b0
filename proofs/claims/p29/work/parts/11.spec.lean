/-! THE FLAT STATE: the reference's row of 210 ints, and what its methods do to it -/
abbrev sF : Type := Nat → Int32
def sgrams (f : sF) (o : Nat) : Int32 := (f (90 + 12 * o + 2) + nI 9) / nI 10
def ssum (g : Nat → Int32) : Nat → Int32 | 0 => nI 0 | n + 1 => ssum g n + g n
def sgood (f : sF) (o : Nat) : Int32 := ssum (fun w => f (90 + 12 * o + (6 + w))) 6
/-- the first place below n with p -/
def sfst (p : Nat → Bool) : Nat → Option Nat | 0 => none | n + 1 => match sfst p n with | some i => some i | none => if p n = true then some n else none
theorem sfst_up {p : Nat → Bool} {n i : Nat} (h : sfst p n = some i) : ∀ d, sfst p (n + d) = some i := by
  intro d
  induction d with
  | zero => exact h
  | succ d ih => show (match sfst p (n + d) with | some i => some i | none => if p (n + d) = true then some (n + d) else none) = some i; rw [ih]
theorem sfst_hit {p : Nat → Bool} {n : Nat} (h : sfst p n = none) (hp : p n = true) : sfst p (n + 1) = some n := by
  show (match sfst p n with | some i => some i | none => if p n = true then some n else none) = some n
  rw [h]; exact if_pos hp
theorem sfst_miss {p : Nat → Bool} {n : Nat} (h : sfst p n = none) (hp : ¬ p n = true) : sfst p (n + 1) = none := by
  show (match sfst p n with | some i => some i | none => if p n = true then some n else none) = none
  rw [h]; exact if_neg hp
theorem sfst_lt {p : Nat → Bool} : ∀ {n i : Nat}, sfst p n = some i → i < n ∧ p i = true := by
  intro n
  induction n with
  | zero => intro i h; cases h
  | succ n ih =>
    intro i h
    unfold sfst at h
    cases hq : sfst p n with
    | some j =>
      rw [hq] at h
      cases h
      exact ⟨Nat.lt_succ_of_lt (ih hq).1, (ih hq).2⟩
    | none =>
      rw [hq] at h
      by_cases hp : p n = true
      · simp only [hp, if_true] at h
        cases h
        exact ⟨Nat.lt_succ_self _, hp⟩
      · simp only [hp] at h
        cases h
theorem sfst_none {p : Nat → Bool} : ∀ {n : Nat}, sfst p n = none → ∀ i, i < n → p i = false := by
  intro n
  induction n with
  | zero => intro _ i h; exact absurd h (Nat.not_lt_zero i)
  | succ n ih =>
    intro h i hi
    unfold sfst at h
    cases hq : sfst p n with
    | some j => rw [hq] at h; cases h
    | none =>
      rw [hq] at h
      have hpn : ¬ p n = true := fun hp => by simp only [hp, if_true] at h; cases h
      rcases Nat.lt_or_ge i n with h1 | h1
      · exact ih hq i h1
      · have : i = n := by omega
        subst this
        simpa using hpn
def smany (f : sF) : Nat := (f 5).toNatClampNeg
def scol (f : sF) (o : Nat) : Nat := (f (90 + 12 * o + 1)).toNatClampNeg
def sspd (f : sF) (w : Nat) : Nat := (f (18 + 12 * w + 1)).toNatClampNeg
def splace (f : sF) (num : Int32) : Option Nat := sfst (fun o => decide (f (90 + 12 * o + 0) = num)) (smany f)
def sworth (f : sF) (o : Nat) : Int32 := if f 0 = 0 then nI 0 else if f 0 = nI 1 then f (90 + 12 * o + 2) else f (90 + 12 * o + 4)
def sfits (f : sF) (w o : Nat) : Prop := f (90 + 12 * o + 2) ≤ f (18 + 12 * w + 0)
def schosN (f : sF) (w : Nat) : Nat → Option Nat
  | 0 => none
  | o + 1 => match schosN f w o with
    | none => if f (90 + 12 * o + 2) ≤ f (18 + 12 * w + 0) then some o else none
    | some q => if f (90 + 12 * o + 2) ≤ f (18 + 12 * w + 0) ∧ sworth f q < sworth f o then some o else some q
def schos (f : sF) (w : Nat) : Option Nat := schosN f w (smany f)
theorem schosN_lt {f : sF} {w : Nat} : ∀ {n o : Nat}, schosN f w n = some o → o < n ∧ f (90 + 12 * o + 2) ≤ f (18 + 12 * w + 0) := by
  intro n
  induction n with
  | zero => intro o h; cases h
  | succ n ih =>
    intro o h
    unfold schosN at h
    cases hq : schosN f w n with
    | none =>
      rw [hq] at h
      by_cases hp : f (90 + 12 * n + 2) ≤ f (18 + 12 * w + 0)
      · simp only [hp, if_true] at h
        cases h
        exact ⟨Nat.lt_succ_self _, hp⟩
      · simp only [hp, if_false] at h
        cases h
    | some q =>
      rw [hq] at h
      by_cases hp : f (90 + 12 * n + 2) ≤ f (18 + 12 * w + 0) ∧ sworth f q < sworth f n
      · simp only [hp, and_self, if_true] at h
        cases h
        exact ⟨Nat.lt_succ_self _, hp.1⟩
      · simp only [hp, if_false] at h
        cases h
        exact ⟨Nat.lt_succ_of_lt (ih hq).1, (ih hq).2⟩
def slate (f : sF) (o : Nat) : Int32 := if f 4 ≤ f (90 + 12 * o + 5) then nI 0 else f 4 - f (90 + 12 * o + 5)
def sless (f : sF) (o : Nat) (len : Int32) : Int64 := (f (90 + 12 * o + 4)).toInt64 * len.toInt64 * (slate f o).toInt64 * (f 2).toInt64 / 100
def swhole (f : sF) (o : Nat) (len : Int32) : Int32 := if sless f o len ≤ (f (90 + 12 * o + 4)).toInt64 * len.toInt64 then ((f (90 + 12 * o + 4)).toInt64 * len.toInt64 - sless f o len).toInt32 else nI 0
def sdue (f : sF) (o : Nat) (whole len : Int32) (w : Nat) : Int32 := if len = 0 then nI 0 else whole * f (90 + 12 * o + (6 + w)) / len
def sleft (f : sF) (o : Nat) (whole len : Int32) : Nat → Int32 | 0 => whole | w + 1 => sleft f o whole len w - sdue f o whole len w
def smost (f : sF) (o : Nat) : Nat → Nat | 0 => 0 | w + 1 => if f (90 + 12 * o + (6 + w)) ≤ f (90 + 12 * o + (6 + smost f o w)) then smost f o w else w
theorem smost_le (f : sF) (o : Nat) : ∀ w, smost f o w ≤ w - 1 := by
  intro w
  induction w with
  | zero => exact Nat.le_refl _
  | succ w ih => unfold smost; split <;> omega
/-- the row of what is due, over the row that was there -/
def sdues (f : sF) (o : Nat) (whole len : Int32) (n : Nat) (du : Nat → Int32) : Nat → Int32 := fun w => if w < n then sdue f o whole len w else du w
def sshares (f : sF) (o : Nat) (whole len : Int32) (du : Nat → Int32) : Nat → Int32 := upd (sdues f o whole len 6 du) (smost f o 6) (sdues f o whole len 6 du (smost f o 6) + (if len = 0 then nI 0 else sleft f o whole len 6))
def spay1 (f : sF) (du : Nat → Int32) (w : Nat) : sF :=
  let g := if f 3 = 0 then f (18 + 12 * w + 3) else if du w / f 3 ≤ f (18 + 12 * w + 3) then du w / f 3 else f (18 + 12 * w + 3)
  let f1 := upd f (18 + 12 * w + 3) (f (18 + 12 * w + 3) + -g)
  upd f1 (18 + 12 * w + 4) (f1 (18 + 12 * w + 4) + (du w - g * f1 3))
def spayN (f : sF) (du : Nat → Int32) : Nat → sF | 0 => f | w + 1 => spay1 (spayN f du w) du w
def sgoes (f : sF) (o : Nat) : sF := fun k => if 90 + 12 * o ≤ k ∧ k < 90 + 12 * (smany f - 1) then f (k + 12) else upd f 5 (f 5 - nI 1) k
def spays (f : sF) (o : Nat) (du : Nat → Int32) : sF :=
  let f1 := spayN f du 6
  let f2 := upd f1 7 (f1 7 + nI 1)
  let f3 := upd f2 8 (f2 8 + (if slate f2 o ≤ 0 then nI 0 else nI 1))
  let f4 := upd f3 9 (f3 9 + swhole f o (f (90 + 12 * o + 3)))
  sgoes f4 o
def stake (f : sF) (w o : Nat) : Option sF :=
  if sgrams f o ≤ f (18 + 12 * w + (8 + scol f o)) then
    let f1 := upd f (18 + 12 * w + (8 + scol f o)) (f (18 + 12 * w + (8 + scol f o)) + -sgrams f o)
    some (upd f1 12 (f1 12 + sgrams f o))
  else if f 1 = nI 1 ∧ sgrams f o ≤ f (14 + scol f o) then
    let f1 := upd f (14 + scol f o) (f (14 + scol f o) - sgrams f o)
    let f2 := upd f1 (18 + 12 * w + 3) (f1 (18 + 12 * w + 3) + sgrams f o)
    let f3 := upd f2 (18 + 12 * w + 7) (f2 (18 + 12 * w + 7) + sgrams f o)
    some (upd f3 12 (f3 12 + sgrams f o))
  else none
def smake (f : sF) (w o : Nat) : sF :=
  let f1 := upd f (18 + 12 * w + 5) (f (18 + 12 * w + 5) + nI 1)
  let f2 := upd f1 10 (f1 10 + nI 1)
  if 0 < f2 (18 + 12 * w + 2) ∧ f2 (18 + 12 * w + 5) - f2 (18 + 12 * w + 5) / f2 (18 + 12 * w + 2) * f2 (18 + 12 * w + 2) = 0 then
    let f3 := upd f2 (18 + 12 * w + 6) (f2 (18 + 12 * w + 6) + nI 1)
    upd f3 11 (f3 11 + nI 1)
  else upd f2 (90 + 12 * o + 6 + w) (f2 (90 + 12 * o + 6 + w) + nI 1)
