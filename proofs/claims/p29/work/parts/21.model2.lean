theorem va_up_s {α : Type} {f : Nat → α} {a : Nat} {g : α} : va_up f a g a = g := by simp [va_up]
theorem va_up_n {α : Type} {f : Nat → α} {a b : Nat} {g : α} (h : b ≠ a) : va_up f a g b = f b := by simp [va_up, h]
theorem va_up_u {α : Type} {f : Nat → α} {a : Nat} {g g' : α} : va_up (va_up f a g) a g' = va_up f a g' := by funext j; simp only [va_up]; split <;> rfl
theorem va_up_id {α : Type} {f : Nat → α} {a : Nat} : va_up f a (f a) = f := by funext j; simp only [va_up]; split <;> simp_all
theorem va_up_c {α : Type} {f : Nat → α} {a b : Nat} {g h : α} (hn : a ≠ b) : va_up (va_up f a g) b h = va_up (va_up f b h) a g := by
  funext j; simp only [va_up]; by_cases h1 : j = a
  · subst h1; simp [hn]
  · simp [h1]
theorem jst_up {I : jI} {a k : Nat} {x : Int32} {g : Nat → Int32} : jst (va_up I a g) a k x = va_up I a (upd g k x) := by unfold jst; rw [va_up_s, va_up_u]
theorem sdues_s {f : sF} {o : Nat} {whole len : Int32} {w : Nat} {du : Nat → Int32} : upd (sdues f o whole len w du) w (sdue f o whole len w) = sdues f o whole len (w + 1) du := by
  funext j
  simp only [upd, sdues]
  by_cases h1 : j = w
  · subst h1; simp
  · by_cases h2 : j < w
    · simp [h1, h2, show j < w + 1 by omega]
    · simp [h1, h2, show ¬ j < w + 1 by omega]
theorem sdues_w {f : sF} {o : Nat} {whole len : Int32} {w n : Nat} {du : Nat → Int32} (h : w < n) : sdues f o whole len n du w = sdue f o whole len w := if_pos h
def sgoN (f : sF) (o n : Nat) : sF := fun k => if 90 + 12 * o ≤ k ∧ k < n then f (k + 12) else upd f 5 (f 5 - nI 1) k
theorem sgoN_0 {f : sF} {o n : Nat} (h : n ≤ 90 + 12 * o) : sgoN f o n = upd f 5 (f 5 - nI 1) := by
  funext k; unfold sgoN; rw [if_neg (by omega)]
theorem sgoN_s {f : sF} {o n : Nat} (h : 90 + 12 * o ≤ n) : upd (sgoN f o n) n (f (n + 12)) = sgoN f o (n + 1) := by
  funext k
  simp only [upd, sgoN]
  by_cases h1 : k = n
  · subst h1; simp [h]
  · by_cases h2 : 90 + 12 * o ≤ k ∧ k < n
    · simp [h1, h2, show k < n + 1 by omega]
    · simp [h1, h2, show ¬ (90 + 12 * o ≤ k ∧ k < n + 1) by omega]
theorem sgoN_e {f : sF} {o n k : Nat} (hk : ¬ k < n) (h5 : k ≠ 5) : sgoN f o n k = f k := by
  unfold sgoN; rw [if_neg (by omega)]; exact if_neg h5
