theorem schosN_n {f : sF} {w i : Nat} (h : schosN f w i = none) : schosN f w (i + 1) = if f (90 + 12 * i + 2) ≤ f (18 + 12 * w + 0) then some i else none := by
  show (match schosN f w i with | none => _ | some q => _) = _
  rw [h]
theorem schosN_s {f : sF} {w i q : Nat} (h : schosN f w i = some q) : schosN f w (i + 1) = if f (90 + 12 * i + 2) ≤ f (18 + 12 * w + 0) ∧ sworth f q < sworth f i then some i else some q := by
  show (match schosN f w i with | none => _ | some q => _) = _
  rw [h]
