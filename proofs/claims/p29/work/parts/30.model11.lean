/-- what the text's methods change -/
def mTx (I : jI) (x : Nat) (I' : jI) : Prop := (∀ b, b ≠ x → b ≠ x + 5 → I' b = I b) ∧ ∀ k, k ≠ 7 → k ≠ 8 → k ≠ 9 → k ≠ 11 → I' x k = I x k
theorem mTx.tr {I I1 I2 : jI} {x : Nat} (h : mTx I x I1) (h2 : mTx I1 x I2) : mTx I x I2 := ⟨fun b a c => (h2.1 b a c).trans (h.1 b a c), fun k a b c d => (h2.2 k a b c d).trans (h.2 k a b c d)⟩
