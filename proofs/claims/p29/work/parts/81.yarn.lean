/-! YARN: what is in shares and the store, added up as the law does; it is kept with what was used -/
theorem i32_r1 (a v : Int32) : a + (v - a) = v := by
  apply Int32.toBitVec_inj.mp
  simp only [Int32.toBitVec_sub, Int32.toBitVec_add]
  rw [BitVec.add_comm]
  exact BitVec.sub_add_cancel _ _
theorem i32_r2 (a b c g : Int32) : a + (b + -g - b) + (c + g) = a + c := by grind
theorem i32_r3 (a b g : Int32) : a + (b - g - b) + g = a := by grind
theorem i32_r4 (a b c g : Int32) : a + (b - g - b) + (c + g) = a + c := by grind
theorem i32_r5 (a b c g : Int32) : a + (b + -g - b) + (c + g - c) = a := by grind
theorem i32_r6 (a b c : Int32) : a - b - c = a - (b + c) := by grind
theorem i32_r7 (a b : Int32) : a = b + (a - b) := by grind
theorem ssum_ch {g g2 : Nat → Int32} {w : Nat} {d : Int32} (hw : g2 w = g w + d) : ∀ n, (∀ v, v < n → v ≠ w → g2 v = g v) → (w < n → ssum g2 n = ssum g n + d) ∧ (¬ w < n → ssum g2 n = ssum g n) := by
  intro n
  induction n with
  | zero => exact fun _ => ⟨fun h => absurd h (Nat.not_lt_zero w), fun _ => rfl⟩
  | succ n ih =>
    intro ho
    have ih := ih (fun v hv => ho v (by omega))
    refine ⟨fun h => ?_, fun h => ?_⟩
    · show ssum g2 n + g2 n = ssum g n + g n + d
      by_cases he : w = n
      · subst he
        rw [ih.2 (Nat.lt_irrefl w), hw, Int32.add_assoc]
      · rw [ih.1 (by omega), ho n (by omega) (Ne.symm he), Int32.add_assoc, Int32.add_assoc, Int32.add_comm d]
    · show ssum g2 n + g2 n = ssum g n + g n
      rw [ih.2 (by omega), ho n (by omega) (by omega)]
/-- the place of the j-th share: the store's, then the weavers', colour by colour -/
def yP (j : Nat) : Nat := if j % 7 = 0 then 14 + j / 7 else 18 + 12 * (j % 7 - 1) + (8 + j / 7)
def yS (f : sF) (n : Nat) : Int32 := ssum (fun j => f (yP j)) n
/-- all yarn, with what was used -/
def yT (f : sF) : Int32 := yS f 28 + f 12
theorem yP_store {c : Nat} (hc : c < 4) : yP (7 * c) = 14 + c := by unfold yP; rw [if_pos (by omega)]; omega
theorem yP_share {w c : Nat} (hw : w < 6) (hc : c < 4) : yP (7 * c + (w + 1)) = 18 + 12 * w + (8 + c) := by unfold yP; rw [if_neg (by omega)]; omega
theorem yP_inj {j k : Nat} (hj : j < 28) (hk : k < 28) (h : yP j = yP k) : j = k := by
  unfold yP at h
  split at h <;> split at h <;> omega
/-- which places they are -/
theorem yP_r {j : Nat} (hj : j < 28) : (14 ≤ yP j ∧ yP j < 18) ∨ ∃ w c, w < 6 ∧ c < 4 ∧ yP j = 18 + 12 * w + (8 + c) := by
  by_cases h : j % 7 = 0
  · refine Or.inl ?_
    unfold yP
    rw [if_pos h]
    omega
  · refine Or.inr ⟨j % 7 - 1, j / 7, by omega, by omega, ?_⟩
    unfold yP
    rw [if_neg h]
theorem yS_up {f : sF} {j k : Nat} {v : Int32} (hj : j < 28) (hk : k = yP j) : yS (upd f k v) 28 = yS f 28 + (v - f k) := by
  subst hk
  exact (ssum_ch (w := j) (d := v - f (yP j)) (by show upd f (yP j) v (yP j) = _; rw [upd_s]; exact i32_r7 _ _) 28 (fun i hi hne => upd_n (fun z => hne (yP_inj hi hj z)))).1 hj
theorem yS_same {f g : sF} (h1 : ∀ c, c < 4 → g (14 + c) = f (14 + c)) (h2 : ∀ w c, w < 6 → c < 4 → g (18 + 12 * w + (8 + c)) = f (18 + 12 * w + (8 + c))) : yS g 28 = yS f 28 := by
  refine ssum_c (fun j hj => ?_)
  rcases yP_r hj with h | ⟨w, c, hw, hc, e⟩
  · show g (yP j) = f (yP j)
    rw [show yP j = 14 + (yP j - 14) by omega]
    exact h1 _ (by omega)
  · show g (yP j) = f (yP j)
    rw [e]
    exact h2 w c hw hc
theorem yS_un {f : sF} {k : Nat} {v : Int32} (h : ∀ j, j < 28 → yP j ≠ k) : yS (upd f k v) 28 = yS f 28 := ssum_c (fun j hj => upd_n (h j hj))
theorem yP_12 {j : Nat} (hj : j < 28) : yP j ≠ 12 := by rcases yP_r hj with h | ⟨w, c, hw, hc, e⟩ <;> omega
/-- nothing of it changes -/
theorem yT_same {f g : sF} (h1 : ∀ c, c < 4 → g (14 + c) = f (14 + c)) (h2 : ∀ w c, w < 6 → c < 4 → g (18 + 12 * w + (8 + c)) = f (18 + 12 * w + (8 + c))) (h3 : g 12 = f 12) : yT g = yT f := by
  unfold yT
  rw [yS_same h1 h2, h3]
theorem yT_take {f f1 : sF} {w o : Nat} (hc : scol f o < 4) (hw : w < 6) (ht : stake f w o = some f1) : yT f1 = yT f := by
  unfold stake at ht
  split at ht
  · cases ht
    unfold yT
    rw [yS_un (fun j hj => yP_12 hj), yS_up (j := 7 * scol f o + (w + 1)) (by omega) (yP_share hw hc).symm, upd_s, upd_n (by omega)]
    exact i32_r2 _ _ _ _
  · split at ht
    · cases ht
      have n3 : ∀ j, j < 28 → yP j ≠ 18 + 12 * w + 3 := fun j hj => by rcases yP_r hj with h | ⟨w2, c, hw2, hc2, e⟩ <;> omega
      have n7 : ∀ j, j < 28 → yP j ≠ 18 + 12 * w + 7 := fun j hj => by rcases yP_r hj with h | ⟨w2, c, hw2, hc2, e⟩ <;> omega
      unfold yT
      rw [yS_un (fun j hj => yP_12 hj), yS_un n7, yS_un n3, yS_up (j := 7 * scol f o) (by omega) (yP_store hc).symm, upd_s, upd_n (by omega), upd_n (by omega), upd_n (by omega)]
      exact i32_r4 _ _ _ _
    · cases ht
theorem yT_give {f : sF} {w v c : Nat} {g : Int32} (hw : w < 6) (hv : v < 6) (hc : c < 4) (hne : w ≠ v) : yT (upd (upd f (18 + 12 * w + (8 + c)) (f (18 + 12 * w + (8 + c)) + -g)) (18 + 12 * v + (8 + c)) (f (18 + 12 * v + (8 + c)) + g)) = yT f := by
  unfold yT
  rw [yS_up (j := 7 * c + (v + 1)) (by omega) (yP_share hv hc).symm, yS_up (j := 7 * c + (w + 1)) (by omega) (yP_share hw hc).symm, upd_n (by omega), upd_n (by omega), upd_n (by omega)]
  rw [i32_r5]
