theorem smany_u {f : sF} {k : Nat} {v : Int32} (h : 5 ≠ k) : smany (upd f k v) = smany f := by unfold smany; rw [upd_n h]
def wg (f : sF) (w : Nat) : Prop := 0 < f (18 + 12 * w + 2) ∧ (f (18 + 12 * w + 5) + nI 1) - (f (18 + 12 * w + 5) + nI 1) / f (18 + 12 * w + 2) * f (18 + 12 * w + 2) = 0
theorem smake_y {f : sF} {w o : Nat} (h : wg f w) : smake f w o = upd (upd (upd (upd f (18 + 12 * w + 5) (f (18 + 12 * w + 5) + nI 1)) 10 (upd f (18 + 12 * w + 5) (f (18 + 12 * w + 5) + nI 1) 10 + nI 1)) (18 + 12 * w + 6) (f (18 + 12 * w + 6) + nI 1)) 11 (f 11 + nI 1) := by
  unfold smake
  dsimp only
  rw [if_pos]
  · rw [upd_n (show 11 ≠ 18 + 12 * w + 6 by omega), upd_n (show 11 ≠ 10 by omega), upd_n (show 11 ≠ 18 + 12 * w + 5 by omega), upd_n (show 18 + 12 * w + 6 ≠ 10 by omega), upd_n (show 18 + 12 * w + 6 ≠ 18 + 12 * w + 5 by omega)]
  · rw [upd_n (show 18 + 12 * w + 2 ≠ 10 by omega), upd_n (show 18 + 12 * w + 2 ≠ 18 + 12 * w + 5 by omega), upd_n (show 18 + 12 * w + 5 ≠ 10 by omega), upd_s]
    exact h
theorem smake_n {f : sF} {w o : Nat} (h : ¬ wg f w) (hw : w < 6) : smake f w o = upd (upd (upd f (18 + 12 * w + 5) (f (18 + 12 * w + 5) + nI 1)) 10 (upd f (18 + 12 * w + 5) (f (18 + 12 * w + 5) + nI 1) 10 + nI 1)) (90 + 12 * o + 6 + w) (f (90 + 12 * o + 6 + w) + nI 1) := by
  unfold smake
  dsimp only
  rw [if_neg]
  · rw [upd_n (show 90 + 12 * o + 6 + w ≠ 10 by omega), upd_n (show 90 + 12 * o + 6 + w ≠ 18 + 12 * w + 5 by omega)]
  · rw [upd_n (show 18 + 12 * w + 2 ≠ 10 by omega), upd_n (show 18 + 12 * w + 2 ≠ 18 + 12 * w + 5 by omega), upd_n (show 18 + 12 * w + 5 ≠ 10 by omega), upd_s]
    exact h
theorem spf_w {f : sF} {o p n : Nat} {len : Int32} (hp : f (90 + 12 * o + 4) = nI p) (h99 : p ≤ 99) (hn : len = nI n) (h200 : n ≤ 200) : spf (f (90 + 12 * o + 4) * len) (slate f o) (f 2) = swhole f o len := by
  have hpn : p * n ≤ 99 * 200 := Nat.mul_le_mul h99 h200
  have e : (f (90 + 12 * o + 4) * len).toInt64 = (f (90 + 12 * o + 4)).toInt64 * len.toInt64 := by
    rw [hp, hn, pk_mul]
    refine Int64.toInt_inj.mp ?_
    rw [Int32.toInt_toInt64, nI_toInt (by omega), Int64.toInt_mul, Int32.toInt_toInt64, Int32.toInt_toInt64, nI_toInt (by omega), nI_toInt (by omega)]
    rw [← Int.natCast_mul]
    generalize p * n = q at hpn
    rw [Int.bmod_def]
    omega
  unfold spf swhole sless
  rw [e]
  generalize (f (90 + 12 * o + 4)).toInt64 * len.toInt64 = all at e ⊢
  generalize all * (slate f o).toInt64 * (f 2).toInt64 / 100 = less
  have e2 : all.toInt32 = f (90 + 12 * o + 4) * len := by rw [← e]; exact Int32.toInt32_toInt64 _
  by_cases h : less < all
  · rw [if_pos h, if_pos (Int64.le_of_lt h), Int64.toInt32_sub, e2]
  · rw [if_neg h]
    by_cases h2 : less ≤ all
    · have h3 : less = all := Int64.le_antisymm h2 (Int64.not_lt.mp h)
      rw [if_pos h2, h3, Int64.sub_self]; rfl
    · rw [if_neg h2]
theorem swhole_0 {f : sF} {o : Nat} {len : Int32} (h : len = 0) : swhole f o len = nI 0 := by
  subst h
  unfold swhole sless
  rw [show (0 : Int32).toInt64 = 0 from rfl, Int64.mul_zero, Int64.zero_mul, Int64.zero_mul]
  rw [if_pos (by decide)]
  rfl
theorem spay_g {f : sF} {du : Nat → Int32} {w : Nat} (h3 : 0 ≤ f 3) : (if 0 < f 3 then smin (f (18 + 12 * w + 3)) (du w / f 3) else f (18 + 12 * w + 3)) = (if f 3 = 0 then f (18 + 12 * w + 3) else if du w / f 3 ≤ f (18 + 12 * w + 3) then du w / f 3 else f (18 + 12 * w + 3)) := by
  by_cases h : f 3 = 0
  · rw [if_pos h, if_neg (by rw [h]; decide)]
  · rw [if_neg h, if_pos (by
      have h1 : ¬ (f 3).toInt = (0 : Int32).toInt := fun z => h (Int32.toInt_inj.mp z)
      rw [i32_le] at h3
      rw [i32_lt]
      omega)]
    unfold smin
    by_cases h1 : du w / f 3 < f (18 + 12 * w + 3)
    · rw [if_pos h1, if_pos (by rw [i32_lt] at h1; rw [i32_le]; omega)]
    · rw [if_neg h1]
      by_cases h2 : du w / f 3 ≤ f (18 + 12 * w + 3)
      · rw [if_pos h2]
        refine Int32.toInt_inj.mp ?_
        rw [i32_lt] at h1
        rw [i32_le] at h2
        omega
      · rw [if_neg h2]
theorem spay_e {f : sF} {du : Nat → Int32} {w : Nat} {g : Int32} (hg : g = if f 3 = 0 then f (18 + 12 * w + 3) else if du w / f 3 ≤ f (18 + 12 * w + 3) then du w / f 3 else f (18 + 12 * w + 3)) : spay1 f du w = upd (upd f (18 + 12 * w + 3) (f (18 + 12 * w + 3) - g)) (18 + 12 * w + 4) (f (18 + 12 * w + 4) + (du w - g * f 3)) := by
  unfold spay1
  dsimp only
  rw [← hg, upd_n (show 18 + 12 * w + 4 ≠ 18 + 12 * w + 3 by omega), upd_n (show 3 ≠ 18 + 12 * w + 3 by omega), ← Int32.sub_eq_add_neg (f (18 + 12 * w + 3)) g]
theorem slate_e {f g : sF} {o : Nat} (h4 : g 4 = f 4) (h5 : g (90 + 12 * o + 5) = f (90 + 12 * o + 5)) : slate g o = slate f o := by unfold slate; rw [h4, h5]
theorem spaysA_p {f : sF} {o k : Nat} {du : Nat → Int32} (ho : o < 10) : spaysA f o du k = upd (upd (upd (spayN f du 6) 9 (spayN f du 6 9 + swhole f o (f (90 + 12 * o + 3)))) 7 (spayN f du 6 7 + nI 1)) 8 (spayN f du 6 8 + (if slate f o ≤ 0 then nI 0 else nI 1)) k := by
  have hl : slate (upd (spayN f du 6) 7 (spayN f du 6 7 + nI 1)) o = slate f o := slate_e (by rw [upd_n (by decide)]; exact spayN_k (fun w hw => ⟨by omega, by omega⟩)) (by rw [upd_n (by omega)]; exact spayN_k (fun w hw => ⟨by omega, by omega⟩))
  unfold spaysA
  rw [hl, upd_n (show 8 ≠ 7 by decide), upd_n (show 9 ≠ 8 by decide), upd_n (show 9 ≠ 7 by decide)]
  generalize spayN f du 6 = g
  generalize swhole f o (f (90 + 12 * o + 3)) = q
  generalize (if slate f o ≤ 0 then nI 0 else nI 1) = t
  by_cases h9 : k = 9
  · rw [h9, upd_s, upd_n (show 9 ≠ 8 by decide), upd_n (show 9 ≠ 7 by decide), upd_s]
  · rw [upd_n h9]
    by_cases h8 : k = 8
    · rw [h8, upd_s, upd_s]
    · rw [upd_n h8, upd_n h8]
      by_cases h7 : k = 7
      · rw [h7, upd_s, upd_s]
      · rw [upd_n h7, upd_n h7, upd_n h9]
/-- the decimetres that an hour weaves -/
def swork (f : sF) : Nat → Nat | 0 => 0 | w + 1 => swork f w + (if 0 < shourN f w (18 + 12 * w + 0) then (sweaves (shourN f w) w).2 else 0)
theorem swv_m {w o : Nat} : ∀ (r : Nat) (f : sF), (swv w o r f).2 ≤ r := by
  intro r
  induction r with
  | zero => intro f; exact Nat.le_refl 0
  | succ r ih =>
    intro f
    unfold swv
    cases ht : stake f w o with
    | none => exact Nat.zero_le _
    | some f1 =>
      dsimp only
      split
      · exact Nat.succ_le_succ (Nat.zero_le _)
      · exact Nat.succ_le_succ (ih _)
theorem sweaves_2 {f : sF} {w : Nat} (h : sOK f) (hw : w < 6) : (sweaves f w).2 ≤ 9 := by
  unfold sweaves
  cases schos f w with
  | none => exact Nat.zero_le _
  | some o => exact Nat.le_trans (swv_m _ _) (h.2.2.2 w hw).2
theorem swork_le {f : sF} (h : sOK f) : ∀ n, n ≤ 6 → swork f n ≤ 9 * n := by
  intro n
  induction n with
  | zero => intro _; exact Nat.le_refl 0
  | succ n ih =>
    intro hn
    have h1 := ih (by omega)
    have h2 := sweaves_2 (shourN_OK h n (by omega)) (show n < 6 by omega)
    show swork f n + (if _ then _ else _) ≤ _
    split <;> omega
/-- the same but for the hours and the idle looms -/
def sQ (f g : sF) : Prop := ∀ k, k < 210 → k ≠ 4 → k ≠ 13 → f k = g k
theorem sQ.rf {f : sF} : sQ f f := fun _ _ _ _ => rfl
theorem sQ.sy {f g : sF} (h : sQ f g) : sQ g f := fun k a b c => (h k a b c).symm
theorem sQ.tr {f g h : sF} (a : sQ f g) (b : sQ g h) : sQ f h := fun k h1 h2 h3 => (a k h1 h2 h3).trans (b k h1 h2 h3)
/-- orders bubble -/
def rowb {α : Type} (r : Nat → α) (o m : Nat) : Nat → α := fun j => if j < o then r j else if j < m then r (j + 1) else if j = m then r o else r j
theorem rowb_0 {α : Type} {r : Nat → α} {o : Nat} : rowb r o o = r := by
  funext j
  unfold rowb
  by_cases h1 : j < o
  · rw [if_pos h1]
  · rw [if_neg h1, if_neg h1]
    by_cases h2 : j = o
    · rw [if_pos h2, h2]
    · rw [if_neg h2]
theorem rowb_m {α : Type} {r : Nat → α} {o m : Nat} (h : o ≤ m) : rowb r o m m = r o := by unfold rowb; rw [if_neg (by omega), if_neg (by omega), if_pos rfl]
theorem rowb_m1 {α : Type} {r : Nat → α} {o m : Nat} (h : o ≤ m) : rowb r o m (m + 1) = r (m + 1) := by unfold rowb; rw [if_neg (by omega), if_neg (by omega), if_neg (by omega)]
theorem rowb_s {α : Type} {r : Nat → α} {o m : Nat} (h : o ≤ m) : va_up (va_up (rowb r o m) m (r (m + 1))) (m + 1) (r o) = rowb r o (m + 1) := by
  funext j
  simp only [va_up, rowb]
  by_cases h1 : j = m + 1
  · subst h1; simp [show ¬ m + 1 < o by omega]
  · by_cases h2 : j = m
    · subst h2; simp [show ¬ j < o by omega]
    · by_cases h3 : j < o
      · simp [h1, h2, h3]
      · by_cases h4 : j < m
        · simp [h1, h2, h3, h4, show j < m + 1 by omega]
        · simp [h1, h2, h3, h4, show ¬ j < m + 1 by omega]
theorem jstP_up {P : jP} {a k : Nat} {x : Option Nat} {g : Nat → Option Nat} : jstP (va_up P a g) a k x = va_up P a (va_up g k x) := by unfold jstP; rw [va_up_s, va_up_u]
def ogb (og : Nat → Nat) (o : Nat) : Nat → Nat := rowb og o 9
theorem ogb_G {P : jP} {h o : Nat} {og : Nat → Nat} (G : hG P h og) (ho : o < 10) : hG (va_up P (h + 2) (rowb (P (h + 2)) o 9)) h (ogb og o) := by
  refine ⟨fun j hj => ?_, fun i j hi hj he => ?_⟩
  · rw [va_up_s]
    unfold ogb rowb
    by_cases h1 : j < o
    · rw [if_pos h1, if_pos h1]; exact G.1 j hj
    · rw [if_neg h1, if_neg h1]
      by_cases h2 : j < 9
      · rw [if_pos h2, if_pos h2]; exact G.1 (j + 1) (by omega)
      · rw [if_neg h2, if_neg h2, if_pos (by omega), if_pos (by omega)]; exact G.1 o ho
  · unfold ogb rowb at he
    have K : ∀ a b, a < 10 → b < 10 → og a = og b → a = b := G.2
    by_cases h1 : i < o <;> by_cases h2 : j < o <;> simp only [h1, h2, if_true, if_false] at he
    · exact K i j hi hj he
    · by_cases h3 : j < 9
      · rw [if_pos h3] at he; have := K _ _ (by omega) (by omega) he; omega
      · rw [if_neg h3, if_pos (by omega)] at he; have := K _ _ (by omega) (by omega) he; omega
    · by_cases h3 : i < 9
      · rw [if_pos h3] at he; have := K _ _ (by omega) (by omega) he; omega
      · rw [if_neg h3, if_pos (by omega)] at he; have := K _ _ (by omega) (by omega) he; omega
    · by_cases h3 : i < 9 <;> by_cases h4 : j < 9 <;> simp only [h3, h4, if_true, if_false] at he
      · have := K _ _ (by omega) (by omega) he; omega
      · rw [if_pos (by omega)] at he; have := K _ _ (by omega) (by omega) he; omega
      · rw [if_pos (by omega)] at he; have := K _ _ (by omega) (by omega) he; omega
      · omega
theorem ogb_R {I : jI} {h o : Nat} {og : Nat → Nat} {f : sF} (H : hR I h og f) (hm : f 5 = nI (smany f)) (hk : smany f ≤ 10) (hg : ∀ j, j < 10 → og j < 10) (ho : o < smany f) : hR (jst I h 5 (f 5 - nI 1)) h (ogb og o) (sgoes f o) := by
  have e5 : smany (sgoes f o) = smany f - 1 := by
    show (sgoes f o 5).toNatClampNeg = _
    unfold sgoes
    rw [if_neg (by omega), upd_s, hm, pk_sub (by omega), nI_clamp (by omega)]
  have ek : ∀ k, k < 90 → k ≠ 5 → sgoes f o k = f k := fun k k1 k2 => by unfold sgoes; rw [if_neg (by omega), upd_n k2]
  have e55 : sgoes f o 5 = f 5 - nI 1 := by unfold sgoes; rw [if_neg (by omega), upd_s]
  obtain ⟨H1, H2, H3, H4, ⟨a5, a6, a7, a8, a9, a10, a11, a12⟩, H6⟩ := H
  refine ⟨fun w k h1 h2 => ?_, fun w c h1 h2 => ?_, fun c h1 => ?_, fun k h1 => ?_, ⟨?_, ?_, ?_, ?_, ?_, ?_, ?_, ?_⟩, fun q hq => ?_⟩
  · rw [jst_ne (by omega), ek _ (by omega) (by omega)]; exact H1 w k h1 h2
  · rw [jst_ne (by omega), ek _ (by omega) (by omega)]; exact H2 w c h1 h2
  · rw [jst_ne (by omega), ek _ (by omega) (by omega)]; exact H3 c h1
  · rw [jst_ne (by omega), ek _ (by omega) (by omega)]; exact H4 k h1
  · rw [jst_eq, upd_s, e55]
  · rw [jst_eq, upd_n (by decide), ek _ (by omega) (by omega)]; exact a6
  · rw [jst_eq, upd_n (by decide), ek _ (by omega) (by omega)]; exact a7
  · rw [jst_eq, upd_n (by decide), ek _ (by omega) (by omega)]; exact a8
  · rw [jst_eq, upd_n (by decide), ek _ (by omega) (by omega)]; exact a9
  · rw [jst_eq, upd_n (by decide), ek _ (by omega) (by omega)]; exact a10
  · rw [jst_eq, upd_n (by decide), ek _ (by omega) (by omega)]; exact a11
  · rw [jst_eq, upd_n (by decide), ek _ (by omega) (by omega)]; exact a12
  · rw [e5] at hq
    by_cases hqo : q < o
    · have e : ∀ k, k < 12 → sgoes f o (90 + 12 * q + k) = f (90 + 12 * q + k) := fun k hk2 => by unfold sgoes; rw [if_neg (by omega), upd_n (by omega)]
      have eo : ogb og o q = og q := by unfold ogb rowb; rw [if_pos hqo]
      have hgq := hg q (by omega)
      rw [eo]
      refine ⟨fun k hk2 => ?_, ?_, fun w hw => ?_⟩
      · rw [jst_ne (by omega), e k (by omega)]; exact (H6 q (by omega)).1 k hk2
      · rw [jst_ne (by omega), sgood_e (fun w hw => e _ (by omega))]; exact (H6 q (by omega)).2.1
      · rw [jst_ne (by omega), e _ (by omega)]; exact (H6 q (by omega)).2.2 w hw
    · have e : ∀ k, k < 12 → sgoes f o (90 + 12 * q + k) = f (90 + 12 * (q + 1) + k) := fun k hk2 => by
        unfold sgoes
        rw [if_pos (by omega)]
        exact congrArg f (by omega)
      have eo : ogb og o q = og (q + 1) := by unfold ogb rowb; rw [if_neg hqo, if_pos (by omega)]
      have hgq := hg (q + 1) (by omega)
      rw [eo]
      refine ⟨fun k hk2 => ?_, ?_, fun w hw => ?_⟩
      · rw [jst_ne (by omega), e k (by omega)]; exact (H6 (q + 1) (by omega)).1 k hk2
      · rw [jst_ne (by omega), show sgood (sgoes f o) q = sgood f (q + 1) from ssum_c (fun w hw => e _ (by omega))]; exact (H6 (q + 1) (by omega)).2.1
      · rw [jst_ne (by omega), e _ (by omega)]; exact (H6 (q + 1) (by omega)).2.2 w hw
