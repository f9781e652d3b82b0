theorem jN_mono {l : Launch} {D : va_G} {cA : Nat → ClassId} {N0 lv maxL : Nat} {y : MethodName} {cc : ByteArray} {ret : Option FieldType} {av : List Value} {Sh : jS} {I : jI} {P : jP} {L : jL} {Q Q' : Option Value → jI → jP → jL → Prop} (h : jN l D cA N0 lv y cc maxL ret av Sh I P L Q) (hq : ∀ v I' P' L', Q v I' P' L' → Q' v I' P' L') : jN l D cA N0 lv y cc maxL ret av Sh I P L Q' := by
  intro p e ha h1 h2 s m args below h3 h4 h5 h6
  obtain ⟨n, o, a1, a2, a3, ⟨⟨⟨v, Sh', I', P', L', b1, ⟨b2, b3⟩, b4⟩, b5⟩, a5⟩⟩ := h p e ha h1 h2 s m args below h3 h4 h5 h6
  exact ⟨n, o, a1, a2, a3, ⟨⟨⟨v, Sh', I', P', L', b1, ⟨b2, hq _ _ _ _ b3⟩, b4⟩, b5⟩, a5⟩⟩
theorem smany_u {f : sF} {k : Nat} {v : Int32} (h : 5 ≠ k) : smany (upd f k v) = smany f := by unfold smany; rw [upd_n h]
def wg (f : sF) (w : Nat) : Prop := 0 < f (18 + 12 * w + 2) ∧ (f (18 + 12 * w + 5) + nI 1) - (f (18 + 12 * w + 5) + nI 1) / f (18 + 12 * w + 2) * f (18 + 12 * w + 2) = 0
theorem smake_y {f : sF} {w o : Nat} (h : wg f w) : smake f w o = upd (upd (upd (upd f (18 + 12 * w + 5) (f (18 + 12 * w + 5) + nI 1)) 10 (upd f (18 + 12 * w + 5) (f (18 + 12 * w + 5) + nI 1) 10 + nI 1)) (18 + 12 * w + 6) (f (18 + 12 * w + 6) + nI 1)) 11 (f 11 + nI 1) := by
  unfold smake
  dsimp only
  rw [if_pos]
  · rw [upd_n (show 11 ≠ 18 + 12 * w + 6 by omega), upd_n (show 11 ≠ 10 by omega), upd_n (show 11 ≠ 18 + 12 * w + 5 by omega), upd_n (show 18 + 12 * w + 6 ≠ 10 by omega), upd_n (show 18 + 12 * w + 6 ≠ 18 + 12 * w + 5 by omega)]
  · rw [upd_n (show 18 + 12 * w + 2 ≠ 10 by omega), upd_n (show 18 + 12 * w + 2 ≠ 18 + 12 * w + 5 by omega), upd_n (show 18 + 12 * w + 5 ≠ 10 by omega), upd_s]
    exact h
theorem smake_n {f : sF} {w o : Nat} (h : ¬ wg f w) (hw : w < 6) : smake f w o = upd (upd (upd f (18 + 12 * w + 5) (f (18 + 12 * w + 5) + nI 1)) 10 (upd f (18 + 12 * w + 5) (f (18 + 12 * w + 5) + nI 1) 10 + nI 1)) (90 + 12 * o + 6 + w) (f (90 + 12 * o + 6 + w) + nI 1) := by
  unfold smake
  dsimp only
  rw [if_neg]
  · rw [upd_n (show 90 + 12 * o + 6 + w ≠ 10 by omega), upd_n (show 90 + 12 * o + 6 + w ≠ 18 + 12 * w + 5 by omega)]
  · rw [upd_n (show 18 + 12 * w + 2 ≠ 10 by omega), upd_n (show 18 + 12 * w + 2 ≠ 18 + 12 * w + 5 by omega), upd_n (show 18 + 12 * w + 5 ≠ 10 by omega), upd_s]
    exact h
theorem spf_w {f : sF} {o p n : Nat} {len : Int32} (hp : f (90 + 12 * o + 4) = nI p) (h99 : p ≤ 99) (hn : len = nI n) (h200 : n ≤ 200) : spf (f (90 + 12 * o + 4) * len) (slate f o) (f 2) = swhole f o len := by
  have hpn : p * n ≤ 99 * 200 := Nat.mul_le_mul h99 h200
  have e : (f (90 + 12 * o + 4) * len).toInt64 = (f (90 + 12 * o + 4)).toInt64 * len.toInt64 := by
    rw [hp, hn, pk_mul]
    refine Int64.toInt_inj.mp ?_
    rw [Int32.toInt_toInt64, nI_toInt (by omega), Int64.toInt_mul, Int32.toInt_toInt64, Int32.toInt_toInt64, nI_toInt (by omega), nI_toInt (by omega)]
    rw [← Int.natCast_mul]
    generalize p * n = q at hpn
    rw [Int.bmod_def]
    omega
  unfold spf swhole sless
  rw [e]
  generalize (f (90 + 12 * o + 4)).toInt64 * len.toInt64 = all at e ⊢
  generalize all * (slate f o).toInt64 * (f 2).toInt64 / 100 = less
  have e2 : all.toInt32 = f (90 + 12 * o + 4) * len := by rw [← e]; exact Int32.toInt32_toInt64 _
  by_cases h : less < all
  · rw [if_pos h, if_pos (Int64.le_of_lt h), Int64.toInt32_sub, e2]
  · rw [if_neg h]
    by_cases h2 : less ≤ all
    · have h3 : less = all := Int64.le_antisymm h2 (Int64.not_lt.mp h)
      rw [if_pos h2, h3, Int64.sub_self]; rfl
    · rw [if_neg h2]
theorem swhole_0 {f : sF} {o : Nat} {len : Int32} (h : len = 0) : swhole f o len = nI 0 := by
  subst h
  unfold swhole sless
  rw [show (0 : Int32).toInt64 = 0 from rfl, Int64.mul_zero, Int64.zero_mul, Int64.zero_mul]
  rw [if_pos (by decide)]
  rfl
theorem spay_g {f : sF} {du : Nat → Int32} {w : Nat} (h3 : 0 ≤ f 3) : (if 0 < f 3 then smin (f (18 + 12 * w + 3)) (du w / f 3) else f (18 + 12 * w + 3)) = (if f 3 = 0 then f (18 + 12 * w + 3) else if du w / f 3 ≤ f (18 + 12 * w + 3) then du w / f 3 else f (18 + 12 * w + 3)) := by
  by_cases h : f 3 = 0
  · rw [if_pos h, if_neg (by rw [h]; decide)]
  · rw [if_neg h, if_pos (by
      have h1 : ¬ (f 3).toInt = (0 : Int32).toInt := fun z => h (Int32.toInt_inj.mp z)
      rw [i32_le] at h3
      rw [i32_lt]
      omega)]
    unfold smin
    by_cases h1 : du w / f 3 < f (18 + 12 * w + 3)
    · rw [if_pos h1, if_pos (by rw [i32_lt] at h1; rw [i32_le]; omega)]
    · rw [if_neg h1]
      by_cases h2 : du w / f 3 ≤ f (18 + 12 * w + 3)
      · rw [if_pos h2]
        refine Int32.toInt_inj.mp ?_
        rw [i32_lt] at h1
        rw [i32_le] at h2
        omega
      · rw [if_neg h2]
theorem spay_e {f : sF} {du : Nat → Int32} {w : Nat} {g : Int32} (hg : g = if f 3 = 0 then f (18 + 12 * w + 3) else if du w / f 3 ≤ f (18 + 12 * w + 3) then du w / f 3 else f (18 + 12 * w + 3)) : spay1 f du w = upd (upd f (18 + 12 * w + 3) (f (18 + 12 * w + 3) - g)) (18 + 12 * w + 4) (f (18 + 12 * w + 4) + (du w - g * f 3)) := by
  unfold spay1
  dsimp only
  rw [← hg, upd_n (show 18 + 12 * w + 4 ≠ 18 + 12 * w + 3 by omega), upd_n (show 3 ≠ 18 + 12 * w + 3 by omega), ← Int32.sub_eq_add_neg (f (18 + 12 * w + 3)) g]
theorem slate_e {f g : sF} {o : Nat} (h4 : g 4 = f 4) (h5 : g (90 + 12 * o + 5) = f (90 + 12 * o + 5)) : slate g o = slate f o := by unfold slate; rw [h4, h5]
theorem spaysA_p {f : sF} {o k : Nat} {du : Nat → Int32} (ho : o < 10) : spaysA f o du k = upd (upd (upd (spayN f du 6) 9 (spayN f du 6 9 + swhole f o (f (90 + 12 * o + 3)))) 7 (spayN f du 6 7 + nI 1)) 8 (spayN f du 6 8 + (if slate f o ≤ 0 then nI 0 else nI 1)) k := by
  have hl : slate (upd (spayN f du 6) 7 (spayN f du 6 7 + nI 1)) o = slate f o := slate_e (by rw [upd_n (by decide)]; exact spayN_k (fun w hw => ⟨by omega, by omega⟩)) (by rw [upd_n (by omega)]; exact spayN_k (fun w hw => ⟨by omega, by omega⟩))
  unfold spaysA
  rw [hl, upd_n (show 8 ≠ 7 by decide), upd_n (show 9 ≠ 8 by decide), upd_n (show 9 ≠ 7 by decide)]
  generalize spayN f du 6 = g
  generalize swhole f o (f (90 + 12 * o + 3)) = q
  generalize (if slate f o ≤ 0 then nI 0 else nI 1) = t
  by_cases h9 : k = 9
  · rw [h9, upd_s, upd_n (show 9 ≠ 8 by decide), upd_n (show 9 ≠ 7 by decide), upd_s]
  · rw [upd_n h9]
    by_cases h8 : k = 8
    · rw [h8, upd_s, upd_s]
    · rw [upd_n h8, upd_n h8]
      by_cases h7 : k = 7
      · rw [h7, upd_s, upd_s]
      · rw [upd_n h7, upd_n h7, upd_n h9]
/-- the decimetres that an hour weaves -/
def swork (f : sF) : Nat → Nat | 0 => 0 | w + 1 => swork f w + (if 0 < shourN f w (18 + 12 * w + 0) then (sweaves (shourN f w) w).2 else 0)
theorem swv_m {w o : Nat} : ∀ (r : Nat) (f : sF), (swv w o r f).2 ≤ r := by
  intro r
  induction r with
  | zero => intro f; exact Nat.le_refl 0
  | succ r ih =>
    intro f
    unfold swv
    cases ht : stake f w o with
    | none => exact Nat.zero_le _
    | some f1 =>
      dsimp only
      split
      · exact Nat.succ_le_succ (Nat.zero_le _)
      · exact Nat.succ_le_succ (ih _)
theorem sweaves_2 {f : sF} {w : Nat} (h : sOK f) (hw : w < 6) : (sweaves f w).2 ≤ 9 := by
  unfold sweaves
  cases schos f w with
  | none => exact Nat.zero_le _
  | some o => exact Nat.le_trans (swv_m _ _) (h.2.2.2 w hw).2
theorem swork_le {f : sF} (h : sOK f) : ∀ n, n ≤ 6 → swork f n ≤ 9 * n := by
  intro n
  induction n with
  | zero => intro _; exact Nat.le_refl 0
  | succ n ih =>
    intro hn
    have h1 := ih (by omega)
    have h2 := sweaves_2 (shourN_OK h n (by omega)) (show n < 6 by omega)
    show swork f n + (if _ then _ else _) ≤ _
    split <;> omega
/-- the same but for the hours and the idle looms -/
def sQ (f g : sF) : Prop := ∀ k, k < 210 → k ≠ 4 → k ≠ 13 → f k = g k
theorem sQ.rf {f : sF} : sQ f f := fun _ _ _ _ => rfl
theorem sQ.sy {f g : sF} (h : sQ f g) : sQ g f := fun k a b c => (h k a b c).symm
theorem sQ.tr {f g h : sF} (a : sQ f g) (b : sQ g h) : sQ f h := fun k h1 h2 h3 => (a k h1 h2 h3).trans (b k h1 h2 h3)
theorem sQ_many {f g : sF} (h : sQ f g) : smany f = smany g := by unfold smany; rw [h 5 (by decide) (by decide) (by decide)]
theorem sQ_chosN {f g : sF} {w : Nat} (h : sQ f g) (hw : w < 6) : ∀ n, n ≤ 10 → schosN f w n = schosN g w n := by
  intro n
  induction n with
  | zero => intro _; rfl
  | succ n ih =>
    intro hn
    have hworth : ∀ o, o < 10 → sworth f o = sworth g o := fun o ho => by
      unfold sworth
      rw [h 0 (by decide) (by decide) (by decide), h (90 + 12 * o + 2) (by omega) (by omega) (by omega), h (90 + 12 * o + 4) (by omega) (by omega) (by omega)]
    have h1 := ih (by omega)
    have e1 := h (90 + 12 * n + 2) (by omega) (by omega) (by omega)
    have e2 := h (18 + 12 * w + 0) (by omega) (by omega) (by omega)
    cases hq : schosN g w n with
    | none => rw [schosN_n hq, schosN_n (h1.trans hq), e1, e2]
    | some q =>
      have hq1 := (schosN_lt hq).1
      rw [schosN_s hq, schosN_s (h1.trans hq), e1, e2, hworth n (by omega), hworth q (by omega)]
theorem sQ_chos {f g : sF} {w : Nat} (h : sQ f g) (hw : w < 6) (hk : smany f ≤ 10) : schos f w = schos g w := by
  unfold schos
  rw [← sQ_many h]
  exact sQ_chosN h hw _ hk
theorem sQ_stake {f g : sF} {w o : Nat} (h : sQ f g) (hw : w < 6) (ho : o < 10) (hc : scol f o < 4) : stake f w o = none → stake g w o = none := by
  have hcol : scol g o = scol f o := by unfold scol; rw [h _ (by omega) (by omega) (by omega)]
  have hgr : sgrams g o = sgrams f o := by unfold sgrams; rw [h _ (by omega) (by omega) (by omega)]
  intro hs
  unfold stake at hs ⊢
  rw [hcol, hgr, ← h (18 + 12 * w + (8 + scol f o)) (by omega) (by omega) (by omega), ← h 1 (by decide) (by decide) (by decide), ← h (14 + scol f o) (by omega) (by omega) (by omega)]
  split at hs
  · cases hs
  · rename_i h1
    rw [if_neg h1]
    split at hs
    · cases hs
    · rename_i h2
      rw [if_neg h2]
/-- a weaver who weaves nothing -/
theorem swv_z {w o r : Nat} {f : sF} (h : (swv w o r f).2 = 0) : (swv w o r f).1 = f := by
  cases r with
  | zero => rfl
  | succ r =>
    unfold swv at h ⊢
    cases ht : stake f w o with
    | none => rfl
    | some f1 =>
      rw [ht] at h
      dsimp only at h
      split at h
      · cases h
      · exact absurd h (Nat.succ_ne_zero _)
theorem sweaves_z {f : sF} {w : Nat} (h : (sweaves f w).2 = 0) : (sweaves f w).1 = f := by
  unfold sweaves at h ⊢
  cases hq : schos f w with
  | none => rfl
  | some o => rw [hq] at h; exact swv_z h
theorem sQ_zero {f g : sF} {w : Nat} (h : sQ f g) (hw : w < 6) (hf : sOK f) (hz : (sweaves f w).2 = 0) : (sweaves g w).2 = 0 := by
  unfold sweaves at hz ⊢
  rw [← sQ_chos h hw hf.2.1]
  cases hq : schos f w with
  | none => rfl
  | some o =>
    have ho := (schosN_lt hq).1
    have hk := hf.2.1
    rw [hq] at hz
    dsimp only at hz ⊢
    have hsp : sspd g w = sspd f w := by unfold sspd; rw [h _ (by omega) (by omega) (by omega)]
    rw [hsp]
    cases hr : sspd f w with
    | zero => rfl
    | succ r =>
      rw [hr] at hz
      unfold swv at hz ⊢
      cases ht : stake f w o with
      | none => rw [sQ_stake h hw (by omega) (hf.2.2.1 o ho).2 ht]
      | some f1 =>
        rw [ht] at hz
        dsimp only at hz
        split at hz
        · cases hz
        · exact absurd hz (Nat.succ_ne_zero _)
theorem sQ_upd {f g : sF} {k : Nat} {v : Int32} (h : sQ f g) (hk : k = 4 ∨ k = 13) : sQ (upd f k v) g := fun j a b c => (upd_n (by omega)).trans (h j a b c)
/-- in an hour that weaves nothing only the hours and the idle looms change -/
theorem sidle_N {f g : sF} (hf : sOK f) (hz : swork f 6 = 0) (hg : sQ f g) : ∀ n, n ≤ 6 → swork f n = 0 ∧ sQ f (shourN f n) ∧ sQ f (shourN g n) ∧ swork g n = 0 := by
  have hz2 : ∀ n, n ≤ 6 → swork f n = 0 := by
    intro n hn
    have : ∀ d, swork f n ≤ swork f (n + d) := by
      intro d
      induction d with
      | zero => exact Nat.le_refl _
      | succ d ih => exact Nat.le_trans ih (Nat.le_add_right _ _)
    have h6 := this (6 - n)
    rw [show n + (6 - n) = 6 by omega, hz] at h6
    omega
  intro n
  induction n with
  | zero => intro _; exact ⟨rfl, sQ.rf, hg, rfl⟩
  | succ n ih =>
    intro hn
    obtain ⟨a1, a2, a3, a4⟩ := ih (by omega)
    have hs := hz2 (n + 1) hn
    have hok1 := shourN_OK hf n (by omega)
    have e1 := a2 (18 + 12 * n + 0) (by omega) (by omega) (by omega)
    have e2 := a3 (18 + 12 * n + 0) (by omega) (by omega) (by omega)
    have hs2 : swork f n + (if 0 < shourN f n (18 + 12 * n + 0) then (sweaves (shourN f n) n).2 else 0) = 0 := hs
    by_cases hw : 0 < f (18 + 12 * n + 0)
    · have hw1 : 0 < shourN f n (18 + 12 * n + 0) := by rw [← e1]; exact hw
      have hw2 : 0 < shourN g n (18 + 12 * n + 0) := by rw [← e2]; exact hw
      rw [if_pos hw1] at hs2
      have z1 : (sweaves (shourN f n) n).2 = 0 := by omega
      have z2 : (sweaves (shourN g n) n).2 = 0 := sQ_zero (a2.sy.tr a3) (by omega) hok1 z1
      refine ⟨hs, ?_, ?_, ?_⟩
      · show sQ f (if _ then _ else _)
        rw [if_pos hw1]
        unfold sweave
        rw [sweaves_z z1]
        exact (sQ_upd a2.sy (Or.inr rfl)).sy
      · show sQ f (if _ then _ else _)
        rw [if_pos hw2]
        unfold sweave
        rw [sweaves_z z2]
        exact (sQ_upd a3.sy (Or.inr rfl)).sy
      · show swork g n + (if _ then _ else _) = 0
        rw [if_pos hw2, z2, a4]
    · have hw1 : ¬ 0 < shourN f n (18 + 12 * n + 0) := by rw [← e1]; exact hw
      have hw2 : ¬ 0 < shourN g n (18 + 12 * n + 0) := by rw [← e2]; exact hw
      refine ⟨hs, ?_, ?_, ?_⟩
      · show sQ f (if _ then _ else _)
        rw [if_neg hw1]; exact a2
      · show sQ f (if _ then _ else _)
        rw [if_neg hw2]; exact a3
      · show swork g n + (if _ then _ else _) = 0
        rw [if_neg hw2, a4]
theorem sidle {f : sF} (hf : sOK f) (hz : swork f 6 = 0) : ∀ n, sQ f (shours f n) := by
  intro n
  induction n with
  | zero => exact sQ.rf
  | succ n ih => exact (sQ_upd (sidle_N hf hz ih 6 (Nat.le_refl 6)).2.2.1.sy (Or.inl rfl)).sy
theorem shours_add {f : sF} {m : Nat} : ∀ n, shours f (m + n) = shours (shours f m) n := by
  intro n
  induction n with
  | zero => rfl
  | succ n ih => show shour (shours f (m + n)) = shour (shours (shours f m) n); rw [ih]
theorem sidle_at {f : sF} (hf : sOK f) {i n : Nat} (hz : swork (shours f i) 6 = 0) (hi : i ≤ n) : sQ (shours f i) (shours f n) := by
  have h := sidle (shours_OK hf i) hz (n - i)
  rwa [← shours_add, show i + (n - i) = n by omega] at h
/-- orders bubble -/
def rowb {α : Type} (r : Nat → α) (o m : Nat) : Nat → α := fun j => if j < o then r j else if j < m then r (j + 1) else if j = m then r o else r j
theorem rowb_0 {α : Type} {r : Nat → α} {o : Nat} : rowb r o o = r := by
  funext j
  unfold rowb
  by_cases h1 : j < o
  · rw [if_pos h1]
  · rw [if_neg h1, if_neg h1]
    by_cases h2 : j = o
    · rw [if_pos h2, h2]
    · rw [if_neg h2]
theorem rowb_m {α : Type} {r : Nat → α} {o m : Nat} (h : o ≤ m) : rowb r o m m = r o := by unfold rowb; rw [if_neg (by omega), if_neg (by omega), if_pos rfl]
theorem rowb_m1 {α : Type} {r : Nat → α} {o m : Nat} (h : o ≤ m) : rowb r o m (m + 1) = r (m + 1) := by unfold rowb; rw [if_neg (by omega), if_neg (by omega), if_neg (by omega)]
theorem rowb_s {α : Type} {r : Nat → α} {o m : Nat} (h : o ≤ m) : va_up (va_up (rowb r o m) m (r (m + 1))) (m + 1) (r o) = rowb r o (m + 1) := by
  funext j
  simp only [va_up, rowb]
  by_cases h1 : j = m + 1
  · subst h1; simp [show ¬ m + 1 < o by omega]
  · by_cases h2 : j = m
    · subst h2; simp [show ¬ j < o by omega]
    · by_cases h3 : j < o
      · simp [h1, h2, h3]
      · by_cases h4 : j < m
        · simp [h1, h2, h3, h4, show j < m + 1 by omega]
        · simp [h1, h2, h3, h4, show ¬ j < m + 1 by omega]
theorem jstP_up {P : jP} {a k : Nat} {x : Option Nat} {g : Nat → Option Nat} : jstP (va_up P a g) a k x = va_up P a (va_up g k x) := by unfold jstP; rw [va_up_s, va_up_u]
def ogb (og : Nat → Nat) (o : Nat) : Nat → Nat := rowb og o 9
theorem ogb_G {P : jP} {h o : Nat} {og : Nat → Nat} (G : hG P h og) (ho : o < 10) : hG (va_up P (h + 2) (rowb (P (h + 2)) o 9)) h (ogb og o) := by
  refine ⟨fun j hj => ?_, fun i j hi hj he => ?_⟩
  · rw [va_up_s]
    unfold ogb rowb
    by_cases h1 : j < o
    · rw [if_pos h1, if_pos h1]; exact G.1 j hj
    · rw [if_neg h1, if_neg h1]
      by_cases h2 : j < 9
      · rw [if_pos h2, if_pos h2]; exact G.1 (j + 1) (by omega)
      · rw [if_neg h2, if_neg h2, if_pos (by omega), if_pos (by omega)]; exact G.1 o ho
  · unfold ogb rowb at he
    have K : ∀ a b, a < 10 → b < 10 → og a = og b → a = b := G.2
    by_cases h1 : i < o <;> by_cases h2 : j < o <;> simp only [h1, h2, if_true, if_false] at he
    · exact K i j hi hj he
    · by_cases h3 : j < 9
      · rw [if_pos h3] at he; have := K _ _ (by omega) (by omega) he; omega
      · rw [if_neg h3, if_pos (by omega)] at he; have := K _ _ (by omega) (by omega) he; omega
    · by_cases h3 : i < 9
      · rw [if_pos h3] at he; have := K _ _ (by omega) (by omega) he; omega
      · rw [if_neg h3, if_pos (by omega)] at he; have := K _ _ (by omega) (by omega) he; omega
    · by_cases h3 : i < 9 <;> by_cases h4 : j < 9 <;> simp only [h3, h4, if_true, if_false] at he
      · have := K _ _ (by omega) (by omega) he; omega
      · rw [if_pos (by omega)] at he; have := K _ _ (by omega) (by omega) he; omega
      · rw [if_pos (by omega)] at he; have := K _ _ (by omega) (by omega) he; omega
      · omega
theorem ogb_R {I : jI} {h o : Nat} {og : Nat → Nat} {f : sF} (H : hR I h og f) (hm : f 5 = nI (smany f)) (hk : smany f ≤ 10) (hg : ∀ j, j < 10 → og j < 10) (ho : o < smany f) : hR (jst I h 5 (f 5 - nI 1)) h (ogb og o) (sgoes f o) := by
  have e5 : smany (sgoes f o) = smany f - 1 := by
    show (sgoes f o 5).toNatClampNeg = _
    unfold sgoes
    rw [if_neg (by omega), upd_s, hm, pk_sub (by omega), nI_clamp (by omega)]
  have ek : ∀ k, k < 90 → k ≠ 5 → sgoes f o k = f k := fun k k1 k2 => by unfold sgoes; rw [if_neg (by omega), upd_n k2]
  have e55 : sgoes f o 5 = f 5 - nI 1 := by unfold sgoes; rw [if_neg (by omega), upd_s]
  obtain ⟨H1, H2, H3, H4, ⟨a5, a6, a7, a8, a9, a10, a11, a12⟩, H6⟩ := H
  refine ⟨fun w k h1 h2 => ?_, fun w c h1 h2 => ?_, fun c h1 => ?_, fun k h1 => ?_, ⟨?_, ?_, ?_, ?_, ?_, ?_, ?_, ?_⟩, fun q hq => ?_⟩
  · rw [jst_ne (by omega), ek _ (by omega) (by omega)]; exact H1 w k h1 h2
  · rw [jst_ne (by omega), ek _ (by omega) (by omega)]; exact H2 w c h1 h2
  · rw [jst_ne (by omega), ek _ (by omega) (by omega)]; exact H3 c h1
  · rw [jst_ne (by omega), ek _ (by omega) (by omega)]; exact H4 k h1
  · rw [jst_eq, upd_s, e55]
  · rw [jst_eq, upd_n (by decide), ek _ (by omega) (by omega)]; exact a6
  · rw [jst_eq, upd_n (by decide), ek _ (by omega) (by omega)]; exact a7
  · rw [jst_eq, upd_n (by decide), ek _ (by omega) (by omega)]; exact a8
  · rw [jst_eq, upd_n (by decide), ek _ (by omega) (by omega)]; exact a9
  · rw [jst_eq, upd_n (by decide), ek _ (by omega) (by omega)]; exact a10
  · rw [jst_eq, upd_n (by decide), ek _ (by omega) (by omega)]; exact a11
  · rw [jst_eq, upd_n (by decide), ek _ (by omega) (by omega)]; exact a12
  · rw [e5] at hq
    by_cases hqo : q < o
    · have e : ∀ k, k < 12 → sgoes f o (90 + 12 * q + k) = f (90 + 12 * q + k) := fun k hk2 => by unfold sgoes; rw [if_neg (by omega), upd_n (by omega)]
      have eo : ogb og o q = og q := by unfold ogb rowb; rw [if_pos hqo]
      have hgq := hg q (by omega)
      rw [eo]
      refine ⟨fun k hk2 => ?_, ?_, fun w hw => ?_⟩
      · rw [jst_ne (by omega), e k (by omega)]; exact (H6 q (by omega)).1 k hk2
      · rw [jst_ne (by omega), sgood_e (fun w hw => e _ (by omega))]; exact (H6 q (by omega)).2.1
      · rw [jst_ne (by omega), e _ (by omega)]; exact (H6 q (by omega)).2.2 w hw
    · have e : ∀ k, k < 12 → sgoes f o (90 + 12 * q + k) = f (90 + 12 * (q + 1) + k) := fun k hk2 => by
        unfold sgoes
        rw [if_pos (by omega)]
        exact congrArg f (by omega)
      have eo : ogb og o q = og (q + 1) := by unfold ogb rowb; rw [if_neg hqo, if_pos (by omega)]
      have hgq := hg (q + 1) (by omega)
      rw [eo]
      refine ⟨fun k hk2 => ?_, ?_, fun w hw => ?_⟩
      · rw [jst_ne (by omega), e k (by omega)]; exact (H6 (q + 1) (by omega)).1 k hk2
      · rw [jst_ne (by omega), show sgood (sgoes f o) q = sgood f (q + 1) from ssum_c (fun w hw => e _ (by omega))]; exact (H6 (q + 1) (by omega)).2.1
      · rw [jst_ne (by omega), e _ (by omega)]; exact (H6 (q + 1) (by omega)).2.2 w hw
