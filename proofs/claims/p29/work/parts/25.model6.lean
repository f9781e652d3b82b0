theorem in1_N {v : Int32} {n : Nat} (hn : n < 2 ^ 31) (h : nI 1 ≤ v ∧ v ≤ nI n) : ∃ w : Nat, 1 ≤ w ∧ w ≤ n ∧ v = nI w := by
  have h1 : (nI 1).toInt = 1 := by decide
  have h2 : (nI 0).toInt = 0 := by decide
  have h3 := h.1
  rw [i32_le, h1] at h3
  obtain ⟨w, hw, rfl⟩ := in_N hn ⟨by rw [i32_le, h2]; omega, h.2⟩
  rw [nI_toInt (by omega)] at h3
  exact ⟨w, by omega, hw, rfl⟩
def sW (v : Int32) : Nat := v.toNatClampNeg
theorem sW_N {w : Nat} (h : w < 2 ^ 31) : sW (nI w) = w := nI_clamp h
def sloom (f : sF) (wv wd sp ca : Int32) : Nat × Int32 × sF :=
  if nI 0 ≤ wv ∧ wv ≤ nI 5 then
    if wd = 0 ∨ ((nI 40 ≤ wd ∧ wd ≤ nI 200) ∧ (nI 1 ≤ sp ∧ sp ≤ nI 9) ∧ (nI 0 ≤ ca ∧ ca ≤ nI 99)) then
      (0, f (18 + 12 * sW wv + 0), upd (upd (upd f (18 + 12 * sW wv + 0) wd) (18 + 12 * sW wv + 1) (if wd = 0 then nI 0 else sp)) (18 + 12 * sW wv + 2) (if wd = 0 then nI 0 else ca))
    else (2, nI 0, f)
  else (1, nI 0, f)
def syarn (f : sF) (wv cv g : Int32) : Nat × Int32 × sF :=
  if (nI 0 ≤ wv ∧ wv ≤ nI 5) ∧ (nI 0 ≤ cv ∧ cv ≤ nI 3) then
    if -9999 ≤ g ∧ g ≤ nI 9999 then
      if nI 0 ≤ f (18 + 12 * sW wv + (8 + sW cv)) + g ∧ f (18 + 12 * sW wv + (8 + sW cv)) + g ≤ nI 9999 then
        (0, f (18 + 12 * sW wv + (8 + sW cv)) + g, upd f (18 + 12 * sW wv + (8 + sW cv)) (f (18 + 12 * sW wv + (8 + sW cv)) + g))
      else (3, nI 0, f)
    else (2, nI 0, f)
  else (1, nI 0, f)
def sstore (f : sF) (cv g : Int32) : Nat × Int32 × sF :=
  if nI 0 ≤ cv ∧ cv ≤ nI 3 then
    if nI 1 ≤ g ∧ g ≤ nI 9999 then
      if f (14 + sW cv) + g ≤ 99999 then (0, f (14 + sW cv) + g, upd f (14 + sW cv) (f (14 + sW cv) + g)) else (3, nI 0, f)
    else (2, nI 0, f)
  else (1, nI 0, f)
def sgive (f : sF) (wv ov cv g : Int32) : Nat × Int32 × sF :=
  if (nI 0 ≤ wv ∧ wv ≤ nI 5) ∧ (nI 0 ≤ ov ∧ ov ≤ nI 5) ∧ (nI 0 ≤ cv ∧ cv ≤ nI 3) then
    if ¬ wv = ov ∧ (nI 1 ≤ g ∧ g ≤ nI 9999) then
      if g ≤ f (18 + 12 * sW wv + (8 + sW cv)) ∧ f (18 + 12 * sW ov + (8 + sW cv)) + g ≤ nI 9999 then
        (0, f (18 + 12 * sW ov + (8 + sW cv)) + g, upd (upd f (18 + 12 * sW wv + (8 + sW cv)) (f (18 + 12 * sW wv + (8 + sW cv)) + -g)) (18 + 12 * sW ov + (8 + sW cv)) (f (18 + 12 * sW ov + (8 + sW cv)) + g))
      else (3, nI 0, f)
    else (2, nI 0, f)
  else (1, nI 0, f)
/-- where an order with that due hour comes -/
def spos (f : sF) (due : Int32) : Nat → Nat | 0 => 0 | n + 1 => if f (90 + 12 * n + 5) ≤ due then n + 1 else spos f due n
theorem spos_le {f : sF} {due : Int32} : ∀ n, spos f due n ≤ n := by
  intro n
  induction n with
  | zero => exact Nat.le_refl 0
  | succ n ih => unfold spos; split <;> omega
def snew (f : sF) (cv wd len pr due : Int32) : Nat → Int32 | 0 => f 6 | 1 => cv | 2 => wd | 3 => len | 4 => pr | 5 => due | _ => nI 0
def scomes (f : sF) (cv wd len pr due : Int32) : sF := fun k =>
  if 90 + 12 * spos f due (smany f) ≤ k ∧ k < 90 + 12 * spos f due (smany f) + 12 then snew f cv wd len pr due (k - (90 + 12 * spos f due (smany f)))
  else if 90 + 12 * spos f due (smany f) + 12 ≤ k ∧ k < 90 + 12 * (smany f + 1) then f (k - 12)
  else upd (upd f 5 (f 5 + nI 1)) 6 (f 6 + nI 1) k
def sorder (f : sF) (cv wd len pr due : Int32) : Nat × Int32 × sF :=
  if nI 0 ≤ cv ∧ cv ≤ nI 3 then
    if (nI 40 ≤ wd ∧ wd ≤ nI 200) ∧ (nI 1 ≤ len ∧ len ≤ nI 200) ∧ (nI 1 ≤ pr ∧ pr ≤ nI 99) ∧ (nI 0 ≤ due ∧ due ≤ nI 9999) then
      if ¬ f 5 = nI 10 then (0, f 6, scomes f cv wd len pr due) else (3, nI 0, f)
    else (2, nI 0, f)
  else (1, nI 0, f)
def scancel (f : sF) (num : Int32) : Nat × Int32 × sF := match splace f num with | none => (1, nI 0, f) | some o => (0, sgood f o, sgoes f o)
def smax (v : Int32) : Int32 := if v = 0 then nI 2 else if v = nI 1 then nI 1 else if v = nI 2 then nI 50 else nI 9
def sset (f : sF) (sv v : Int32) : Nat × Int32 × sF :=
  if nI 0 ≤ sv ∧ sv ≤ nI 3 then
    if nI 0 ≤ v ∧ v ≤ smax sv then (0, f (sW sv), upd f (sW sv) v) else (2, nI 0, f)
  else (1, nI 0, f)
def spass (f : sF) (hv : Int32) : Nat × Int32 × sF :=
  if nI 1 ≤ hv ∧ hv ≤ nI 99 then
    if f 4 + hv ≤ nI 9999 then (0, shours f (sW hv) 7 - f 7, shours f (sW hv)) else (2, nI 0, f)
  else (1, nI 0, f)
theorem mDo_okG {I I1 I' : jI} {P : jP} {L : jL} {x : Nat} {S : Nat × Int32 × sF} {r : Int32} {g : sF} (hs : mSv (jst I x 6 (nI 0)) x I1) (e : S = (0, r, g)) (hI : I' (x + 1) = g) (hb' : ∀ b, b ≠ x + 1 → b ≠ x + 2 → b ≠ x + 6 → I' b = I1 b) : mDo I P L x S (some (.int r)) I' P L := by
  obtain ⟨h1, h2, h4, h6, hb, hp⟩ := hs
  subst e
  have hp := mPush_0 hp
  obtain ⟨q, p1, p2, p3, p4, p5⟩ := hp
  refine ⟨rfl, rfl, _, rfl, ?_, fun b hb2 => ?_, ?_, ?_, fun _ => ⟨rfl, hI, q, p1, p2, ?_, fun k hk => ?_, fun i hi k hk => ?_⟩, fun h => absurd rfl h⟩
  · rw [hb' _ (by omega) (by omega) (by omega), h6 6 (by decide), jst_eq, upd_s]
  · rw [hb' _ (by omega) (by omega) (by omega), hb b (by omega), jst_ne (by omega)]
  · rw [hb' _ (by omega) (by omega) (by omega), h6 5 (by decide), jst_eq, upd_n (by decide)]
  · rw [hb' _ (by omega) (by omega) (by omega), h4, jst_ne (by omega)]
  · rw [hb' _ (by omega) (by omega) (by omega)]; exact p3
  · rw [hb' _ (by omega) (by omega) (by omega)]; exact p4 k hk
  · rw [hb' _ (by omega) (by omega) (by omega)]; exact p5 i hi k hk
theorem mDo_okE {I I1 : jI} {P : jP} {L : jL} {x : Nat} {S : Nat × Int32 × sF} {r : Int32} {g : sF} (hs : mSv (jst I x 6 (nI 0)) x I1) (e : S = (0, r, g)) : mDo I P L x S (some (.int r)) (va_up I1 (x + 1) g) P L := mDo_okG hs e va_up_s (fun b h1 _ _ => va_up_n h1)
