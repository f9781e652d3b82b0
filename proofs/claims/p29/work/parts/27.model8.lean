/-- the end of a reference's method that changes nothing that is asked later -/
def mSame (I : jI) (x : Nat) (I' : jI) : Prop := (∀ b, b < x ∨ x + 6 < b → I' b = I b) ∧ I' (x + 1) = I (x + 1) ∧ I' (x + 3) = I (x + 3) ∧ I' (x + 4) = I (x + 4) ∧ I' x 3 = I x 3 ∧ I' x 5 = I x 5
def mQu (I : jI) (P : jP) (L : jL) (x : Nat) (S : Nat × Int32) : Option Value → jI → jP → jL → Prop := fun v I' P' L' => P' = P ∧ L' = L ∧ ∃ r, v = some (.int r) ∧ I' x 6 = nI S.1 ∧ (S.1 = 0 → r = S.2) ∧ mSame I x I'
theorem mSame_t {I : jI} {x : Nat} {v : Int32} : mSame I x (jst I x 6 v) := ⟨fun b hb => jst_ne (by omega), jst_ne (by omega), jst_ne (by omega), jst_ne (by omega), by rw [jst_eq, upd_n (by decide)], by rw [jst_eq, upd_n (by decide)]⟩
theorem mSame_tr {I I1 I2 : jI} {x : Nat} (h : mSame I x I1) (h2 : mSame I1 x I2) : mSame I x I2 := ⟨fun b hb => (h2.1 b hb).trans (h.1 b hb), h2.2.1.trans h.2.1, h2.2.2.1.trans h.2.2.1, h2.2.2.2.1.trans h.2.2.2.1, h2.2.2.2.2.1.trans h.2.2.2.2.1, h2.2.2.2.2.2.trans h.2.2.2.2.2⟩
theorem mQu_fail {I : jI} {P : jP} {L : jL} {x k : Nat} {S : Nat × Int32} (e : S.1 = k) (hk : k ≠ 0) : mQu I P L x S (some (.int (nI 0))) (jst (jst I x 6 (nI 0)) x 6 (nI k)) P L :=
  ⟨rfl, rfl, _, rfl, by rw [e, jst_eq, upd_s], fun h => absurd (e.symm.trans h) hk, mSame_tr mSame_t mSame_t⟩
theorem mQu_ok {I : jI} {P : jP} {L : jL} {x : Nat} {S : Nat × Int32} {r : Int32} (e : S = (0, r)) : mQu I P L x S (some (.int r)) (jst I x 6 (nI 0)) P L := by
  subst e
  exact ⟨rfl, rfl, _, rfl, by rw [jst_eq, upd_s], fun _ => rfl, mSame_t⟩
theorem mQu_okG {I I' : jI} {P : jP} {L : jL} {x : Nat} {S : Nat × Int32} {r : Int32} (e : S = (0, r)) (h6 : I' x 6 = nI 0) (hs : mSame I x I') : mQu I P L x S (some (.int r)) I' P L := by
  subst e
  exact ⟨rfl, rfl, _, rfl, h6, fun _ => rfl, hs⟩
def sweaver (f : sF) (wv kv : Int32) : Nat × Int32 := if nI 0 ≤ wv ∧ wv ≤ nI 5 then if nI 0 ≤ kv ∧ kv ≤ nI 7 then (0, f (18 + 12 * sW wv + sW kv)) else (2, nI 0) else (1, nI 0)
def sshare (f : sF) (wv cv : Int32) : Nat × Int32 := if (wv = -1 ∨ (nI 0 ≤ wv ∧ wv ≤ nI 5)) ∧ (nI 0 ≤ cv ∧ cv ≤ nI 3) then (0, if wv = -1 then f (14 + sW cv) else f (18 + 12 * sW wv + (8 + sW cv))) else (1, nI 0)
def swideN (f : sF) (o : Nat) : Nat → Int32 | 0 => nI 0 | w + 1 => swideN f o w + (if f (18 + 12 * w + 0) < f (90 + 12 * o + 2) then nI 0 else nI 1)
def sofOrder (f : sF) (o k : Nat) : Int32 := if k < 7 then if k < 6 then f (90 + 12 * o + k) else sgood f o else if k = 7 then (f (90 + 12 * o + 3) - sgood f o) * sgrams f o else swideN f o 6
def sorderOf (f : sF) (pv kv : Int32) : Nat × Int32 := if ¬ pv < 0 ∧ (nI 0 ≤ kv ∧ kv ≤ nI 8) then (0, if f 5 ≤ pv then -1 else sofOrder f (sW pv) (sW kv)) else (1, nI 0)
def swovenBy (f : sF) (pv wv : Int32) : Nat × Int32 := if 0 ≤ pv then if nI 0 ≤ wv ∧ wv ≤ nI 5 then (0, if f 5 ≤ pv then -1 else f (90 + 12 * sW pv + (6 + sW wv))) else (2, nI 0) else (1, nI 0)
/-- the chosen order of a weaver, none without a loom -/
def snch (f : sF) (w : Nat) : Option Nat := if f (18 + 12 * w + 0) = 0 then none else schos f w
def snext0 (f : sF) (w : Nat) : Int32 := match snch f w with | none => -1 | some o => f (90 + 12 * o + 0)
def snext1 (f : sF) (w : Nat) : Int32 := match snch f w with
  | none => if f (18 + 12 * w + 0) = 0 then nI 1 else nI 2
  | some o => if sgrams f o ≤ f (18 + 12 * w + (8 + scol f o)) ∨ (f 1 = nI 1 ∧ sgrams f o ≤ f (14 + scol f o)) then nI 0 else nI 3
def snextK (f : sF) (w k : Nat) : Int32 := if k = 0 then snext0 f w else snext1 f w
def snext (f : sF) (wv kv : Int32) : Nat × Int32 := if nI 0 ≤ wv ∧ wv ≤ nI 5 then if nI 0 ≤ kv ∧ kv ≤ nI 1 then (0, snextK f (sW wv) (sW kv)) else (2, nI 0) else (1, nI 0)
def sdebts (f : sF) : Int32 := ssum (fun w => f (18 + 12 * w + 3)) 6
def sloomsN (f : sF) : Nat → Int32 | 0 => nI 0 | w + 1 => sloomsN f w + (if f (18 + 12 * w + 0) ≤ 0 then nI 0 else nI 1)
def scounted (f : sF) (kept : Int32) (k : Nat) : Int32 := if k < 2 then f (4 + k) else if k < 8 then f (7 + k - 2) else if k = 8 then sdebts f else if k = 9 then sloomsN f 6 else if k = 10 then f 13 else kept
def scount (f : sF) (kept kv : Int32) : Nat × Int32 := if nI 0 ≤ kv ∧ kv ≤ nI 11 then (0, scounted f kept (sW kv)) else (1, nI 0)
def ssetting (f : sF) (sv : Int32) : Nat × Int32 := if nI 0 ≤ sv ∧ sv ≤ nI 3 then (0, f (sW sv)) else (1, nI 0)
theorem in_P {v : Int32} {n : Nat} (hn : n < 2 ^ 31) (h0 : ¬ v < 0) (h : ¬ nI n ≤ v) : ∃ w : Nat, w < n ∧ v = nI w := by
  obtain ⟨w, hw, rfl⟩ := in_N hn ⟨by rw [nI_0]; exact i32_nlt.mp h0, by have := i32_nle.mp h; rw [i32_lt] at this; rw [i32_le]; omega⟩
  exact ⟨w, by rw [nI_leI (by omega) (by omega)] at h; omega, rfl⟩
