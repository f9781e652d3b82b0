/-- only the rows that a forecast uses have changed -/
def mTh (I : jI) (x : Nat) (I' : jI) : Prop := ∀ b, b ≠ x + 2 → b ≠ x + 6 → I' b = I b
theorem mTh.tr {I I1 I2 : jI} {x : Nat} (h : mTh I x I1) (h2 : mTh I1 x I2) : mTh I x I2 := fun b a c => (h2 b a c).trans (h b a c)
theorem mTh.same {I I1 I2 : jI} {x : Nat} (h : mSame I x I1) (h2 : mTh I1 x I2) : mSame I x I2 :=
  ⟨fun b hb => (h2 b (by omega) (by omega)).trans (h.1 b hb), (h2 _ (by omega) (by omega)).trans h.2.1, (h2 _ (by omega) (by omega)).trans h.2.2.1, (h2 _ (by omega) (by omega)).trans h.2.2.2.1, (congrFun (h2 x (by omega) (by omega)) 3).trans h.2.2.2.2.1, (congrFun (h2 x (by omega) (by omega)) 5).trans h.2.2.2.2.2⟩
def sbyH (f : sF) (n k : Nat) : Int32 := if k = 3 then sdebts (shours f n) else if k = 0 then shours f n 7 - f 7 else if k = 1 then shours f n 9 - f 9 else if k = 2 then shours f n 11 - f 11 else shours f n 8 - f 8
def sifP (f : sF) (hv kv : Int32) : Nat × Int32 := if nI 1 ≤ hv ∧ hv ≤ nI 200 then if nI 0 ≤ kv ∧ kv ≤ nI 4 then (0, sbyH f (sW hv) (sW kv)) else (1, nI 0) else (1, nI 0)
def sgone (f : sF) (num : Int32) (i : Nat) : Bool := (splace (shours f (i + 1)) num).isNone
def sbehind (f : sF) (num : Int32) : Int32 := match sfst (sgone f num) 200 with | none => -1 | some i => nI (i + 1)
def sdoneIn (f : sF) (num : Int32) : Nat × Int32 := match splace f num with | none => (1, nI 0) | some _ => (0, sbehind f num)
def sbestN (f : sF) (n : Nat) : Nat → Int32 × Int32 × Int32
  | 0 => (-1, nI 0, nI 0)
  | r + 1 =>
    if (sbestN f n r).1 = -1 ∨ (sbestN f n r).2.1 < shours (upd f 0 (nI r)) n 9 ∨ (shours (upd f 0 (nI r)) n 9 = (sbestN f n r).2.1 ∧ shours (upd f 0 (nI r)) n 8 < (sbestN f n r).2.2) then (nI r, shours (upd f 0 (nI r)) n 9, shours (upd f 0 (nI r)) n 8)
    else sbestN f n r
def sbest (f : sF) (n : Nat) : Int32 := (sbestN f n 3).1
def sbestRule (f : sF) (hv : Int32) : Nat × Int32 := if nI 1 ≤ hv ∧ hv ≤ nI 99 then (0, sbest f (sW hv)) else (1, nI 0)
def sdueN (f : sF) (o w : Nat) : Int32 := sshares f o (swhole f o (sgood f o)) (sgood f o) (fun _ => nI 0) w
def sdueNow (f : sF) (num wv : Int32) : Nat × Int32 := match splace f num with | none => (1, nI 0) | some o => if nI 0 ≤ wv ∧ wv ≤ nI 5 then (0, sdueN f o (sW wv)) else (1, nI 0)
theorem sOK_0 {f : sF} {v : Int32} (h : sOK f) : sOK (upd f 0 v) := sOK_of h (upd_n (by decide)) (fun o ho => upd_n (by omega)) (fun w hw => upd_n (by omega))
