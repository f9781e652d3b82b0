/-! THE CLASS'S HALL: its cells by the order in which they are made, and how they hold the flat state -/
def hS (Sh : jS) (h : Nat) : Prop := Sh h = some (0, 0) ∧ Sh (h + 1) = some (12, 6) ∧ Sh (h + 2) = some (13, 10) ∧ Sh (h + 3) = some (4, 0) ∧ Sh (h + 4) = some (10, 4) ∧ Sh (h + 5) = some (10, 4) ∧ Sh (h + 6) = some (10, 6) ∧ (∀ w, w < 6 → Sh (h + 7 + 3 * w) = some (3, 0) ∧ Sh (h + 8 + 3 * w) = some (4, 0) ∧ Sh (h + 9 + 3 * w) = some (10, 4)) ∧ ∀ j, j < 10 → Sh (h + 25 + 2 * j) = some (1, 0) ∧ Sh (h + 26 + 2 * j) = some (10, 6)
def hP (P : jP) (h : Nat) : Prop := P h 0 = some (h + 1) ∧ P h 1 = some (h + 2) ∧ P h 2 = some (h + 3) ∧ P h 3 = some (h + 5) ∧ P h 4 = some (h + 6) ∧ P (h + 3) 0 = some (h + 4) ∧ (∀ w, w < 6 → P (h + 1) w = some (h + 7 + 3 * w) ∧ P (h + 7 + 3 * w) 0 = some (h + 8 + 3 * w) ∧ P (h + 8 + 3 * w) 0 = some (h + 9 + 3 * w)) ∧ ∀ j, j < 10 → P (h + 25 + 2 * j) 0 = some (h + 26 + 2 * j)
def hG (P : jP) (h : Nat) (og : Nat → Nat) : Prop := (∀ j, j < 10 → P (h + 2) j = some (h + 25 + 2 * og j) ∧ og j < 10) ∧ ∀ i j, i < 10 → j < 10 → og i = og j → i = j
def hR (I : jI) (h : Nat) (og : Nat → Nat) (f : sF) : Prop :=
  (∀ w k, w < 6 → k < 8 → I (h + 7 + 3 * w) (k + 1) = f (18 + 12 * w + k)) ∧
  (∀ w c, w < 6 → c < 4 → I (h + 9 + 3 * w) c = f (18 + 12 * w + (8 + c))) ∧
  (∀ c, c < 4 → I (h + 4) c = f (14 + c)) ∧ (∀ k, k < 4 → I (h + 5) k = f k) ∧
  (I h 5 = f 5 ∧ I h 6 = f 6 ∧ I h 7 = f 4 ∧ I h 8 = f 7 ∧ I h 9 = f 8 ∧ I h 10 = f 9 ∧ I h 11 = f 12 ∧ I h 12 = f 13) ∧
  ∀ o, o < smany f → (∀ k, k < 6 → I (h + 25 + 2 * og o) (k + 1) = f (90 + 12 * o + k)) ∧ I (h + 25 + 2 * og o) 7 = sgood f o ∧ ∀ w, w < 6 → I (h + 26 + 2 * og o) w = f (90 + 12 * o + (6 + w))
/-- the memory outside the hall stays -/
def hF (I : jI) (h : Nat) (I' : jI) : Prop := ∀ b, b < h ∨ h + 45 ≤ b → I' b = I b
def hFP (P : jP) (h : Nat) (P' : jP) : Prop := ∀ b, b ≠ h + 2 → P' b = P b
theorem hF.rf {I : jI} {h : Nat} : hF I h I := fun _ _ => rfl
theorem hF.tr {I I1 I2 : jI} {h : Nat} (a : hF I h I1) (b : hF I1 h I2) : hF I h I2 := fun q hq => (b q hq).trans (a q hq)
theorem hF.st {I I1 : jI} {h a k : Nat} {v : Int32} (F : hF I h I1) (ha : h ≤ a ∧ a < h + 45) : hF I h (jst I1 a k v) := fun q hq => (jst_ne (by omega)).trans (F q hq)
theorem hF.up {I I1 : jI} {h a : Nat} {g : Nat → Int32} (F : hF I h I1) (ha : h ≤ a ∧ a < h + 45) : hF I h (va_up I1 a g) := fun q hq => (va_up_n (by omega)).trans (F q hq)
theorem hFP.rf {P : jP} {h : Nat} : hFP P h P := fun _ _ => rfl
theorem hFP.tr {P P1 P2 : jP} {h : Nat} (a : hFP P h P1) (b : hFP P1 h P2) : hFP P h P2 := fun q hq => (b q hq).trans (a q hq)
theorem hP.fr {P P' : jP} {h : Nat} (H : hP P h) (F : hFP P h P') : hP P' h := by
  obtain ⟨a1, a2, a3, a4, a5, a6, a7, a8⟩ := H
  refine ⟨by rw [F _ (by omega)]; exact a1, by rw [F _ (by omega)]; exact a2, by rw [F _ (by omega)]; exact a3, by rw [F _ (by omega)]; exact a4, by rw [F _ (by omega)]; exact a5, by rw [F _ (by omega)]; exact a6, fun w hw => ⟨by rw [F _ (by omega)]; exact (a7 w hw).1, by rw [F _ (by omega)]; exact (a7 w hw).2.1, by rw [F _ (by omega)]; exact (a7 w hw).2.2⟩, fun j hj => by rw [F _ (by omega)]; exact a8 j hj⟩
theorem hG.lt {P : jP} {h : Nat} {og : Nat → Nat} (H : hG P h og) : ∀ j, j < 10 → og j < 10 := fun j hj => (H.1 j hj).2
theorem sgood_e {f g : sF} {o : Nat} (h : ∀ w, w < 6 → g (90 + 12 * o + (6 + w)) = f (90 + 12 * o + (6 + w))) : sgood g o = sgood f o := ssum_c h
theorem ssum_up {g g2 : Nat → Int32} {w : Nat} (hw : g2 w = g w + nI 1) : ∀ n, (∀ v, v < n → v ≠ w → g2 v = g v) → (w < n → ssum g2 n = ssum g n + nI 1) ∧ (¬ w < n → ssum g2 n = ssum g n) := by
  intro n
  induction n with
  | zero => exact fun _ => ⟨fun h => absurd h (Nat.not_lt_zero w), fun _ => rfl⟩
  | succ n ih =>
    intro ho
    have ih := ih (fun v hv => ho v (by omega))
    refine ⟨fun h => ?_, fun h => ?_⟩
    · show ssum g2 n + g2 n = ssum g n + g n + nI 1
      by_cases he : w = n
      · subst he
        rw [ih.2 (Nat.lt_irrefl w), hw, Int32.add_assoc]
      · rw [ih.1 (by omega), ho n (by omega) (Ne.symm he), Int32.add_assoc, Int32.add_assoc, Int32.add_comm (nI 1)]
    · show ssum g2 n + g2 n = ssum g n + g n
      rw [ih.2 (by omega), ho n (by omega) (by omega)]
theorem sgood_up {f : sF} {o w : Nat} (hw : w < 6) : sgood (upd f (90 + 12 * o + 6 + w) (f (90 + 12 * o + 6 + w) + nI 1)) o = sgood f o + nI 1 :=
  (ssum_up (w := w) (by show upd f _ _ (90 + 12 * o + (6 + w)) = f (90 + 12 * o + (6 + w)) + nI 1; rw [← Nat.add_assoc]; exact upd_s) 6 (fun v hv6 hv => by show upd f _ _ (90 + 12 * o + (6 + v)) = f (90 + 12 * o + (6 + v)); exact upd_n (by omega))).1 hw
theorem hR.wv {I : jI} {h : Nat} {og : Nat → Nat} {f : sF} (H : hR I h og f) {w k : Nat} (hw : w < 6) (hk : k < 8) : I (h + 7 + 3 * w) (k + 1) = f (18 + 12 * w + k) := H.1 w k hw hk
theorem hR.sh {I : jI} {h : Nat} {og : Nat → Nat} {f : sF} (H : hR I h og f) {w c : Nat} (hw : w < 6) (hc : c < 4) : I (h + 9 + 3 * w) c = f (18 + 12 * w + (8 + c)) := H.2.1 w c hw hc
theorem hR.st {I : jI} {h : Nat} {og : Nat → Nat} {f : sF} (H : hR I h og f) {c : Nat} (hc : c < 4) : I (h + 4) c = f (14 + c) := H.2.2.1 c hc
theorem hR.se {I : jI} {h : Nat} {og : Nat → Nat} {f : sF} (H : hR I h og f) {k : Nat} (hk : k < 4) : I (h + 5) k = f k := H.2.2.2.1 k hk
theorem hR.od {I : jI} {h : Nat} {og : Nat → Nat} {f : sF} (H : hR I h og f) {o k : Nat} (ho : o < smany f) (hk : k < 6) : I (h + 25 + 2 * og o) (k + 1) = f (90 + 12 * o + k) := (H.2.2.2.2.2 o ho).1 k hk
theorem hR.gd {I : jI} {h : Nat} {og : Nat → Nat} {f : sF} (H : hR I h og f) {o : Nat} (ho : o < smany f) : I (h + 25 + 2 * og o) 7 = sgood f o := (H.2.2.2.2.2 o ho).2.1
theorem hR.by {I : jI} {h : Nat} {og : Nat → Nat} {f : sF} (H : hR I h og f) {o w : Nat} (ho : o < smany f) (hw : w < 6) : I (h + 26 + 2 * og o) w = f (90 + 12 * o + (6 + w)) := (H.2.2.2.2.2 o ho).2.2 w hw
theorem hR.n5 {I : jI} {h : Nat} {og : Nat → Nat} {f : sF} (H : hR I h og f) : I h 5 = f 5 := H.2.2.2.2.1.1
theorem hR.n6 {I : jI} {h : Nat} {og : Nat → Nat} {f : sF} (H : hR I h og f) : I h 6 = f 6 := H.2.2.2.2.1.2.1
theorem hR.n7 {I : jI} {h : Nat} {og : Nat → Nat} {f : sF} (H : hR I h og f) : I h 7 = f 4 := H.2.2.2.2.1.2.2.1
theorem hR.n8 {I : jI} {h : Nat} {og : Nat → Nat} {f : sF} (H : hR I h og f) : I h 8 = f 7 := H.2.2.2.2.1.2.2.2.1
theorem hR.n9 {I : jI} {h : Nat} {og : Nat → Nat} {f : sF} (H : hR I h og f) : I h 9 = f 8 := H.2.2.2.2.1.2.2.2.2.1
theorem hR.n10 {I : jI} {h : Nat} {og : Nat → Nat} {f : sF} (H : hR I h og f) : I h 10 = f 9 := H.2.2.2.2.1.2.2.2.2.2.1
theorem hR.n11 {I : jI} {h : Nat} {og : Nat → Nat} {f : sF} (H : hR I h og f) : I h 11 = f 12 := H.2.2.2.2.1.2.2.2.2.2.2.1
theorem hR.n12 {I : jI} {h : Nat} {og : Nat → Nat} {f : sF} (H : hR I h og f) : I h 12 = f 13 := H.2.2.2.2.1.2.2.2.2.2.2.2
theorem hR.pw {I : jI} {h : Nat} {og : Nat → Nat} {f : sF} (H : hR I h og f) (hm : smany f ≤ 10) (hg : ∀ j, j < 10 → og j < 10) {w k : Nat} (hw : w < 6) (hk : k < 8) {v : Int32} : hR (jst I (h + 7 + 3 * w) (k + 1) v) h og (upd f (18 + 12 * w + k) v) := by
  have e5 : smany (upd f (18 + 12 * w + k) v) = smany f := by unfold smany; rw [upd_n (by omega)]
  obtain ⟨H1, H2, H3, H4, ⟨a5, a6, a7, a8, a9, a10, a11, a12⟩, H6⟩ := H
  refine ⟨fun w' k' h1 h2 => ?_, fun w' k' h1 h2 => ?_, fun k' h1 => ?_, fun k' h1 => ?_, ⟨?_, ?_, ?_, ?_, ?_, ?_, ?_, ?_⟩, fun o' ho => ?_⟩
  · by_cases q1 : w' = w
    · subst q1
      rw [jst_eq]
      by_cases q2 : k' = k
      · subst q2; rw [upd_s, upd_s]
      · rw [upd_n (by omega), upd_n (by omega)]; exact H1 _ k' h1 h2
    · rw [jst_ne (by omega), upd_n (by omega)]; exact H1 w' k' h1 h2
  · rw [jst_ne (by omega), upd_n (by omega)]; exact H2 w' k' h1 h2
  · rw [jst_ne (by omega), upd_n (by omega)]; exact H3 k' h1
  · rw [jst_ne (by omega), upd_n (by omega)]; exact H4 k' h1
  · rw [jst_ne (by omega), upd_n (by omega)]; exact a5
  · rw [jst_ne (by omega), upd_n (by omega)]; exact a6
  · rw [jst_ne (by omega), upd_n (by omega)]; exact a7
  · rw [jst_ne (by omega), upd_n (by omega)]; exact a8
  · rw [jst_ne (by omega), upd_n (by omega)]; exact a9
  · rw [jst_ne (by omega), upd_n (by omega)]; exact a10
  · rw [jst_ne (by omega), upd_n (by omega)]; exact a11
  · rw [jst_ne (by omega), upd_n (by omega)]; exact a12
  · rw [e5] at ho
    have hq := hg o' (by omega)
    refine ⟨fun k' hk => ?_, ?_, fun w' hw => ?_⟩
    · rw [jst_ne (by omega), upd_n (by omega)]; exact (H6 o' ho).1 k' hk
    · rw [jst_ne (by omega), sgood_e (fun w' hw => upd_n (by omega))]; exact (H6 o' ho).2.1
    · rw [jst_ne (by omega), upd_n (by omega)]; exact (H6 o' ho).2.2 w' hw
theorem hR.ps {I : jI} {h : Nat} {og : Nat → Nat} {f : sF} (H : hR I h og f) (hm : smany f ≤ 10) (hg : ∀ j, j < 10 → og j < 10) {w c : Nat} (hw : w < 6) (hc : c < 4) {v : Int32} : hR (jst I (h + 9 + 3 * w) (c) v) h og (upd f (18 + 12 * w + (8 + c)) v) := by
  have e5 : smany (upd f (18 + 12 * w + (8 + c)) v) = smany f := by unfold smany; rw [upd_n (by omega)]
  obtain ⟨H1, H2, H3, H4, ⟨a5, a6, a7, a8, a9, a10, a11, a12⟩, H6⟩ := H
  refine ⟨fun w' k' h1 h2 => ?_, fun w' k' h1 h2 => ?_, fun k' h1 => ?_, fun k' h1 => ?_, ⟨?_, ?_, ?_, ?_, ?_, ?_, ?_, ?_⟩, fun o' ho => ?_⟩
  · rw [jst_ne (by omega), upd_n (by omega)]; exact H1 w' k' h1 h2
  · by_cases q1 : w' = w
    · subst q1
      rw [jst_eq]
      by_cases q2 : k' = c
      · subst q2; rw [upd_s, upd_s]
      · rw [upd_n (by omega), upd_n (by omega)]; exact H2 _ k' h1 h2
    · rw [jst_ne (by omega), upd_n (by omega)]; exact H2 w' k' h1 h2
  · rw [jst_ne (by omega), upd_n (by omega)]; exact H3 k' h1
  · rw [jst_ne (by omega), upd_n (by omega)]; exact H4 k' h1
  · rw [jst_ne (by omega), upd_n (by omega)]; exact a5
  · rw [jst_ne (by omega), upd_n (by omega)]; exact a6
  · rw [jst_ne (by omega), upd_n (by omega)]; exact a7
  · rw [jst_ne (by omega), upd_n (by omega)]; exact a8
  · rw [jst_ne (by omega), upd_n (by omega)]; exact a9
  · rw [jst_ne (by omega), upd_n (by omega)]; exact a10
  · rw [jst_ne (by omega), upd_n (by omega)]; exact a11
  · rw [jst_ne (by omega), upd_n (by omega)]; exact a12
  · rw [e5] at ho
    have hq := hg o' (by omega)
    refine ⟨fun k' hk => ?_, ?_, fun w' hw => ?_⟩
    · rw [jst_ne (by omega), upd_n (by omega)]; exact (H6 o' ho).1 k' hk
    · rw [jst_ne (by omega), sgood_e (fun w' hw => upd_n (by omega))]; exact (H6 o' ho).2.1
    · rw [jst_ne (by omega), upd_n (by omega)]; exact (H6 o' ho).2.2 w' hw
theorem hR.pt {I : jI} {h : Nat} {og : Nat → Nat} {f : sF} (H : hR I h og f) (hm : smany f ≤ 10) (hg : ∀ j, j < 10 → og j < 10) {c : Nat} (hc : c < 4) {v : Int32} : hR (jst I (h + 4) (c) v) h og (upd f (14 + c) v) := by
  have e5 : smany (upd f (14 + c) v) = smany f := by unfold smany; rw [upd_n (by omega)]
  obtain ⟨H1, H2, H3, H4, ⟨a5, a6, a7, a8, a9, a10, a11, a12⟩, H6⟩ := H
  refine ⟨fun w' k' h1 h2 => ?_, fun w' k' h1 h2 => ?_, fun k' h1 => ?_, fun k' h1 => ?_, ⟨?_, ?_, ?_, ?_, ?_, ?_, ?_, ?_⟩, fun o' ho => ?_⟩
  · rw [jst_ne (by omega), upd_n (by omega)]; exact H1 w' k' h1 h2
  · rw [jst_ne (by omega), upd_n (by omega)]; exact H2 w' k' h1 h2
  · rw [jst_eq]
    by_cases q2 : k' = c
    · subst q2; rw [upd_s, upd_s]
    · rw [upd_n (by omega), upd_n (by omega)]; exact H3 k' h1
  · rw [jst_ne (by omega), upd_n (by omega)]; exact H4 k' h1
  · rw [jst_ne (by omega), upd_n (by omega)]; exact a5
  · rw [jst_ne (by omega), upd_n (by omega)]; exact a6
  · rw [jst_ne (by omega), upd_n (by omega)]; exact a7
  · rw [jst_ne (by omega), upd_n (by omega)]; exact a8
  · rw [jst_ne (by omega), upd_n (by omega)]; exact a9
  · rw [jst_ne (by omega), upd_n (by omega)]; exact a10
  · rw [jst_ne (by omega), upd_n (by omega)]; exact a11
  · rw [jst_ne (by omega), upd_n (by omega)]; exact a12
  · rw [e5] at ho
    have hq := hg o' (by omega)
    refine ⟨fun k' hk => ?_, ?_, fun w' hw => ?_⟩
    · rw [jst_ne (by omega), upd_n (by omega)]; exact (H6 o' ho).1 k' hk
    · rw [jst_ne (by omega), sgood_e (fun w' hw => upd_n (by omega))]; exact (H6 o' ho).2.1
    · rw [jst_ne (by omega), upd_n (by omega)]; exact (H6 o' ho).2.2 w' hw
theorem hR.pe {I : jI} {h : Nat} {og : Nat → Nat} {f : sF} (H : hR I h og f) (hm : smany f ≤ 10) (hg : ∀ j, j < 10 → og j < 10) {k : Nat} (hk : k < 4) {v : Int32} : hR (jst I (h + 5) (k) v) h og (upd f (k) v) := by
  have e5 : smany (upd f (k) v) = smany f := by unfold smany; rw [upd_n (by omega)]
  obtain ⟨H1, H2, H3, H4, ⟨a5, a6, a7, a8, a9, a10, a11, a12⟩, H6⟩ := H
  refine ⟨fun w' k' h1 h2 => ?_, fun w' k' h1 h2 => ?_, fun k' h1 => ?_, fun k' h1 => ?_, ⟨?_, ?_, ?_, ?_, ?_, ?_, ?_, ?_⟩, fun o' ho => ?_⟩
  · rw [jst_ne (by omega), upd_n (by omega)]; exact H1 w' k' h1 h2
  · rw [jst_ne (by omega), upd_n (by omega)]; exact H2 w' k' h1 h2
  · rw [jst_ne (by omega), upd_n (by omega)]; exact H3 k' h1
  · rw [jst_eq]
    by_cases q2 : k' = k
    · subst q2; rw [upd_s, upd_s]
    · rw [upd_n (by omega), upd_n (by omega)]; exact H4 k' h1
  · rw [jst_ne (by omega), upd_n (by omega)]; exact a5
  · rw [jst_ne (by omega), upd_n (by omega)]; exact a6
  · rw [jst_ne (by omega), upd_n (by omega)]; exact a7
  · rw [jst_ne (by omega), upd_n (by omega)]; exact a8
  · rw [jst_ne (by omega), upd_n (by omega)]; exact a9
  · rw [jst_ne (by omega), upd_n (by omega)]; exact a10
  · rw [jst_ne (by omega), upd_n (by omega)]; exact a11
  · rw [jst_ne (by omega), upd_n (by omega)]; exact a12
  · rw [e5] at ho
    have hq := hg o' (by omega)
    refine ⟨fun k' hk => ?_, ?_, fun w' hw => ?_⟩
    · rw [jst_ne (by omega), upd_n (by omega)]; exact (H6 o' ho).1 k' hk
    · rw [jst_ne (by omega), sgood_e (fun w' hw => upd_n (by omega))]; exact (H6 o' ho).2.1
    · rw [jst_ne (by omega), upd_n (by omega)]; exact (H6 o' ho).2.2 w' hw
theorem hR.p7 {I : jI} {h : Nat} {og : Nat → Nat} {f : sF} (H : hR I h og f) (hm : smany f ≤ 10) (hg : ∀ j, j < 10 → og j < 10)  {v : Int32} : hR (jst I (h) (7) v) h og (upd f (4) v) := by
  have e5 : smany (upd f (4) v) = smany f := by unfold smany; rw [upd_n (by omega)]
  obtain ⟨H1, H2, H3, H4, ⟨a5, a6, a7, a8, a9, a10, a11, a12⟩, H6⟩ := H
  refine ⟨fun w' k' h1 h2 => ?_, fun w' k' h1 h2 => ?_, fun k' h1 => ?_, fun k' h1 => ?_, ⟨?_, ?_, ?_, ?_, ?_, ?_, ?_, ?_⟩, fun o' ho => ?_⟩
  · rw [jst_ne (by omega), upd_n (by omega)]; exact H1 w' k' h1 h2
  · rw [jst_ne (by omega), upd_n (by omega)]; exact H2 w' k' h1 h2
  · rw [jst_ne (by omega), upd_n (by omega)]; exact H3 k' h1
  · rw [jst_ne (by omega), upd_n (by omega)]; exact H4 k' h1
  · rw [jst_eq, upd_n (by decide), upd_n (by decide)]; exact a5
  · rw [jst_eq, upd_n (by decide), upd_n (by decide)]; exact a6
  · rw [jst_eq, upd_s, upd_s]
  · rw [jst_eq, upd_n (by decide), upd_n (by decide)]; exact a8
  · rw [jst_eq, upd_n (by decide), upd_n (by decide)]; exact a9
  · rw [jst_eq, upd_n (by decide), upd_n (by decide)]; exact a10
  · rw [jst_eq, upd_n (by decide), upd_n (by decide)]; exact a11
  · rw [jst_eq, upd_n (by decide), upd_n (by decide)]; exact a12
  · rw [e5] at ho
    have hq := hg o' (by omega)
    refine ⟨fun k' hk => ?_, ?_, fun w' hw => ?_⟩
    · rw [jst_ne (by omega), upd_n (by omega)]; exact (H6 o' ho).1 k' hk
    · rw [jst_ne (by omega), sgood_e (fun w' hw => upd_n (by omega))]; exact (H6 o' ho).2.1
    · rw [jst_ne (by omega), upd_n (by omega)]; exact (H6 o' ho).2.2 w' hw
theorem hR.p8 {I : jI} {h : Nat} {og : Nat → Nat} {f : sF} (H : hR I h og f) (hm : smany f ≤ 10) (hg : ∀ j, j < 10 → og j < 10)  {v : Int32} : hR (jst I (h) (8) v) h og (upd f (7) v) := by
  have e5 : smany (upd f (7) v) = smany f := by unfold smany; rw [upd_n (by omega)]
  obtain ⟨H1, H2, H3, H4, ⟨a5, a6, a7, a8, a9, a10, a11, a12⟩, H6⟩ := H
  refine ⟨fun w' k' h1 h2 => ?_, fun w' k' h1 h2 => ?_, fun k' h1 => ?_, fun k' h1 => ?_, ⟨?_, ?_, ?_, ?_, ?_, ?_, ?_, ?_⟩, fun o' ho => ?_⟩
  · rw [jst_ne (by omega), upd_n (by omega)]; exact H1 w' k' h1 h2
  · rw [jst_ne (by omega), upd_n (by omega)]; exact H2 w' k' h1 h2
  · rw [jst_ne (by omega), upd_n (by omega)]; exact H3 k' h1
  · rw [jst_ne (by omega), upd_n (by omega)]; exact H4 k' h1
  · rw [jst_eq, upd_n (by decide), upd_n (by decide)]; exact a5
  · rw [jst_eq, upd_n (by decide), upd_n (by decide)]; exact a6
  · rw [jst_eq, upd_n (by decide), upd_n (by decide)]; exact a7
  · rw [jst_eq, upd_s, upd_s]
  · rw [jst_eq, upd_n (by decide), upd_n (by decide)]; exact a9
  · rw [jst_eq, upd_n (by decide), upd_n (by decide)]; exact a10
  · rw [jst_eq, upd_n (by decide), upd_n (by decide)]; exact a11
  · rw [jst_eq, upd_n (by decide), upd_n (by decide)]; exact a12
  · rw [e5] at ho
    have hq := hg o' (by omega)
    refine ⟨fun k' hk => ?_, ?_, fun w' hw => ?_⟩
    · rw [jst_ne (by omega), upd_n (by omega)]; exact (H6 o' ho).1 k' hk
    · rw [jst_ne (by omega), sgood_e (fun w' hw => upd_n (by omega))]; exact (H6 o' ho).2.1
    · rw [jst_ne (by omega), upd_n (by omega)]; exact (H6 o' ho).2.2 w' hw
theorem hR.p9 {I : jI} {h : Nat} {og : Nat → Nat} {f : sF} (H : hR I h og f) (hm : smany f ≤ 10) (hg : ∀ j, j < 10 → og j < 10)  {v : Int32} : hR (jst I (h) (9) v) h og (upd f (8) v) := by
  have e5 : smany (upd f (8) v) = smany f := by unfold smany; rw [upd_n (by omega)]
  obtain ⟨H1, H2, H3, H4, ⟨a5, a6, a7, a8, a9, a10, a11, a12⟩, H6⟩ := H
  refine ⟨fun w' k' h1 h2 => ?_, fun w' k' h1 h2 => ?_, fun k' h1 => ?_, fun k' h1 => ?_, ⟨?_, ?_, ?_, ?_, ?_, ?_, ?_, ?_⟩, fun o' ho => ?_⟩
  · rw [jst_ne (by omega), upd_n (by omega)]; exact H1 w' k' h1 h2
  · rw [jst_ne (by omega), upd_n (by omega)]; exact H2 w' k' h1 h2
  · rw [jst_ne (by omega), upd_n (by omega)]; exact H3 k' h1
  · rw [jst_ne (by omega), upd_n (by omega)]; exact H4 k' h1
  · rw [jst_eq, upd_n (by decide), upd_n (by decide)]; exact a5
  · rw [jst_eq, upd_n (by decide), upd_n (by decide)]; exact a6
  · rw [jst_eq, upd_n (by decide), upd_n (by decide)]; exact a7
  · rw [jst_eq, upd_n (by decide), upd_n (by decide)]; exact a8
  · rw [jst_eq, upd_s, upd_s]
  · rw [jst_eq, upd_n (by decide), upd_n (by decide)]; exact a10
  · rw [jst_eq, upd_n (by decide), upd_n (by decide)]; exact a11
  · rw [jst_eq, upd_n (by decide), upd_n (by decide)]; exact a12
  · rw [e5] at ho
    have hq := hg o' (by omega)
    refine ⟨fun k' hk => ?_, ?_, fun w' hw => ?_⟩
    · rw [jst_ne (by omega), upd_n (by omega)]; exact (H6 o' ho).1 k' hk
    · rw [jst_ne (by omega), sgood_e (fun w' hw => upd_n (by omega))]; exact (H6 o' ho).2.1
    · rw [jst_ne (by omega), upd_n (by omega)]; exact (H6 o' ho).2.2 w' hw
theorem hR.p10 {I : jI} {h : Nat} {og : Nat → Nat} {f : sF} (H : hR I h og f) (hm : smany f ≤ 10) (hg : ∀ j, j < 10 → og j < 10)  {v : Int32} : hR (jst I (h) (10) v) h og (upd f (9) v) := by
  have e5 : smany (upd f (9) v) = smany f := by unfold smany; rw [upd_n (by omega)]
  obtain ⟨H1, H2, H3, H4, ⟨a5, a6, a7, a8, a9, a10, a11, a12⟩, H6⟩ := H
  refine ⟨fun w' k' h1 h2 => ?_, fun w' k' h1 h2 => ?_, fun k' h1 => ?_, fun k' h1 => ?_, ⟨?_, ?_, ?_, ?_, ?_, ?_, ?_, ?_⟩, fun o' ho => ?_⟩
  · rw [jst_ne (by omega), upd_n (by omega)]; exact H1 w' k' h1 h2
  · rw [jst_ne (by omega), upd_n (by omega)]; exact H2 w' k' h1 h2
  · rw [jst_ne (by omega), upd_n (by omega)]; exact H3 k' h1
  · rw [jst_ne (by omega), upd_n (by omega)]; exact H4 k' h1
  · rw [jst_eq, upd_n (by decide), upd_n (by decide)]; exact a5
  · rw [jst_eq, upd_n (by decide), upd_n (by decide)]; exact a6
  · rw [jst_eq, upd_n (by decide), upd_n (by decide)]; exact a7
  · rw [jst_eq, upd_n (by decide), upd_n (by decide)]; exact a8
  · rw [jst_eq, upd_n (by decide), upd_n (by decide)]; exact a9
  · rw [jst_eq, upd_s, upd_s]
  · rw [jst_eq, upd_n (by decide), upd_n (by decide)]; exact a11
  · rw [jst_eq, upd_n (by decide), upd_n (by decide)]; exact a12
  · rw [e5] at ho
    have hq := hg o' (by omega)
    refine ⟨fun k' hk => ?_, ?_, fun w' hw => ?_⟩
    · rw [jst_ne (by omega), upd_n (by omega)]; exact (H6 o' ho).1 k' hk
    · rw [jst_ne (by omega), sgood_e (fun w' hw => upd_n (by omega))]; exact (H6 o' ho).2.1
    · rw [jst_ne (by omega), upd_n (by omega)]; exact (H6 o' ho).2.2 w' hw
theorem hR.p11 {I : jI} {h : Nat} {og : Nat → Nat} {f : sF} (H : hR I h og f) (hm : smany f ≤ 10) (hg : ∀ j, j < 10 → og j < 10)  {v : Int32} : hR (jst I (h) (11) v) h og (upd f (12) v) := by
  have e5 : smany (upd f (12) v) = smany f := by unfold smany; rw [upd_n (by omega)]
  obtain ⟨H1, H2, H3, H4, ⟨a5, a6, a7, a8, a9, a10, a11, a12⟩, H6⟩ := H
  refine ⟨fun w' k' h1 h2 => ?_, fun w' k' h1 h2 => ?_, fun k' h1 => ?_, fun k' h1 => ?_, ⟨?_, ?_, ?_, ?_, ?_, ?_, ?_, ?_⟩, fun o' ho => ?_⟩
  · rw [jst_ne (by omega), upd_n (by omega)]; exact H1 w' k' h1 h2
  · rw [jst_ne (by omega), upd_n (by omega)]; exact H2 w' k' h1 h2
  · rw [jst_ne (by omega), upd_n (by omega)]; exact H3 k' h1
  · rw [jst_ne (by omega), upd_n (by omega)]; exact H4 k' h1
  · rw [jst_eq, upd_n (by decide), upd_n (by decide)]; exact a5
  · rw [jst_eq, upd_n (by decide), upd_n (by decide)]; exact a6
  · rw [jst_eq, upd_n (by decide), upd_n (by decide)]; exact a7
  · rw [jst_eq, upd_n (by decide), upd_n (by decide)]; exact a8
  · rw [jst_eq, upd_n (by decide), upd_n (by decide)]; exact a9
  · rw [jst_eq, upd_n (by decide), upd_n (by decide)]; exact a10
  · rw [jst_eq, upd_s, upd_s]
  · rw [jst_eq, upd_n (by decide), upd_n (by decide)]; exact a12
  · rw [e5] at ho
    have hq := hg o' (by omega)
    refine ⟨fun k' hk => ?_, ?_, fun w' hw => ?_⟩
    · rw [jst_ne (by omega), upd_n (by omega)]; exact (H6 o' ho).1 k' hk
    · rw [jst_ne (by omega), sgood_e (fun w' hw => upd_n (by omega))]; exact (H6 o' ho).2.1
    · rw [jst_ne (by omega), upd_n (by omega)]; exact (H6 o' ho).2.2 w' hw
theorem hR.p12 {I : jI} {h : Nat} {og : Nat → Nat} {f : sF} (H : hR I h og f) (hm : smany f ≤ 10) (hg : ∀ j, j < 10 → og j < 10)  {v : Int32} : hR (jst I (h) (12) v) h og (upd f (13) v) := by
  have e5 : smany (upd f (13) v) = smany f := by unfold smany; rw [upd_n (by omega)]
  obtain ⟨H1, H2, H3, H4, ⟨a5, a6, a7, a8, a9, a10, a11, a12⟩, H6⟩ := H
  refine ⟨fun w' k' h1 h2 => ?_, fun w' k' h1 h2 => ?_, fun k' h1 => ?_, fun k' h1 => ?_, ⟨?_, ?_, ?_, ?_, ?_, ?_, ?_, ?_⟩, fun o' ho => ?_⟩
  · rw [jst_ne (by omega), upd_n (by omega)]; exact H1 w' k' h1 h2
  · rw [jst_ne (by omega), upd_n (by omega)]; exact H2 w' k' h1 h2
  · rw [jst_ne (by omega), upd_n (by omega)]; exact H3 k' h1
  · rw [jst_ne (by omega), upd_n (by omega)]; exact H4 k' h1
  · rw [jst_eq, upd_n (by decide), upd_n (by decide)]; exact a5
  · rw [jst_eq, upd_n (by decide), upd_n (by decide)]; exact a6
  · rw [jst_eq, upd_n (by decide), upd_n (by decide)]; exact a7
  · rw [jst_eq, upd_n (by decide), upd_n (by decide)]; exact a8
  · rw [jst_eq, upd_n (by decide), upd_n (by decide)]; exact a9
  · rw [jst_eq, upd_n (by decide), upd_n (by decide)]; exact a10
  · rw [jst_eq, upd_n (by decide), upd_n (by decide)]; exact a11
  · rw [jst_eq, upd_s, upd_s]
  · rw [e5] at ho
    have hq := hg o' (by omega)
    refine ⟨fun k' hk => ?_, ?_, fun w' hw => ?_⟩
    · rw [jst_ne (by omega), upd_n (by omega)]; exact (H6 o' ho).1 k' hk
    · rw [jst_ne (by omega), sgood_e (fun w' hw => upd_n (by omega))]; exact (H6 o' ho).2.1
    · rw [jst_ne (by omega), upd_n (by omega)]; exact (H6 o' ho).2.2 w' hw
theorem hR.keep {I : jI} {h : Nat} {og : Nat → Nat} {f : sF} (H : hR I h og f) {I' : jI} (hm : smany f ≤ 10) (hg : ∀ j, j < 10 → og j < 10) (K : ∀ b, h ≤ b → b < h + 45 → b ≠ h + 6 → I' b = I b) : hR I' h og f := by
  obtain ⟨H1, H2, H3, H4, ⟨a5, a6, a7, a8, a9, a10, a11, a12⟩, H6⟩ := H
  refine ⟨fun w k h1 h2 => ?_, fun w c h1 h2 => ?_, fun c h1 => ?_, fun k h1 => ?_, ⟨?_, ?_, ?_, ?_, ?_, ?_, ?_, ?_⟩, fun o ho => ?_⟩
  · rw [K _ (by omega) (by omega) (by omega)]; exact H1 w k h1 h2
  · rw [K _ (by omega) (by omega) (by omega)]; exact H2 w c h1 h2
  · rw [K _ (by omega) (by omega) (by omega)]; exact H3 c h1
  · rw [K _ (by omega) (by omega) (by omega)]; exact H4 k h1
  · rw [K _ (by omega) (by omega) (by omega)]; exact a5
  · rw [K _ (by omega) (by omega) (by omega)]; exact a6
  · rw [K _ (by omega) (by omega) (by omega)]; exact a7
  · rw [K _ (by omega) (by omega) (by omega)]; exact a8
  · rw [K _ (by omega) (by omega) (by omega)]; exact a9
  · rw [K _ (by omega) (by omega) (by omega)]; exact a10
  · rw [K _ (by omega) (by omega) (by omega)]; exact a11
  · rw [K _ (by omega) (by omega) (by omega)]; exact a12
  · have hq := hg o (by omega)
    refine ⟨fun k hk => ?_, ?_, fun w hw => ?_⟩
    · rw [K _ (by omega) (by omega) (by omega)]; exact (H6 o ho).1 k hk
    · rw [K _ (by omega) (by omega) (by omega)]; exact (H6 o ho).2.1
    · rw [K _ (by omega) (by omega) (by omega)]; exact (H6 o ho).2.2 w hw
theorem hR.cong {I : jI} {h : Nat} {og : Nat → Nat} {f : sF} (H : hR I h og f) {g : sF} (hm : smany f ≤ 10) (E : ∀ k, k < 210 → k ≠ 10 → k ≠ 11 → g k = f k) : hR I h og g := by
  have e5 : smany g = smany f := by unfold smany; rw [E 5 (by decide) (by decide) (by decide)]
  obtain ⟨H1, H2, H3, H4, ⟨a5, a6, a7, a8, a9, a10, a11, a12⟩, H6⟩ := H
  refine ⟨fun w k h1 h2 => ?_, fun w c h1 h2 => ?_, fun c h1 => ?_, fun k h1 => ?_, ⟨?_, ?_, ?_, ?_, ?_, ?_, ?_, ?_⟩, fun o ho => ?_⟩
  · rw [E _ (by omega) (by omega) (by omega)]; exact H1 w k h1 h2
  · rw [E _ (by omega) (by omega) (by omega)]; exact H2 w c h1 h2
  · rw [E _ (by omega) (by omega) (by omega)]; exact H3 c h1
  · rw [E _ (by omega) (by omega) (by omega)]; exact H4 k h1
  · rw [E _ (by omega) (by omega) (by omega)]; exact a5
  · rw [E _ (by omega) (by omega) (by omega)]; exact a6
  · rw [E _ (by omega) (by omega) (by omega)]; exact a7
  · rw [E _ (by omega) (by omega) (by omega)]; exact a8
  · rw [E _ (by omega) (by omega) (by omega)]; exact a9
  · rw [E _ (by omega) (by omega) (by omega)]; exact a10
  · rw [E _ (by omega) (by omega) (by omega)]; exact a11
  · rw [E _ (by omega) (by omega) (by omega)]; exact a12
  · rw [e5] at ho
    refine ⟨fun k hk => ?_, ?_, fun w hw => ?_⟩
    · rw [E _ (by omega) (by omega) (by omega)]; exact (H6 o ho).1 k hk
    · rw [sgood_e (fun w hw => E _ (by omega) (by omega) (by omega))]; exact (H6 o ho).2.1
    · rw [E _ (by omega) (by omega) (by omega)]; exact (H6 o ho).2.2 w hw
theorem hR.good {I : jI} {h : Nat} {og : Nat → Nat} {f : sF} (H : hR I h og f) (hm : smany f ≤ 10) (hg : ∀ j, j < 10 → og j < 10) (hi : ∀ i j, i < 10 → j < 10 → og i = og j → i = j) {o w : Nat} (ho : o < smany f) (hw : w < 6) : hR (jst (jst I (h + 26 + 2 * og o) w (I (h + 26 + 2 * og o) w + nI 1)) (h + 25 + 2 * og o) 7 (I (h + 25 + 2 * og o) 7 + nI 1)) h og (upd f (90 + 12 * o + 6 + w) (f (90 + 12 * o + 6 + w) + nI 1)) := by
  have hqo := hg o (by omega)
  have e5 : smany (upd f (90 + 12 * o + 6 + w) (f (90 + 12 * o + 6 + w) + nI 1)) = smany f := by unfold smany; rw [upd_n (by omega)]
  obtain ⟨H1, H2, H3, H4, ⟨a5, a6, a7, a8, a9, a10, a11, a12⟩, H6⟩ := H
  refine ⟨fun w' k h1 h2 => ?_, fun w' c h1 h2 => ?_, fun c h1 => ?_, fun k h1 => ?_, ⟨?_, ?_, ?_, ?_, ?_, ?_, ?_, ?_⟩, fun o' ho' => ?_⟩
  · rw [jst_ne (by omega), jst_ne (by omega), upd_n (by omega)]; exact H1 w' k h1 h2
  · rw [jst_ne (by omega), jst_ne (by omega), upd_n (by omega)]; exact H2 w' c h1 h2
  · rw [jst_ne (by omega), jst_ne (by omega), upd_n (by omega)]; exact H3 c h1
  · rw [jst_ne (by omega), jst_ne (by omega), upd_n (by omega)]; exact H4 k h1
  · rw [jst_ne (by omega), jst_ne (by omega), upd_n (by omega)]; exact a5
  · rw [jst_ne (by omega), jst_ne (by omega), upd_n (by omega)]; exact a6
  · rw [jst_ne (by omega), jst_ne (by omega), upd_n (by omega)]; exact a7
  · rw [jst_ne (by omega), jst_ne (by omega), upd_n (by omega)]; exact a8
  · rw [jst_ne (by omega), jst_ne (by omega), upd_n (by omega)]; exact a9
  · rw [jst_ne (by omega), jst_ne (by omega), upd_n (by omega)]; exact a10
  · rw [jst_ne (by omega), jst_ne (by omega), upd_n (by omega)]; exact a11
  · rw [jst_ne (by omega), jst_ne (by omega), upd_n (by omega)]; exact a12
  · rw [e5] at ho'
    have hq := hg o' (by omega)
    by_cases he : o' = o
    · subst he
      refine ⟨fun k hk => ?_, ?_, fun w' hw' => ?_⟩
      · rw [jst_eq, upd_n (by omega), jst_ne (by omega), upd_n (by omega)]; exact (H6 o' ho').1 k hk
      · rw [jst_eq, upd_s, sgood_up hw, (H6 o' ho').2.1]
      · rw [jst_ne (by omega), jst_eq]
        by_cases hv : w' = w
        · subst hv
          rw [upd_s, (H6 o' ho').2.2 w' hw', show 90 + 12 * o' + 6 + w' = 90 + 12 * o' + (6 + w') from Nat.add_assoc _ _ _, upd_s]
        · rw [upd_n hv, upd_n (by omega)]; exact (H6 o' ho').2.2 w' hw'
    · have hne : og o' ≠ og o := fun z => he (hi o' o (by omega) (by omega) z)
      refine ⟨fun k hk => ?_, ?_, fun w' hw' => ?_⟩
      · rw [jst_ne (by omega), jst_ne (by omega), upd_n (by omega)]; exact (H6 o' ho').1 k hk
      · rw [jst_ne (by omega), jst_ne (by omega), sgood_e (fun w' hw' => upd_n (by omega))]; exact (H6 o' ho').2.1
      · rw [jst_ne (by omega), jst_ne (by omega), upd_n (by omega)]; exact (H6 o' ho').2.2 w' hw'
theorem hS.hall {Sh : jS} {h : Nat} (S : hS Sh h) : Sh (h) = some (0, 0) := S.1
theorem hS.wa {Sh : jS} {h : Nat} (S : hS Sh h) : Sh (h + 1) = some (12, 6) := S.2.1
theorem hS.oa {Sh : jS} {h : Nat} (S : hS Sh h) : Sh (h + 2) = some (13, 10) := S.2.2.1
theorem hS.sk {Sh : jS} {h : Nat} (S : hS Sh h) : Sh (h + 3) = some (4, 0) := S.2.2.2.1
theorem hS.sg {Sh : jS} {h : Nat} (S : hS Sh h) : Sh (h + 4) = some (10, 4) := S.2.2.2.2.1
theorem hS.se {Sh : jS} {h : Nat} (S : hS Sh h) : Sh (h + 5) = some (10, 4) := S.2.2.2.2.2.1
theorem hS.du {Sh : jS} {h : Nat} (S : hS Sh h) : Sh (h + 6) = some (10, 6) := S.2.2.2.2.2.2.1
theorem hS.wv {Sh : jS} {h w : Nat} (S : hS Sh h) (hw : w < 6) : Sh (h + 7 + 3 * w) = some (3, 0) := (S.2.2.2.2.2.2.2.1 w hw).1
theorem hS.wy {Sh : jS} {h w : Nat} (S : hS Sh h) (hw : w < 6) : Sh (h + 8 + 3 * w) = some (4, 0) := (S.2.2.2.2.2.2.2.1 w hw).2.1
theorem hS.wg {Sh : jS} {h w : Nat} (S : hS Sh h) (hw : w < 6) : Sh (h + 9 + 3 * w) = some (10, 4) := (S.2.2.2.2.2.2.2.1 w hw).2.2
theorem hS.od {Sh : jS} {h j : Nat} (S : hS Sh h) (hj : j < 10) : Sh (h + 25 + 2 * j) = some (1, 0) := (S.2.2.2.2.2.2.2.2 j hj).1
theorem hS.ob {Sh : jS} {h j : Nat} (S : hS Sh h) (hj : j < 10) : Sh (h + 26 + 2 * j) = some (10, 6) := (S.2.2.2.2.2.2.2.2 j hj).2
theorem hP.wa {P : jP} {h : Nat} (T : hP P h) : P (h) 0 = some (h + 1) := T.1
theorem hP.oa {P : jP} {h : Nat} (T : hP P h) : P (h) 1 = some (h + 2) := T.2.1
theorem hP.sk {P : jP} {h : Nat} (T : hP P h) : P (h) 2 = some (h + 3) := T.2.2.1
theorem hP.se {P : jP} {h : Nat} (T : hP P h) : P (h) 3 = some (h + 5) := T.2.2.2.1
theorem hP.du {P : jP} {h : Nat} (T : hP P h) : P (h) 4 = some (h + 6) := T.2.2.2.2.1
theorem hP.sg {P : jP} {h : Nat} (T : hP P h) : P (h + 3) 0 = some (h + 4) := T.2.2.2.2.2.1
theorem hP.wv {P : jP} {h w : Nat} (T : hP P h) (hw : w < 6) : P (h + 1) w = some (h + 7 + 3 * w) := (T.2.2.2.2.2.2.1 w hw).1
theorem hP.wy {P : jP} {h w : Nat} (T : hP P h) (hw : w < 6) : P (h + 7 + 3 * w) 0 = some (h + 8 + 3 * w) := (T.2.2.2.2.2.2.1 w hw).2.1
theorem hP.wg {P : jP} {h w : Nat} (T : hP P h) (hw : w < 6) : P (h + 8 + 3 * w) 0 = some (h + 9 + 3 * w) := (T.2.2.2.2.2.2.1 w hw).2.2
theorem hP.ob {P : jP} {h j : Nat} (T : hP P h) (hj : j < 10) : P (h + 25 + 2 * j) 0 = some (h + 26 + 2 * j) := T.2.2.2.2.2.2.2 j hj
theorem hG.od {P : jP} {h j : Nat} {og : Nat → Nat} (G : hG P h og) (hj : j < 10) : P (h + 2) j = some (h + 25 + 2 * og j) := (G.1 j hj).1
def sGd (f : sF) (o w : Nat) : Nat := (f (90 + 12 * o + (6 + w))).toNatClampNeg
def sGs (f : sF) (o : Nat) : Nat := sGd f o 0 + sGd f o 1 + sGd f o 2 + sGd f o 3 + sGd f o 4 + sGd f o 5
def sLn (f : sF) (o : Nat) : Nat := (f (90 + 12 * o + 3)).toNatClampNeg
def sPr (f : sF) (o : Nat) : Nat := (f (90 + 12 * o + 4)).toNatClampNeg
def sIb (f : sF) (o : Nat) : Prop := (∀ w, w < 6 → f (90 + 12 * o + (6 + w)) = nI (sGd f o w)) ∧ f (90 + 12 * o + 3) = nI (sLn f o) ∧ f (90 + 12 * o + 4) = nI (sPr f o) ∧ sPr f o ≤ 99 ∧ sLn f o ≤ 200 ∧ sGs f o ≤ sLn f o ∧ nI 40 ≤ f (90 + 12 * o + 2)
def sV (f : sF) : Prop := (f 0 = nI 0 ∨ f 0 = nI 1 ∨ f 0 = nI 2) ∧ 0 ≤ f 3 ∧ (∀ w, w < 6 → f (18 + 12 * w + 0) = nI 0 ∨ nI 40 ≤ f (18 + 12 * w + 0)) ∧ f 10 = ssum (fun w => f (18 + 12 * w + 5)) 6 ∧ f 11 = ssum (fun w => f (18 + 12 * w + 6)) 6
def sI (f : sF) : Prop := sOK f ∧ sV f ∧ ∀ o, o < smany f → sIb f o ∧ sGs f o < sLn f o
def sJ (f : sF) (o : Nat) : Prop := sOK f ∧ sV f ∧ (∀ q, q < smany f → sIb f q) ∧ (∀ q, q < smany f → q ≠ o → sGs f q < sLn f q) ∧ sGs f o = sLn f o
theorem sIb_mv {f g : sF} {q r : Nat} (E : ∀ k, k < 12 → g (90 + 12 * q + k) = f (90 + 12 * r + k)) : (sIb f r → sIb g q) ∧ sGs g q = sGs f r ∧ sLn g q = sLn f r := by
  have hd : ∀ w, w < 6 → sGd g q w = sGd f r w := fun w hw => by unfold sGd; rw [E _ (by omega)]
  have hs : sGs g q = sGs f r := by unfold sGs; rw [hd 0 (by decide), hd 1 (by decide), hd 2 (by decide), hd 3 (by decide), hd 4 (by decide), hd 5 (by decide)]
  have hl : sLn g q = sLn f r := by unfold sLn; rw [E 3 (by decide)]
  have hp : sPr g q = sPr f r := by unfold sPr; rw [E 4 (by decide)]
  refine ⟨fun h => ?_, hs, hl⟩
  obtain ⟨a1, a2, a3, a4, a5, a6, a7⟩ := h
  exact ⟨fun w hw => by rw [E _ (by omega), hd w hw]; exact a1 w hw, by rw [E 3 (by decide), hl]; exact a2, by rw [E 4 (by decide), hp]; exact a3, by rw [hp]; exact a4, by rw [hl]; exact a5, by rw [hs, hl]; exact a6, by rw [E 2 (by decide)]; exact a7⟩
theorem sV_of {f g : sF} (h : sV f) (E0 : g 0 = f 0) (E3 : g 3 = f 3) (Ew : ∀ w, w < 6 → g (18 + 12 * w + 0) = f (18 + 12 * w + 0)) (ET : g 10 = f 10 ∧ g 11 = f 11 ∧ ∀ w, w < 6 → g (18 + 12 * w + 5) = f (18 + 12 * w + 5) ∧ g (18 + 12 * w + 6) = f (18 + 12 * w + 6)) : sV g := by
  obtain ⟨a1, a2, a3, a4, a5⟩ := h
  exact ⟨by rw [E0]; exact a1, by rw [E3]; exact a2, fun w hw => by rw [Ew w hw]; exact a3 w hw, by rw [ET.1, a4]; exact (ssum_c (fun w hw => (ET.2.2 w hw).1)).symm, by rw [ET.2.1, a5]; exact (ssum_c (fun w hw => (ET.2.2 w hw).2)).symm⟩
theorem sI_of {f g : sF} (h : sI f) (hok : sOK g) (hv : sV g) (E5 : g 5 = f 5) (E : ∀ q k, q < smany f → k < 12 → g (90 + 12 * q + k) = f (90 + 12 * q + k)) : sI g := by
  have e5 : smany g = smany f := by unfold smany; rw [E5]
  refine ⟨hok, hv, fun o ho => ?_⟩
  rw [e5] at ho
  obtain ⟨b1, b2, b3⟩ := sIb_mv (f := f) (g := g) (q := o) (r := o) (fun k hk => E o k ho hk)
  exact ⟨b1 (h.2.2 o ho).1, by rw [b2, b3]; exact (h.2.2 o ho).2⟩
theorem sIb_good {f : sF} {o : Nat} (h : sIb f o) : sgood f o = nI (sGs f o) ∧ sGs f o ≤ 200 := by
  obtain ⟨a1, a2, a3, a4, a5, a6, a7⟩ := h
  refine ⟨?_, by omega⟩
  show nI 0 + f (90 + 12 * o + (6 + 0)) + f (90 + 12 * o + (6 + 1)) + f (90 + 12 * o + (6 + 2)) + f (90 + 12 * o + (6 + 3)) + f (90 + 12 * o + (6 + 4)) + f (90 + 12 * o + (6 + 5)) = _
  rw [a1 0 (by decide), a1 1 (by decide), a1 2 (by decide), a1 3 (by decide), a1 4 (by decide), a1 5 (by decide), nI_add, nI_add, nI_add, nI_add, nI_add, nI_add]
  exact congrArg nI (by unfold sGs; omega)
theorem stake_I {f f1 : sF} {w o : Nat} (h : sI f) (hw : w < 6) (ho : o < smany f) (ht : stake f w o = some f1) : sI f1 ∧ smany f1 = smany f := by
  obtain ⟨b1, b2⟩ := stake_OK h.1 hw ho ht
  have hc := (h.1.2.2.1 o ho).2
  have hk := h.1.2.1
  have K : ∀ k, k ≠ 12 → (k < 14 ∨ 17 < k) → k ≠ 18 + 12 * w + 3 → k ≠ 18 + 12 * w + 7 → (k < 18 + 12 * w + 8 ∨ 18 + 12 * w + 11 < k) → f1 k = f k := fun k k1 k2 k3 k4 k5 => stake_k ht k1 (by omega) k3 k4 (by omega)
  refine ⟨sI_of h b1 (sV_of h.2.1 (K _ (by omega) (by omega) (by omega) (by omega) (by omega)) (K _ (by omega) (by omega) (by omega) (by omega) (by omega)) (fun v hv => K _ (by omega) (by omega) (by omega) (by omega) (by omega)) ⟨K _ (by omega) (by omega) (by omega) (by omega) (by omega), K _ (by omega) (by omega) (by omega) (by omega) (by omega), fun v hv => ⟨K _ (by omega) (by omega) (by omega) (by omega) (by omega), K _ (by omega) (by omega) (by omega) (by omega) (by omega)⟩⟩) (K _ (by omega) (by omega) (by omega) (by omega) (by omega)) (fun q k hq hk => K _ (by omega) (by omega) (by omega) (by omega) (by omega)), b2⟩
theorem smake_I {f : sF} {w o : Nat} (h : sI f) (hw : w < 6) (ho : o < smany f) : smany (smake f w o) = smany f ∧ sOK (smake f w o) ∧ sV (smake f w o) ∧ (∀ q, q < smany f → sIb (smake f w o) q) ∧ (∀ q, q < smany f → q ≠ o → sGs (smake f w o) q < sLn (smake f w o) q) := by
  obtain ⟨b1, b2⟩ := smake_OK h.1 hw ho
  have hk := h.1.2.1
  have hV : sV (smake f w o) := by
    obtain ⟨a1, a2, a3, a4, a5⟩ := h.2.1
    have t5 : ssum (fun v => smake f w o (18 + 12 * v + 5)) 6 = ssum (fun v => f (18 + 12 * v + 5)) 6 + nI 1 := by
      refine (ssum_up (w := w) ?_ 6 (fun v hv6 hv => ?_)).1 hw
      · show smake f w o (18 + 12 * w + 5) = f (18 + 12 * w + 5) + nI 1
        unfold smake
        dsimp only
        split
        · rw [upd_n (by omega), upd_n (by omega), upd_n (by omega), upd_s]
        · rw [upd_n (by omega), upd_n (by omega), upd_s]
      · exact smake_k (by omega) (by omega) (by omega) (by omega) (by omega)
    have e10 : smake f w o 10 = f 10 + nI 1 := by
      unfold smake
      dsimp only
      split
      · rw [upd_n (by omega), upd_n (by omega), upd_s, upd_n (by omega)]
      · rw [upd_n (by omega), upd_s, upd_n (by omega)]
    have e11 : smake f w o 11 = ssum (fun v => smake f w o (18 + 12 * v + 6)) 6 := by
      by_cases hb : smake f w o 11 = f 11 + nI 1 ∧ smake f w o (18 + 12 * w + 6) = f (18 + 12 * w + 6) + nI 1
      · rw [hb.1, a5]
        exact ((ssum_up (w := w) hb.2 6 (fun v hv6 hv => smake_k (by omega) (by omega) (by omega) (by omega) (by omega))).1 hw).symm
      · have hn : smake f w o 11 = f 11 ∧ smake f w o (18 + 12 * w + 6) = f (18 + 12 * w + 6) := by
          revert hb
          unfold smake
          dsimp only
          split
          · intro hb
            refine absurd ⟨?_, ?_⟩ hb
            · rw [upd_s, upd_n (by omega), upd_n (by omega), upd_n (by omega)]
            · rw [upd_n (by omega), upd_s, upd_n (by omega), upd_n (by omega)]
          · intro _
            exact ⟨by rw [upd_n (by omega), upd_n (by omega), upd_n (by omega)], by rw [upd_n (by omega), upd_n (by omega), upd_n (by omega)]⟩
        rw [hn.1, a5]
        refine (ssum_c (fun v hv => ?_)).symm
        by_cases hvw : v = w
        · subst hvw; exact hn.2
        · exact smake_k (by omega) (by omega) (by omega) (by omega) (by omega)
    exact ⟨by rw [smake_k (by omega) (by omega) (by omega) (by omega) (by omega)]; exact a1, by rw [smake_k (by omega) (by omega) (by omega) (by omega) (by omega)]; exact a2, fun v hv => by rw [smake_k (by omega) (by omega) (by omega) (by omega) (by omega)]; exact a3 v hv, by rw [e10, t5, a4], e11⟩
  have hne : ∀ q, q < smany f → q ≠ o → sIb (smake f w o) q ∧ sGs (smake f w o) q < sLn (smake f w o) q := fun q hq hqo => by
    obtain ⟨c1, c2, c3⟩ := sIb_mv (f := f) (g := smake f w o) (q := q) (r := q) (fun k hk => smake_k (by omega) (by omega) (by omega) (by omega) (by omega))
    exact ⟨c1 (h.2.2 q hq).1, by rw [c2, c3]; exact (h.2.2 q hq).2⟩
  refine ⟨b2, b1, hV, fun q hq => ?_, fun q hq hqo => (hne q hq hqo).2⟩
  by_cases hqo : q = o
  · subst hqo
    obtain ⟨⟨a1, a2, a3, a4, a5, a6, a7⟩, a8⟩ := h.2.2 q hq
    have e3 : smake f w q (90 + 12 * q + 3) = f (90 + 12 * q + 3) := smake_k (by omega) (by omega) (by omega) (by omega) (by omega)
    have e4 : smake f w q (90 + 12 * q + 4) = f (90 + 12 * q + 4) := smake_k (by omega) (by omega) (by omega) (by omega) (by omega)
    have hl : sLn (smake f w q) q = sLn f q := by unfold sLn; rw [e3]
    have hp : sPr (smake f w q) q = sPr f q := by unfold sPr; rw [e4]
    have hgd : ∀ v, v < 6 → v ≠ w → smake f w q (90 + 12 * q + (6 + v)) = f (90 + 12 * q + (6 + v)) := fun v hv hvw => smake_k (by omega) (by omega) (by omega) (by omega) (by omega)
    have hgw : smake f w q (90 + 12 * q + (6 + w)) = f (90 + 12 * q + (6 + w)) ∨ smake f w q (90 + 12 * q + (6 + w)) = f (90 + 12 * q + (6 + w)) + nI 1 := by
      unfold smake
      dsimp only
      split
      · left; rw [upd_n (by omega), upd_n (by omega), upd_n (by omega), upd_n (by omega)]
      · right; rw [show 90 + 12 * q + (6 + w) = 90 + 12 * q + 6 + w by omega, upd_s, upd_n (by omega), upd_n (by omega)]
    have hsm : sGd f q w ≤ sGs f q := by
      unfold sGs
      rcases (by omega : w = 0 ∨ w = 1 ∨ w = 2 ∨ w = 3 ∨ w = 4 ∨ w = 5) with rfl | rfl | rfl | rfl | rfl | rfl <;> omega
    have dv : ∀ v, v < 6 → v ≠ w → sGd (smake f w q) q v = sGd f q v := fun v hv hvw => by unfold sGd; rw [hgd v hv hvw]
    have dw : sGd (smake f w q) q w = sGd f q w ∨ sGd (smake f w q) q w = sGd f q w + 1 := by
      rcases hgw with e | e
      · left; unfold sGd; rw [e]
      · right
        have e1 : smake f w q (90 + 12 * q + (6 + w)) = nI (sGd f q w + 1) := by rw [e, a1 w hw, nI_add]
        show (smake f w q (90 + 12 * q + (6 + w))).toNatClampNeg = _
        rw [e1, nI_clamp (by omega)]
    have dws : smake f w q (90 + 12 * q + (6 + w)) = nI (sGd (smake f w q) q w) := by
      rcases hgw with e | e
      · rw [show sGd (smake f w q) q w = sGd f q w by unfold sGd; rw [e], e]; exact a1 w hw
      · have e1 : smake f w q (90 + 12 * q + (6 + w)) = nI (sGd f q w + 1) := by rw [e, a1 w hw, nI_add]
        rw [show sGd (smake f w q) q w = sGd f q w + 1 by show (smake f w q (90 + 12 * q + (6 + w))).toNatClampNeg = _; rw [e1, nI_clamp (by omega)]]
        exact e1
    have hgs : sGs (smake f w q) q ≤ sGs f q + 1 := by
      unfold sGs
      rcases (by omega : w = 0 ∨ w = 1 ∨ w = 2 ∨ w = 3 ∨ w = 4 ∨ w = 5) with rfl | rfl | rfl | rfl | rfl | rfl
      · have := dv 1 (by decide) (by decide); have := dv 2 (by decide) (by decide); have := dv 3 (by decide) (by decide); have := dv 4 (by decide) (by decide); have := dv 5 (by decide) (by decide); omega
      · have := dv 0 (by decide) (by decide); have := dv 2 (by decide) (by decide); have := dv 3 (by decide) (by decide); have := dv 4 (by decide) (by decide); have := dv 5 (by decide) (by decide); omega
      · have := dv 0 (by decide) (by decide); have := dv 1 (by decide) (by decide); have := dv 3 (by decide) (by decide); have := dv 4 (by decide) (by decide); have := dv 5 (by decide) (by decide); omega
      · have := dv 0 (by decide) (by decide); have := dv 1 (by decide) (by decide); have := dv 2 (by decide) (by decide); have := dv 4 (by decide) (by decide); have := dv 5 (by decide) (by decide); omega
      · have := dv 0 (by decide) (by decide); have := dv 1 (by decide) (by decide); have := dv 2 (by decide) (by decide); have := dv 3 (by decide) (by decide); have := dv 5 (by decide) (by decide); omega
      · have := dv 0 (by decide) (by decide); have := dv 1 (by decide) (by decide); have := dv 2 (by decide) (by decide); have := dv 3 (by decide) (by decide); have := dv 4 (by decide) (by decide); omega
    refine ⟨fun v hv => ?_, by rw [e3, hl]; exact a2, by rw [e4, hp]; exact a3, by rw [hp]; exact a4, by rw [hl]; exact a5, by rw [hl]; omega, by rw [smake_k (by omega) (by omega) (by omega) (by omega) (by omega)]; exact a7⟩
    by_cases hvw : v = w
    · subst hvw; exact dws
    · rw [hgd v hv hvw, dv v hv hvw]; exact a1 v hv
  · exact (hne q hq hqo).1
theorem sgoes_J {f : sF} {o : Nat} (hk : smany f ≤ 10) (h5 : f 5 = nI (smany f)) (ho : o < smany f) (hv : sV f) (hb : ∀ q, q < smany f → q ≠ o → sIb f q ∧ sGs f q < sLn f q) (hok : sOK f) : sI (sgoes f o) := by
  have e5 : smany (sgoes f o) = smany f - 1 := by
    show (sgoes f o 5).toNatClampNeg = _
    unfold sgoes
    rw [if_neg (by omega), upd_s, h5, pk_sub (by omega), nI_clamp (by omega)]
  have ek : ∀ k, k < 90 → k ≠ 5 → sgoes f o k = f k := fun k k1 k2 => by unfold sgoes; rw [if_neg (by omega), upd_n k2]
  refine ⟨sgoes_OK hok ho, sV_of hv (ek _ (by omega) (by omega)) (ek _ (by omega) (by omega)) (fun w hw => ek _ (by omega) (by omega)) ⟨ek _ (by omega) (by omega), ek _ (by omega) (by omega), fun w hw => ⟨ek _ (by omega) (by omega), ek _ (by omega) (by omega)⟩⟩, fun q hq => ?_⟩
  rw [e5] at hq
  by_cases hqo : o ≤ q
  · obtain ⟨c1, c2, c3⟩ := sIb_mv (f := f) (g := sgoes f o) (q := q) (r := q + 1) (fun k hk2 => by
      unfold sgoes
      rw [if_pos (by omega)]
      exact congrArg f (by omega))
    have h2 := hb (q + 1) (by omega) (by omega)
    exact ⟨c1 h2.1, by rw [c2, c3]; exact h2.2⟩
  · obtain ⟨c1, c2, c3⟩ := sIb_mv (f := f) (g := sgoes f o) (q := q) (r := q) (fun k hk2 => by
      unfold sgoes
      rw [if_neg (by omega), upd_n (by omega)])
    have h2 := hb q (by omega) (by omega)
    exact ⟨c1 h2.1, by rw [c2, c3]; exact h2.2⟩
theorem spaysA_V {f : sF} {o : Nat} {du : Nat → Int32} (hv : sV f) : sV (spaysA f o du) := sV_of hv (spaysA_k (by decide) (by decide) (by decide) (fun w hw => ⟨by omega, by omega⟩)) (spaysA_k (by decide) (by decide) (by decide) (fun w hw => ⟨by omega, by omega⟩)) (fun v hv => spaysA_k (by omega) (by omega) (by omega) (fun w hw => ⟨by omega, by omega⟩)) ⟨spaysA_k (by decide) (by decide) (by decide) (fun w hw => ⟨by omega, by omega⟩), spaysA_k (by decide) (by decide) (by decide) (fun w hw => ⟨by omega, by omega⟩), fun v hv => ⟨spaysA_k (by omega) (by omega) (by omega) (fun w hw => ⟨by omega, by omega⟩), spaysA_k (by omega) (by omega) (by omega) (fun w hw => ⟨by omega, by omega⟩)⟩⟩
theorem spaysF_I {f : sF} {o : Nat} (h : sJ f o) (ho : o < smany f) : sI (spaysF f o) := by
  obtain ⟨hok, hv, hb, hs, -⟩ := h
  obtain ⟨b1, b2⟩ := spaysA_OK (o := o) (du := sduR f o) hok
  unfold spaysF
  rw [spays_A]
  refine sgoes_J (by rw [b2]; exact hok.2.1) b1.1 (by rw [b2]; exact ho) (spaysA_V hv) (fun q hq hqo => ?_) b1
  rw [b2] at hq
  obtain ⟨c1, c2, c3⟩ := sIb_mv (f := f) (g := spaysA f o (sduR f o)) (q := q) (r := q) (fun k hk => spaysA_k (by omega) (by omega) (by omega) (fun w hw => ⟨by omega, by omega⟩))
  exact ⟨c1 (hb q hq), by rw [c2, c3]; exact hs q hq hqo⟩
/-- after a decimetre: the order is done, or not -/
theorem smake_IJ {f : sF} {w o : Nat} (h : sI f) (hw : w < 6) (ho : o < smany f) : (sgood (smake f w o) o = smake f w o (90 + 12 * o + 3) ∧ sJ (smake f w o) o) ∨ (¬ sgood (smake f w o) o = smake f w o (90 + 12 * o + 3) ∧ sI (smake f w o)) := by
  obtain ⟨b1, b2, b3, b4, b5⟩ := smake_I h hw ho
  have hb := b4 o ho
  have hg := sIb_good hb
  have hk := h.1.2.1
  rw [hg.1, hb.2.1]
  by_cases he : sGs (smake f w o) o = sLn (smake f w o) o
  · left
    exact ⟨by rw [he], b2, b3, fun q hq => b4 q (by rw [← b1]; exact hq), fun q hq hqo => b5 q (by rw [← b1]; exact hq) hqo, he⟩
  · right
    have h6 := hb.2.2.2.2.2.1
    have h7 := hb.2.2.2.2.1
    refine ⟨fun z => he ?_, b2, b3, fun q hq => ⟨b4 q (by rw [← b1]; exact hq), ?_⟩⟩
    · have h8 := congrArg Int32.toInt z
      rw [nI_toInt (by omega), nI_toInt (by omega)] at h8
      omega
    · by_cases hqo : q = o
      · subst hqo; omega
      · exact b5 q (by rw [← b1]; exact hq) hqo
theorem swv_I {w o : Nat} (hw : w < 6) : ∀ (r : Nat) (f : sF), sI f → o < smany f → sI (swv w o r f).1 := by
  intro r
  induction r with
  | zero => intro f h _; exact h
  | succ r ih =>
    intro f h ho
    unfold swv
    cases ht : stake f w o with
    | none => exact h
    | some f1 =>
      obtain ⟨b1, b2⟩ := stake_I h hw ho ht
      have b4 := (smake_I b1 hw (by rw [b2]; exact ho)).1
      dsimp only
      rcases smake_IJ b1 hw (show o < smany f1 by rw [b2]; exact ho) with ⟨c1, c2⟩ | ⟨c1, c2⟩
      · rw [if_pos c1]; exact spaysF_I c2 (by rw [b4, b2]; exact ho)
      · rw [if_neg c1]; exact ih _ c2 (by rw [b4, b2]; exact ho)
theorem sI_upd {f : sF} {k : Nat} {v : Int32} (h : sI f) (hk : k = 4 ∨ k = 13) : sI (upd f k v) := by
  have h10 := h.1.2.1
  refine sI_of h (sOK_of h.1 (upd_n (by omega)) (fun q hq => upd_n (by omega)) (fun v hv => upd_n (by omega))) (sV_of h.2.1 (upd_n (by omega)) (upd_n (by omega)) (fun v hv => upd_n (by omega)) ⟨upd_n (by omega), upd_n (by omega), fun v hv => ⟨upd_n (by omega), upd_n (by omega)⟩⟩) (upd_n (by omega)) (fun q k2 hq hk2 => upd_n (by omega))
theorem sweaves_I {f : sF} {w : Nat} (hw : w < 6) (h : sI f) : sI (sweaves f w).1 := by
  unfold sweaves
  cases hq : schos f w with
  | none => exact h
  | some o => exact swv_I hw _ _ h (schosN_lt hq).1
theorem sweave_I {f : sF} {w : Nat} (hw : w < 6) (h : sI f) : sI (sweave f w) := sI_upd (sweaves_I hw h) (Or.inr rfl)
theorem shourN_I {f : sF} (h : sI f) : ∀ n, n ≤ 6 → sI (shourN f n) := by
  intro n
  induction n with
  | zero => intro _; exact h
  | succ n ih =>
    intro hn
    unfold shourN
    split
    · exact sweave_I (by omega) (ih (by omega))
    · exact ih (by omega)
theorem shour_I {f : sF} (h : sI f) : sI (shour f) := sI_upd (shourN_I h 6 (Nat.le_refl 6)) (Or.inl rfl)
theorem shours_I {f : sF} (h : sI f) : ∀ n, sI (shours f n) := by
  intro n
  induction n with
  | zero => exact h
  | succ n ih => exact shour_I ih
