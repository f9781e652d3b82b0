/-- an order comes in at its place -/
def rowt {α : Type} (r : Nat → α) (n i : Nat) : Nat → α := fun j => if j < i then r j else if j = i then r n else if j ≤ n then r (j - 1) else r j
theorem rowt_0 {α : Type} {r : Nat → α} {n : Nat} : rowt r n n = r := by
  funext j
  unfold rowt
  by_cases h1 : j < n
  · rw [if_pos h1]
  · rw [if_neg h1]
    by_cases h2 : j = n
    · rw [if_pos h2, h2]
    · rw [if_neg h2, if_neg (by omega)]
theorem rowt_p {α : Type} {r : Nat → α} {n i : Nat} : rowt r n (i + 1) i = r i := by unfold rowt; rw [if_pos (by omega)]
theorem rowt_s {α : Type} {r : Nat → α} {n i : Nat} (h : i + 1 ≤ n) : va_up (va_up (rowt r n (i + 1)) (i + 1) (r i)) i (r n) = rowt r n i := by
  funext j
  simp only [va_up, rowt]
  by_cases h1 : j = i
  · subst h1; simp
  · by_cases h2 : j = i + 1
    · subst h2; simp [show ¬ i + 1 < i by omega, h]
    · by_cases h3 : j < i
      · simp [h1, h2, h3, show j < i + 1 by omega]
      · simp [h1, h2, h3, show ¬ j < i + 1 by omega]
theorem rowt_G {P : jP} {h n i : Nat} {og : Nat → Nat} (G : hG P h og) (hn : n < 10) (hi : i ≤ n) : hG (va_up P (h + 2) (rowt (P (h + 2)) n i)) h (rowt og n i) := by
  refine ⟨fun j hj => ?_, fun a b ha hb he => ?_⟩
  · rw [va_up_s]
    unfold rowt
    by_cases h1 : j < i
    · rw [if_pos h1, if_pos h1]; exact G.1 j hj
    · rw [if_neg h1, if_neg h1]
      by_cases h2 : j = i
      · rw [if_pos h2, if_pos h2]; exact G.1 n hn
      · rw [if_neg h2, if_neg h2]
        by_cases h3 : j ≤ n
        · rw [if_pos h3, if_pos h3]; exact G.1 (j - 1) (by omega)
        · rw [if_neg h3, if_neg h3]; exact G.1 j hj
  · have K : ∀ x y, x < 10 → y < 10 → og x = og y → x = y := G.2
    have V : ∀ j, j < 10 → ∃ q, q < 10 ∧ rowt og n i j = og q ∧ (j < i → q = j) ∧ (j = i → q = n) ∧ (i < j → j ≤ n → q = j - 1) ∧ (n < j → q = j) := by
      intro j hj
      unfold rowt
      by_cases h1 : j < i
      · exact ⟨j, hj, if_pos h1, fun _ => rfl, fun z => by omega, fun z => by omega, fun z => by omega⟩
      · rw [if_neg h1]
        by_cases h2 : j = i
        · exact ⟨n, hn, if_pos h2, fun z => by omega, fun _ => rfl, fun z => by omega, fun z => by omega⟩
        · rw [if_neg h2]
          by_cases h3 : j ≤ n
          · exact ⟨j - 1, by omega, if_pos h3, fun z => by omega, fun z => by omega, fun _ _ => rfl, fun z => by omega⟩
          · exact ⟨j, hj, if_neg h3, fun z => by omega, fun z => by omega, fun z z2 => by omega, fun _ => rfl⟩
    obtain ⟨q, q1, q2, q3, q4, q5, q6⟩ := V a ha
    obtain ⟨r, r1, r2, r3, r4, r5, r6⟩ := V b hb
    rw [q2, r2] at he
    have := K q r q1 r1 he
    omega
theorem scomes_n {f : sF} {cv wd len pr due : Int32} {k : Nat} (h5 : k < 90) (h : k ≠ 5) (h6 : k ≠ 6) : scomes f cv wd len pr due k = f k := by
  unfold scomes
  rw [if_neg (by omega), if_neg (by omega), upd_n h6, upd_n h]
theorem scomes_5 {f : sF} {cv wd len pr due : Int32} : scomes f cv wd len pr due 5 = f 5 + nI 1 := by
  unfold scomes
  rw [if_neg (by omega), if_neg (by omega), upd_n (by decide), upd_s]
theorem scomes_6 {f : sF} {cv wd len pr due : Int32} : scomes f cv wd len pr due 6 = f 6 + nI 1 := by
  unfold scomes
  rw [if_neg (by omega), if_neg (by omega), upd_s]
theorem scomes_lo {f : sF} {cv wd len pr due : Int32} {o k : Nat} (ho : o < spos f due (smany f)) (hk : k < 12) : scomes f cv wd len pr due (90 + 12 * o + k) = f (90 + 12 * o + k) := by
  unfold scomes
  rw [if_neg (by omega), if_neg (by omega), upd_n (by omega), upd_n (by omega)]
theorem scomes_at {f : sF} {cv wd len pr due : Int32} {k : Nat} (hk : k < 12) : scomes f cv wd len pr due (90 + 12 * spos f due (smany f) + k) = snew f cv wd len pr due k := by
  unfold scomes
  rw [if_pos (by omega)]
  exact congrArg _ (by omega)
theorem scomes_hi {f : sF} {cv wd len pr due : Int32} {o k : Nat} (ho : spos f due (smany f) ≤ o) (h2 : o < smany f) (hk : k < 12) : scomes f cv wd len pr due (90 + 12 * (o + 1) + k) = f (90 + 12 * o + k) := by
  unfold scomes
  rw [if_neg (by omega), if_pos (by omega)]
  exact congrArg f (by omega)
theorem scomes_m {f : sF} {cv wd len pr due : Int32} (hm : f 5 = nI (smany f)) (hk : smany f ≤ 10) : smany (scomes f cv wd len pr due) = smany f + 1 := by
  show (scomes f cv wd len pr due 5).toNatClampNeg = _
  rw [scomes_5, hm, nI_add, nI_clamp (by omega)]
theorem sgood_z {g : sF} {o : Nat} (h : ∀ w, w < 6 → g (90 + 12 * o + (6 + w)) = nI 0) : sgood g o = nI 0 := by
  have e : sgood g o = ssum (fun _ => nI 0) 6 := ssum_c h
  rw [e]; rfl
theorem scomes_I {f : sF} {c0 wdn lenn prn : Nat} {due : Int32} (V : sI f) (hn : smany f < 10) (hc : c0 < 4) (hw : 40 ≤ wdn ∧ wdn ≤ 200) (hl : 1 ≤ lenn ∧ lenn ≤ 200) (hp : prn ≤ 99) : sI (scomes f (nI c0) (nI wdn) (nI lenn) (nI prn) due) := by
  have hm := V.1.1
  have hk := V.1.2.1
  have e5 := scomes_m (cv := nI c0) (wd := nI wdn) (len := nI lenn) (pr := nI prn) (due := due) hm hk
  have hpos := spos_le (f := f) (due := due) (smany f)
  have eN : ∀ k, k < 90 → k ≠ 5 → k ≠ 6 → scomes f (nI c0) (nI wdn) (nI lenn) (nI prn) due k = f k := fun k a b c => scomes_n a b c
  have cas : ∀ o, o < smany f + 1 → (∃ q, q < smany f ∧ ∀ k, k < 12 → scomes f (nI c0) (nI wdn) (nI lenn) (nI prn) due (90 + 12 * o + k) = f (90 + 12 * q + k)) ∨ o = spos f due (smany f) := fun o ho => by
    by_cases h1 : o < spos f due (smany f)
    · exact Or.inl ⟨o, by omega, fun k hk2 => scomes_lo h1 hk2⟩
    · by_cases h2 : o = spos f due (smany f)
      · exact Or.inr h2
      · refine Or.inl ⟨o - 1, by omega, fun k hk2 => ?_⟩
        have := scomes_hi (f := f) (cv := nI c0) (wd := nI wdn) (len := nI lenn) (pr := nI prn) (due := due) (o := o - 1) (k := k) (by omega) (by omega) hk2
        rwa [show o - 1 + 1 = o by omega] at this
  refine ⟨⟨by rw [e5, scomes_5, hm, nI_add], by omega, fun o ho => ?_, fun w hw2 => ?_⟩, sV_of V.2.1 (eN _ (by decide) (by decide) (by decide)) (eN _ (by decide) (by decide) (by decide)) (fun w hw2 => eN _ (by omega) (by omega) (by omega)) ⟨eN _ (by decide) (by decide) (by decide), eN _ (by decide) (by decide) (by decide), fun w hw2 => ⟨eN _ (by omega) (by omega) (by omega), eN _ (by omega) (by omega) (by omega)⟩⟩, fun o ho => ?_⟩
  · rw [e5] at ho
    rcases cas o ho with ⟨q, hq, e⟩ | e
    · have hcc : scol (scomes f (nI c0) (nI wdn) (nI lenn) (nI prn) due) o = scol f q := by unfold scol; rw [e 1 (by decide)]
      rw [hcc, e 1 (by decide)]; exact V.1.2.2.1 q hq
    · have h1 : scomes f (nI c0) (nI wdn) (nI lenn) (nI prn) due (90 + 12 * o + 1) = nI c0 := by rw [e]; exact scomes_at (by decide)
      have hcc : scol (scomes f (nI c0) (nI wdn) (nI lenn) (nI prn) due) o = c0 := by unfold scol; rw [h1, nI_clamp (by omega)]
      rw [hcc, h1]; exact ⟨rfl, hc⟩
  · have e := eN (18 + 12 * w + 1) (by omega) (by omega) (by omega)
    have hcc : sspd (scomes f (nI c0) (nI wdn) (nI lenn) (nI prn) due) w = sspd f w := by unfold sspd; rw [e]
    rw [hcc, e]; exact V.1.2.2.2 w hw2
  · rw [e5] at ho
    rcases cas o ho with ⟨q, hq, e⟩ | e
    · obtain ⟨c1, c2, c3⟩ := sIb_mv (f := f) (g := scomes f (nI c0) (nI wdn) (nI lenn) (nI prn) due) (q := o) (r := q) e
      exact ⟨c1 (V.2.2 q hq).1, by rw [c2, c3]; exact (V.2.2 q hq).2⟩
    · have en : ∀ k, k < 12 → scomes f (nI c0) (nI wdn) (nI lenn) (nI prn) due (90 + 12 * o + k) = snew f (nI c0) (nI wdn) (nI lenn) (nI prn) due k := fun k hk2 => by rw [e]; exact scomes_at hk2
      have eg : ∀ w, w < 6 → scomes f (nI c0) (nI wdn) (nI lenn) (nI prn) due (90 + 12 * o + (6 + w)) = nI 0 := fun w hw2 => by
        rw [en _ (by omega)]
        rcases (by omega : w = 0 ∨ w = 1 ∨ w = 2 ∨ w = 3 ∨ w = 4 ∨ w = 5) with rfl | rfl | rfl | rfl | rfl | rfl <;> rfl
      have ed : ∀ w, w < 6 → sGd (scomes f (nI c0) (nI wdn) (nI lenn) (nI prn) due) o w = 0 := fun w hw2 => by unfold sGd; rw [eg w hw2]; rfl
      have el : sLn (scomes f (nI c0) (nI wdn) (nI lenn) (nI prn) due) o = lenn := by unfold sLn; rw [en 3 (by decide)]; exact nI_clamp (by omega)
      have ep : sPr (scomes f (nI c0) (nI wdn) (nI lenn) (nI prn) due) o = prn := by unfold sPr; rw [en 4 (by decide)]; exact nI_clamp (by omega)
      have es : sGs (scomes f (nI c0) (nI wdn) (nI lenn) (nI prn) due) o = 0 := by unfold sGs; rw [ed 0 (by decide), ed 1 (by decide), ed 2 (by decide), ed 3 (by decide), ed 4 (by decide), ed 5 (by decide)]
      refine ⟨⟨fun w hw2 => by rw [eg w hw2, ed w hw2], by rw [en 3 (by decide), el]; rfl, by rw [en 4 (by decide), ep]; rfl, by omega, by omega, by omega, ?_⟩, by omega⟩
      rw [en 2 (by decide)]
      exact (nI_leI (by decide) (by omega)).mpr hw.1
theorem take_R {I J : jI} {h : Nat} {og : Nat → Nat} {f : sF} {cv wd len pr due : Int32} (H : hR I h og f) (hm : f 5 = nI (smany f)) (hn : smany f < 10) (hg : ∀ j, j < 10 → og j < 10) (hi : ∀ i j, i < 10 → j < 10 → og i = og j → i = j) (K : ∀ b, b ≠ h + 25 + 2 * og (smany f) → b ≠ h + 26 + 2 * og (smany f) → J b = I b) (q1 : J (h + 25 + 2 * og (smany f)) 1 = f 6) (q2 : J (h + 25 + 2 * og (smany f)) 2 = cv) (q3 : J (h + 25 + 2 * og (smany f)) 3 = wd) (q4 : J (h + 25 + 2 * og (smany f)) 4 = len) (q5 : J (h + 25 + 2 * og (smany f)) 5 = pr) (q6 : J (h + 25 + 2 * og (smany f)) 6 = due) (q7 : J (h + 25 + 2 * og (smany f)) 7 = nI 0) (qb : ∀ w, w < 6 → J (h + 26 + 2 * og (smany f)) w = nI 0) : hR (jst (jst J h 5 (f 5 + nI 1)) h 6 (f 6 + nI 1)) h (rowt og (smany f) (spos f due (smany f))) (scomes f cv wd len pr due) := by
  have hpos := spos_le (f := f) (due := due) (smany f)
  have hqn := hg (smany f) hn
  have e5 := scomes_m (cv := cv) (wd := wd) (len := len) (pr := pr) (due := due) hm (Nat.le_of_lt hn)
  have eN : ∀ k, k < 90 → k ≠ 5 → k ≠ 6 → scomes f cv wd len pr due k = f k := fun k a b c => scomes_n a b c
  obtain ⟨H1, H2, H3, H4, ⟨a5, a6, a7, a8, a9, a10, a11, a12⟩, H6⟩ := H
  have Kh : J h = I h := K h (by omega) (by omega)
  refine ⟨fun w k h1 h2 => ?_, fun w c h1 h2 => ?_, fun c h1 => ?_, fun k h1 => ?_, ⟨?_, ?_, ?_, ?_, ?_, ?_, ?_, ?_⟩, fun o ho => ?_⟩
  · rw [jst_ne (by omega), jst_ne (by omega), K _ (by omega) (by omega), eN _ (by omega) (by omega) (by omega)]; exact H1 w k h1 h2
  · rw [jst_ne (by omega), jst_ne (by omega), K _ (by omega) (by omega), eN _ (by omega) (by omega) (by omega)]; exact H2 w c h1 h2
  · rw [jst_ne (by omega), jst_ne (by omega), K _ (by omega) (by omega), eN _ (by omega) (by omega) (by omega)]; exact H3 c h1
  · rw [jst_ne (by omega), jst_ne (by omega), K _ (by omega) (by omega), eN _ (by omega) (by omega) (by omega)]; exact H4 k h1
  · rw [jst_eq, upd_n (by decide), jst_eq, upd_s, scomes_5]
  · rw [jst_eq, upd_s, scomes_6]
  · rw [jst_eq, upd_n (by decide), jst_eq, upd_n (by decide), Kh, eN _ (by decide) (by decide) (by decide)]; exact a7
  · rw [jst_eq, upd_n (by decide), jst_eq, upd_n (by decide), Kh, eN _ (by decide) (by decide) (by decide)]; exact a8
  · rw [jst_eq, upd_n (by decide), jst_eq, upd_n (by decide), Kh, eN _ (by decide) (by decide) (by decide)]; exact a9
  · rw [jst_eq, upd_n (by decide), jst_eq, upd_n (by decide), Kh, eN _ (by decide) (by decide) (by decide)]; exact a10
  · rw [jst_eq, upd_n (by decide), jst_eq, upd_n (by decide), Kh, eN _ (by decide) (by decide) (by decide)]; exact a11
  · rw [jst_eq, upd_n (by decide), jst_eq, upd_n (by decide), Kh, eN _ (by decide) (by decide) (by decide)]; exact a12
  · rw [e5] at ho
    by_cases h1 : o < spos f due (smany f)
    · have eo : rowt og (smany f) (spos f due (smany f)) o = og o := if_pos h1
      have hq := hg o (by omega)
      have hne : og o ≠ og (smany f) := fun z => absurd (hi _ _ (by omega) hn z) (by omega)
      rw [eo]
      refine ⟨fun k hk => ?_, ?_, fun w hw => ?_⟩
      · rw [jst_ne (by omega), jst_ne (by omega), K _ (by omega) (by omega), scomes_lo h1 (by omega)]; exact (H6 o (by omega)).1 k hk
      · rw [jst_ne (by omega), jst_ne (by omega), K _ (by omega) (by omega), sgood_e (fun w hw => scomes_lo h1 (by omega))]; exact (H6 o (by omega)).2.1
      · rw [jst_ne (by omega), jst_ne (by omega), K _ (by omega) (by omega), scomes_lo h1 (by omega)]; exact (H6 o (by omega)).2.2 w hw
    · by_cases h2 : o = spos f due (smany f)
      · have eo : rowt og (smany f) (spos f due (smany f)) o = og (smany f) := by unfold rowt; rw [if_neg h1, if_pos h2]
        rw [eo]
        have en : ∀ k, k < 12 → scomes f cv wd len pr due (90 + 12 * o + k) = snew f cv wd len pr due k := fun k hk => by rw [h2]; exact scomes_at hk
        have eg : ∀ w, w < 6 → scomes f cv wd len pr due (90 + 12 * o + (6 + w)) = nI 0 := fun w hw => by
          rw [en _ (by omega)]
          rcases (by omega : w = 0 ∨ w = 1 ∨ w = 2 ∨ w = 3 ∨ w = 4 ∨ w = 5) with rfl | rfl | rfl | rfl | rfl | rfl <;> rfl
        refine ⟨fun k hk => ?_, ?_, fun w hw => ?_⟩
        · rw [jst_ne (by omega), jst_ne (by omega), en k (by omega)]
          rcases (by omega : k = 0 ∨ k = 1 ∨ k = 2 ∨ k = 3 ∨ k = 4 ∨ k = 5) with rfl | rfl | rfl | rfl | rfl | rfl
          · exact q1
          · exact q2
          · exact q3
          · exact q4
          · exact q5
          · exact q6
        · rw [jst_ne (by omega), jst_ne (by omega), q7, sgood_z eg]
        · rw [jst_ne (by omega), jst_ne (by omega), eg w hw]; exact qb w hw
      · have eo : rowt og (smany f) (spos f due (smany f)) o = og (o - 1) := by unfold rowt; rw [if_neg h1, if_neg h2, if_pos (by omega)]
        have hq := hg (o - 1) (by omega)
        have hne : og (o - 1) ≠ og (smany f) := fun z => absurd (hi _ _ (by omega) hn z) (by omega)
        have es : ∀ k, k < 12 → scomes f cv wd len pr due (90 + 12 * o + k) = f (90 + 12 * (o - 1) + k) := fun k hk => by
          have := scomes_hi (f := f) (cv := cv) (wd := wd) (len := len) (pr := pr) (due := due) (o := o - 1) (k := k) (by omega) (by omega) hk
          rwa [show o - 1 + 1 = o by omega] at this
        rw [eo]
        refine ⟨fun k hk => ?_, ?_, fun w hw => ?_⟩
        · rw [jst_ne (by omega), jst_ne (by omega), K _ (by omega) (by omega), es k (by omega)]; exact (H6 (o - 1) (by omega)).1 k hk
        · rw [jst_ne (by omega), jst_ne (by omega), K _ (by omega) (by omega), show sgood (scomes f cv wd len pr due) o = sgood f (o - 1) from ssum_c (fun w hw => es _ (by omega))]; exact (H6 (o - 1) (by omega)).2.1
        · rw [jst_ne (by omega), jst_ne (by omega), K _ (by omega) (by omega), es _ (by omega)]; exact (H6 (o - 1) (by omega)).2.2 w hw
set_option maxHeartbeats 4000000 in
theorem lp_X0_take {p : Program} {l : Launch} {e : Env} {s : State} {m : MethodId} {args : Array Value} {below : List Frame} {meth : Method} {c : Code} {D : va_G} {cA : Nat → ClassId} {N0 : Nat} {Sh : jS} {I : jI} {P : jP} {L : jL} {Qf : State → Prop} (C : jC p (jRm 1 0 0) s m args meth c D cA N0 cX0_take 8 RX0 1) {h : Nat} {og : Nat → Nat} {f : sF} (S : hS Sh h) (T : hP P h) (G : hG P h og) (H : hR I h og f) (V : sI f) (hn : smany f < 10) {cv wd len pr due : Int32} {J : jI} (K : ∀ b, b ≠ h + 25 + 2 * og (smany f) → b ≠ h + 26 + 2 * og (smany f) → J b = I b) (hx : jJ p l e (jRm 1 0 0) s m args below meth c D cA N0 8 Qf (fun _ => True) Sh J (va_up P (h + 2) (rowt (P (h + 2)) (smany f) (spos f due (smany f)))) L 0 0 109 [some (.ref h), some (.int cv), some (.int wd), some (.int len), some (.int pr), some (.int due), some (.ref (h + 25 + 2 * og (smany f))), some (.int (nI (spos f due (smany f))))] []) : ∀ i, i ≤ smany f → spos f due (smany f) = spos f due i → jJ p l e (jRm 1 0 0) s m args below meth c D cA N0 8 Qf (fun _ => True) Sh J (va_up P (h + 2) (rowt (P (h + 2)) (smany f) (i))) L 0 0 54 [some (.ref h), some (.int cv), some (.int wd), some (.int len), some (.int pr), some (.int due), some (.ref (h + 25 + 2 * og (smany f))), some (.int (nI (i)))] [] := by
  have hpos : ∀ i, i ≤ smany f → spos f due i = i → spos f due (smany f) = spos f due i → spos f due (smany f) = i := fun i h1 h2 h3 => h3.trans h2
  intro i
  induction i with
  | zero =>
    intro hi he
    have e : spos f due (smany f) = 0 := he
    rw [e] at hx
    refine jx_iload (pc := 54) C dX0_take_54 rfl ?_
    refine jx_if_le (pc := 56) C (tgt := 109) dX0_take_56 (by decide) (fun c56 => ?_) (fun c56 => (by rw [nI_le0 (by omega)] at c56; exfalso; omega))
    rw [nI_le0 (by omega)] at c56
    exact hx
  | succ i ih =>
    intro hi he
    have hqi := G.lt i (by omega)
    have hqn := G.lt (smany f) hn
    have hne : og i ≠ og (smany f) := fun z => absurd (G.2 _ _ (by omega) hn z) (by omega)
    have d5 : J (h + 25 + 2 * og i) 6 = f (90 + 12 * i + 5) := by rw [K _ (by omega) (by omega)]; exact H.od (k := 5) (by omega) (by decide)
    have e0 : (va_up P (h + 2) (rowt (P (h + 2)) (smany f) (i + 1))) (h + 2) i = some (h + 25 + 2 * og i) := by rw [va_up_s, rowt_p]; exact G.od (by omega)
    have e2 : jstP (va_up P (h + 2) (rowt (P (h + 2)) (smany f) (i + 1))) (h + 2) (i + 1) (some (h + 25 + 2 * og i)) = va_up P (h + 2) (va_up (rowt (P (h + 2)) (smany f) (i + 1)) (i + 1) (P (h + 2) i)) := by rw [jstP_up, G.od (show i < 10 by omega)]
    have e3 : jstP (va_up P (h + 2) (va_up (rowt (P (h + 2)) (smany f) (i + 1)) (i + 1) (P (h + 2) i))) (h + 2) i (some (h + 25 + 2 * og (smany f))) = (va_up P (h + 2) (rowt (P (h + 2)) (smany f) (i))) := by rw [jstP_up, ← G.od hn, rowt_s hi]
    by_cases hd : f (90 + 12 * i + 5) ≤ due
    · have e : spos f due (smany f) = i + 1 := he.trans (if_pos hd)
      rw [e] at hx
      refine jx_iload (pc := 54) C dX0_take_54 rfl ?_
      refine jx_if_le (pc := 56) C (tgt := 109) dX0_take_56 (by decide) (fun c56 => (by rw [nI_le0 (by omega)] at c56; exfalso; omega)) (fun c56 => ?_)
      rw [nI_le0 (by omega)] at c56
      refine jx_aload_n (pc := 59) C dX0_take_59 rfl ?_
      refine jx_getP (pc := 60) C kf_X0_19 rfl S.hall ((congrFun (va_up_n (by omega)) _).trans T.oa) dX0_take_60 ?_
      refine jx_iload (pc := 63) C dX0_take_63 rfl ?_
      refine jx_iconst (pc := 65) C dX0_take_65 nc_1 ?_
      refine jx_isubN (pc := 66) C (by omega) dX0_take_66 ?_
      refine jx_aald13 (pc := 67) C S.oa (by omega) (by decide) e0 dX0_take_67 ?_
      refine jx_getIv (pc := 68) C kf_X0_89 rfl (S.od (G.lt i (by omega))) d5 dX0_take_68 ?_
      refine jx_iload (pc := 71) C dX0_take_71 rfl ?_
      refine jx_icmp_le (pc := 73) C (tgt := 109) dX0_take_73 (by decide) (fun c73 => ?_) (fun c73 => (by exfalso; exact c73 hd))
      exact hx
    · have e : spos f due (smany f) = spos f due i := he.trans (if_neg hd)
      refine jx_iload (pc := 54) C dX0_take_54 rfl ?_
      refine jx_if_le (pc := 56) C (tgt := 109) dX0_take_56 (by decide) (fun c56 => (by rw [nI_le0 (by omega)] at c56; exfalso; omega)) (fun c56 => ?_)
      rw [nI_le0 (by omega)] at c56
      refine jx_aload_n (pc := 59) C dX0_take_59 rfl ?_
      refine jx_getP (pc := 60) C kf_X0_19 rfl S.hall ((congrFun (va_up_n (by omega)) _).trans T.oa) dX0_take_60 ?_
      refine jx_iload (pc := 63) C dX0_take_63 rfl ?_
      refine jx_iconst (pc := 65) C dX0_take_65 nc_1 ?_
      refine jx_isubN (pc := 66) C (by omega) dX0_take_66 ?_
      refine jx_aald13 (pc := 67) C S.oa (by omega) (by decide) e0 dX0_take_67 ?_
      refine jx_getIv (pc := 68) C kf_X0_89 rfl (S.od (G.lt i (by omega))) d5 dX0_take_68 ?_
      refine jx_iload (pc := 71) C dX0_take_71 rfl ?_
      refine jx_icmp_le (pc := 73) C (tgt := 109) dX0_take_73 (by decide) (fun c73 => (by exfalso; exact hd c73)) (fun c73 => ?_)
      refine jx_aload_n (pc := 76) C dX0_take_76 rfl ?_
      refine jx_getP (pc := 77) C kf_X0_19 rfl S.hall ((congrFun (va_up_n (by omega)) _).trans T.oa) dX0_take_77 ?_
      refine jx_iload (pc := 80) C dX0_take_80 rfl ?_
      refine jx_aload_n (pc := 82) C dX0_take_82 rfl ?_
      refine jx_getP (pc := 83) C kf_X0_19 rfl S.hall ((congrFun (va_up_n (by omega)) _).trans T.oa) dX0_take_83 ?_
      refine jx_iload (pc := 86) C dX0_take_86 rfl ?_
      refine jx_iconst (pc := 88) C dX0_take_88 nc_1 ?_
      refine jx_isubN (pc := 89) C (by omega) dX0_take_89 ?_
      refine jx_aald13 (pc := 90) C S.oa (by omega) (by decide) e0 dX0_take_90 ?_
      refine jx_aast13 (pc := 91) C S.oa (S.od (G.lt i (by omega))) (by omega) (by decide) dX0_take_91 ?_
      rw [e2]
      refine jx_aload_n (pc := 92) C dX0_take_92 rfl ?_
      refine jx_getP (pc := 93) C kf_X0_19 rfl S.hall ((congrFun (va_up_n (by omega)) _).trans T.oa) dX0_take_93 ?_
      refine jx_iload (pc := 96) C dX0_take_96 rfl ?_
      refine jx_iconst (pc := 98) C dX0_take_98 nc_1 ?_
      refine jx_isubN (pc := 99) C (by omega) dX0_take_99 ?_
      refine jx_aload (pc := 100) C dX0_take_100 rfl ?_
      refine jx_aast13 (pc := 102) C S.oa (S.od (G.lt (smany f) hn)) (by omega) (by decide) dX0_take_102 ?_
      rw [Nat.add_sub_cancel, e3]
      refine jx_iincM (pc := 103) C dX0_take_103 rfl (jset_7 jc_r) (by decide) ?_
      refine jx_goto (pc := 106) C (tgt := 54) dX0_take_106 (by decide) ?_
      exact ih (by omega) e
set_option maxHeartbeats 4000000 in
theorem b_X0_take {p : Program} {l : Launch} {e : Env} {s : State} {m : MethodId} {args : Array Value} {below : List Frame} {meth : Method} {c : Code} {D : va_G} {cA : Nat → ClassId} {N0 : Nat} {Sh : jS} {I : jI} {P : jP} {L : jL} (C : jC p (jRm 1 0 0) s m args meth c D cA N0 cX0_take 8 RX0 1) (hr : meth.sig.returnType = (some .int)) {h : Nat} {og : Nat → Nat} {f : sF} (S : hS Sh h) (T : hP P h) (G : hG P h og) (H : hR I h og f) (V : sI f) (hn : smany f < 10) {cv wd len pr due : Int32} : jJ p l e (jRm 1 0 0) s m args below meth c D cA N0 8 (MQ below (jQn D cA N0 Sh (jNi (fun v' I' P' L' => v' = f 6 ∧ (∃ og', hR I' h og' (scomes f cv wd len pr due) ∧ hG P' h og') ∧ hF I h I' ∧ hFP P h P' ∧ L' = L))) args s 0 0 (fun q => N0 ≤ q)) (fun _ => True) Sh I P L 0 0 0 [some (.ref h), some (.int cv), some (.int wd), some (.int len), some (.int pr), some (.int due), none, none] [] := by
  have hk := V.1.2.1
  have hm := V.1.1
  have hqn := G.lt (smany f) hn
  have hF1 : ∀ b, b ≠ h + 25 + 2 * og (smany f) → b ≠ h + 26 + 2 * og (smany f) → (va_up (jst (jst (jst (jst (jst (jst (jst I (h + 25 + 2 * og (smany f)) 1 (f 6)) (h + 25 + 2 * og (smany f)) 2 cv) (h + 25 + 2 * og (smany f)) 3 wd) (h + 25 + 2 * og (smany f)) 4 len) (h + 25 + 2 * og (smany f)) 5 pr) (h + 25 + 2 * og (smany f)) 6 due) (h + 25 + 2 * og (smany f)) 7 (nI 0)) (h + 26 + 2 * og (smany f)) (cpn ((jst (jst (jst (jst (jst (jst (jst I (h + 25 + 2 * og (smany f)) 1 (f 6)) (h + 25 + 2 * og (smany f)) 2 cv) (h + 25 + 2 * og (smany f)) 3 wd) (h + 25 + 2 * og (smany f)) 4 len) (h + 25 + 2 * og (smany f)) 5 pr) (h + 25 + 2 * og (smany f)) 6 due) (h + 25 + 2 * og (smany f)) 7 (nI 0)) (h + 26 + 2 * og (smany f))) (fun _ => nI 0) 6)) b = I b := fun b h1 h2 => by
    rw [va_up_n h2, jst_ne h1, jst_ne h1, jst_ne h1, jst_ne h1, jst_ne h1, jst_ne h1, jst_ne h1]
  have hq : ∀ k, (va_up (jst (jst (jst (jst (jst (jst (jst I (h + 25 + 2 * og (smany f)) 1 (f 6)) (h + 25 + 2 * og (smany f)) 2 cv) (h + 25 + 2 * og (smany f)) 3 wd) (h + 25 + 2 * og (smany f)) 4 len) (h + 25 + 2 * og (smany f)) 5 pr) (h + 25 + 2 * og (smany f)) 6 due) (h + 25 + 2 * og (smany f)) 7 (nI 0)) (h + 26 + 2 * og (smany f)) (cpn ((jst (jst (jst (jst (jst (jst (jst I (h + 25 + 2 * og (smany f)) 1 (f 6)) (h + 25 + 2 * og (smany f)) 2 cv) (h + 25 + 2 * og (smany f)) 3 wd) (h + 25 + 2 * og (smany f)) 4 len) (h + 25 + 2 * og (smany f)) 5 pr) (h + 25 + 2 * og (smany f)) 6 due) (h + 25 + 2 * og (smany f)) 7 (nI 0)) (h + 26 + 2 * og (smany f))) (fun _ => nI 0) 6)) (h + 25 + 2 * og (smany f)) k = (jst (jst (jst (jst (jst (jst (jst I (h + 25 + 2 * og (smany f)) 1 (f 6)) (h + 25 + 2 * og (smany f)) 2 cv) (h + 25 + 2 * og (smany f)) 3 wd) (h + 25 + 2 * og (smany f)) 4 len) (h + 25 + 2 * og (smany f)) 5 pr) (h + 25 + 2 * og (smany f)) 6 due) (h + 25 + 2 * og (smany f)) 7 (nI 0)) (h + 25 + 2 * og (smany f)) k := fun k => congrFun (va_up_n (by omega)) k
  have f1 : (va_up (jst (jst (jst (jst (jst (jst (jst I (h + 25 + 2 * og (smany f)) 1 (f 6)) (h + 25 + 2 * og (smany f)) 2 cv) (h + 25 + 2 * og (smany f)) 3 wd) (h + 25 + 2 * og (smany f)) 4 len) (h + 25 + 2 * og (smany f)) 5 pr) (h + 25 + 2 * og (smany f)) 6 due) (h + 25 + 2 * og (smany f)) 7 (nI 0)) (h + 26 + 2 * og (smany f)) (cpn ((jst (jst (jst (jst (jst (jst (jst I (h + 25 + 2 * og (smany f)) 1 (f 6)) (h + 25 + 2 * og (smany f)) 2 cv) (h + 25 + 2 * og (smany f)) 3 wd) (h + 25 + 2 * og (smany f)) 4 len) (h + 25 + 2 * og (smany f)) 5 pr) (h + 25 + 2 * og (smany f)) 6 due) (h + 25 + 2 * og (smany f)) 7 (nI 0)) (h + 26 + 2 * og (smany f))) (fun _ => nI 0) 6)) (h + 25 + 2 * og (smany f)) 1 = f 6 := by rw [hq]; simp [jst, va_up, upd]
  have R := take_R (cv := cv) (wd := wd) (len := len) (pr := pr) (due := due) H hm hn G.lt G.2 hF1 f1 (by rw [hq]; simp [jst, va_up, upd]) (by rw [hq]; simp [jst, va_up, upd]) (by rw [hq]; simp [jst, va_up, upd]) (by rw [hq]; simp [jst, va_up, upd]) (by rw [hq]; simp [jst, va_up, upd]) (by rw [hq]; simp [jst, va_up, upd]) (fun w hw => by rw [va_up_s]; exact if_pos hw)
  refine jx_aload_n (pc := 0) C dX0_take_0 rfl ?_
  refine jx_getIv (pc := 1) C kf_X0_49 rfl S.hall (H.n5.trans hm) dX0_take_1 ?_
  refine jx_if_lt (pc := 4) C (tgt := 19) dX0_take_4 (by decide) (fun c4 => (by rw [nI_lt0 (by omega)] at c4; exfalso; omega)) (fun c4 => ?_)
  rw [nI_lt0 (by omega)] at c4
  refine jx_aload_n (pc := 7) C dX0_take_7 rfl ?_
  refine jx_getIv (pc := 8) C kf_X0_49 rfl S.hall (H.n5.trans hm) dX0_take_8 ?_
  refine jx_aload_n (pc := 11) C dX0_take_11 rfl ?_
  refine jx_getP (pc := 12) C kf_X0_19 rfl S.hall T.oa dX0_take_12 ?_
  refine jx_alen13 (pc := 15) C S.oa dX0_take_15 ?_
  refine jx_icmp_lt (pc := 16) C (tgt := 21) dX0_take_16 (by decide) (fun c16 => ?_) (fun c16 => (by rw [nI_ltI (by omega) (by omega)] at c16; exfalso; omega))
  rw [nI_ltI (by omega) (by omega)] at c16
  refine jx_aload_n (pc := 21) C dX0_take_21 rfl ?_
  refine jx_getP (pc := 22) C kf_X0_19 rfl S.hall T.oa dX0_take_22 ?_
  refine jx_aload_n (pc := 25) C dX0_take_25 rfl ?_
  refine jx_getIv (pc := 26) C kf_X0_49 rfl S.hall (H.n5.trans hm) dX0_take_26 ?_
  refine jx_aald13 (pc := 29) C S.oa (by omega) (by decide) (G.od hn) dX0_take_29 ?_
  refine jx_astore (pc := 30) C dX0_take_30 (jset_6 jc_i) (by decide) ?_
  refine jx_aload (pc := 32) C dX0_take_32 rfl ?_
  refine jx_aload_n (pc := 34) C dX0_take_34 rfl ?_
  refine jx_getIv (pc := 35) C kf_X0_53 rfl S.hall H.n6 dX0_take_35 ?_
  refine jx_iload_n (pc := 38) C dX0_take_38 rfl ?_
  refine jx_iload_n (pc := 39) C dX0_take_39 rfl ?_
  refine jx_iload_n (pc := 40) C dX0_take_40 rfl ?_
  refine jx_iload (pc := 41) C dX0_take_41 rfl ?_
  refine jx_iload (pc := 43) C dX0_take_43 rfl ?_
  refine jx_callDv (pc := 45) C (go_X0_85 C (S.od (G.lt (smany f) (by omega))) (Nat.le_of_ble_eq_true rfl) dX0_take_45) (t_X1_become (S.od (G.lt (smany f) hn)) (S.ob (G.lt (smany f) hn)) (T.ob (G.lt (smany f) hn)) (by omega)) (by decide) (by decide) ⟨Nat.zero_le _, Nat.zero_le _⟩ ?_
  refine jx_aload_n (pc := 48) C dX0_take_48 rfl ?_
  refine jx_getIv (pc := 49) C kf_X0_49 rfl S.hall ((congrFun (hF1 h (by omega) (by omega)) 5).trans (H.n5.trans hm)) dX0_take_49 ?_
  refine jx_istore (pc := 52) C dX0_take_52 (jset_7 jc_r) (by decide) ?_
  generalize hJ : (va_up (jst (jst (jst (jst (jst (jst (jst I (h + 25 + 2 * og (smany f)) 1 (f 6)) (h + 25 + 2 * og (smany f)) 2 cv) (h + 25 + 2 * og (smany f)) 3 wd) (h + 25 + 2 * og (smany f)) 4 len) (h + 25 + 2 * og (smany f)) 5 pr) (h + 25 + 2 * og (smany f)) 6 due) (h + 25 + 2 * og (smany f)) 7 (nI 0)) (h + 26 + 2 * og (smany f)) (cpn ((jst (jst (jst (jst (jst (jst (jst I (h + 25 + 2 * og (smany f)) 1 (f 6)) (h + 25 + 2 * og (smany f)) 2 cv) (h + 25 + 2 * og (smany f)) 3 wd) (h + 25 + 2 * og (smany f)) 4 len) (h + 25 + 2 * og (smany f)) 5 pr) (h + 25 + 2 * og (smany f)) 6 due) (h + 25 + 2 * og (smany f)) 7 (nI 0)) (h + 26 + 2 * og (smany f))) (fun _ => nI 0) 6)) = J at hF1 f1 R ⊢
  refine jx_mem (I' := J) (P' := (va_up P (h + 2) (rowt (P (h + 2)) (smany f) (smany f)))) rfl (by rw [rowt_0]; exact va_up_id.symm) ?_
  refine lp_X0_take C S T G H V hn hF1 ?_ (smany f) (Nat.le_refl _) rfl
  refine jx_aload_n (pc := 109) C dX0_take_109 rfl ?_
  refine jx_dup (pc := 110) C dX0_take_110 rfl ?_
  refine jx_getIv (pc := 111) C kf_X0_49 rfl S.hall ((congrFun (hF1 h (by omega) (by omega)) 5).trans H.n5) dX0_take_111 ?_
  refine jx_iconst (pc := 114) C dX0_take_114 nc_1 ?_
  refine jx_iadd (pc := 115) C dX0_take_115 ?_
  refine jx_putI (pc := 116) C kf_X0_49 rfl rfl rfl rfl S.hall dX0_take_116 ?_
  refine jx_aload_n (pc := 119) C dX0_take_119 rfl ?_
  refine jx_dup (pc := 120) C dX0_take_120 rfl ?_
  refine jx_getIv (pc := 121) C kf_X0_53 rfl S.hall ((congrFun jst_eq 6).trans ((upd_n (by decide)).trans ((congrFun (hF1 h (by omega) (by omega)) 6).trans H.n6))) dX0_take_121 ?_
  refine jx_iconst (pc := 124) C dX0_take_124 nc_1 ?_
  refine jx_iadd (pc := 125) C dX0_take_125 ?_
  refine jx_putI (pc := 126) C kf_X0_53 rfl rfl rfl rfl S.hall dX0_take_126 ?_
  refine jx_aload (pc := 129) C dX0_take_129 rfl ?_
  refine jx_getIv (pc := 131) C kf_X0_74 rfl (S.od (G.lt (smany f) (by omega))) ((congrFun (jst_ne (by omega)) _).trans ((congrFun (jst_ne (by omega)) _).trans f1)) dX0_take_131 ?_
  exact jn_iret (pc := 134) C hr (⟨_, rfl, rfl, ⟨_, R, rowt_G G hn (spos_le _)⟩, fun b hb => by rw [jst_ne (by omega), jst_ne (by omega)]; exact hF1 b (by omega) (by omega), fun b hb => va_up_n hb, rfl⟩) dX0_take_134
theorem t_X0_take {l : Launch} {D : va_G} {cA : Nat → ClassId} {N0 : Nat} {Sh : jS} {I : jI} {P : jP} {L : jL} {h : Nat} {og : Nat → Nat} {f : sF} (S : hS Sh h) (T : hP P h) (G : hG P h og) (H : hR I h og f) (V : sI f) (hn : smany f < 10) {cv wd len pr due : Int32} : jN l D cA N0 1 yX0_take cX0_take 8 (some .int) [.ref h, .int cv, .int wd, .int len, .int pr, .int due] Sh I P L (jNi (fun v' I' P' L' => v' = f 6 ∧ (∃ og', hR I' h og' (scomes f cv wd len pr due) ∧ hG P' h og') ∧ hF I h I' ∧ hFP P h P' ∧ L' = L)) := jN_of (by decide) (Nat.le_of_ble_eq_true rfl) (fun _ _ _ _ _ _ _ _ C hr => b_X0_take C hr S T G H V hn)
set_option maxHeartbeats 4000000 in
theorem lp_X0_cp1 {p : Program} {l : Launch} {e : Env} {s : State} {m : MethodId} {args : Array Value} {below : List Frame} {meth : Method} {c : Code} {D : va_G} {cA : Nat → ClassId} {N0 : Nat} {Sh : jS} {I : jI} {P : jP} {L : jL} {Qf : State → Prop} (C : jC p (jRm 2 0 0) s m args meth c D cA N0 cX0_copyFrom 3 RX0 2) {h h2 : Nat} {og og2 : Nat → Nat} {f : sF} (S : hS Sh h) (T : hP P h) (G : hG P h og) (S2 : hS Sh h2) (T2 : hP P h2) (G2 : hG P h2 og2) (H2 : hR I h2 og2 f) (hk : smany f ≤ 10) (hd : h + 45 ≤ h2 ∨ h2 + 45 ≤ h) (hx : ∀ I1, (∀ w, w < 6 → (∀ k, k < 8 → I1 (h + 7 + 3 * w) (k + 1) = f (18 + 12 * w + k)) ∧ ∀ c, c < 4 → I1 (h + 9 + 3 * w) c = f (18 + 12 * w + (8 + c))) → hF I h I1 → jJ p l e (jRm 2 0 0) s m args below meth c D cA N0 3 Qf (fun _ => True) Sh I1 P L 0 0 41 [some (.ref h), some (.ref h2), some (.int (nI 6))] []) : ∀ d i I1, i + d = 6 → (∀ w, w < i → (∀ k, k < 8 → I1 (h + 7 + 3 * w) (k + 1) = f (18 + 12 * w + k)) ∧ ∀ c, c < 4 → I1 (h + 9 + 3 * w) c = f (18 + 12 * w + (8 + c))) → hF I h I1 → jJ p l e (jRm 2 0 0) s m args below meth c D cA N0 3 Qf (fun _ => True) Sh I1 P L 0 0 2 [some (.ref h), some (.ref h2), some (.int (nI i))] [] := by
  intro d
  induction d with
  | zero =>
    intro i I1 hi HW F1
    obtain rfl : i = 6 := by omega
    refine jx_iload_n (pc := 2) C dX0_copyFrom_2 rfl ?_
    refine jx_aload_n (pc := 3) C dX0_copyFrom_3 rfl ?_
    refine jx_getP (pc := 4) C kf_X0_11 rfl S.hall T.wa dX0_copyFrom_4 ?_
    refine jx_alen12 (pc := 7) C S.wa dX0_copyFrom_7 ?_
    refine jx_icmp_ge (pc := 8) C (tgt := 41) dX0_copyFrom_8 (by decide) (fun c8 => ?_) (fun c8 => (by rw [nI_leI (by omega) (by omega)] at c8; exfalso; omega))
    rw [nI_leI (by omega) (by omega)] at c8
    exact hx _ HW F1
  | succ d ih =>
    intro i I1 hi HW F1
    have F2 : ∀ b, h2 ≤ b → b < h2 + 45 → I1 b = I b := fun b h1 h3 => F1 b (by omega)
    refine jx_iload_n (pc := 2) C dX0_copyFrom_2 rfl ?_
    refine jx_aload_n (pc := 3) C dX0_copyFrom_3 rfl ?_
    refine jx_getP (pc := 4) C kf_X0_11 rfl S.hall T.wa dX0_copyFrom_4 ?_
    refine jx_alen12 (pc := 7) C S.wa dX0_copyFrom_7 ?_
    refine jx_icmp_ge (pc := 8) C (tgt := 41) dX0_copyFrom_8 (by decide) (fun c8 => (by rw [nI_leI (by omega) (by omega)] at c8; exfalso; omega)) (fun c8 => ?_)
    rw [nI_leI (by omega) (by omega)] at c8
    refine jx_iload_n (pc := 11) C dX0_copyFrom_11 rfl ?_
    refine jx_aload_n (pc := 12) C dX0_copyFrom_12 rfl ?_
    refine jx_getP (pc := 13) C kf_X0_11 rfl S2.hall T2.wa dX0_copyFrom_13 ?_
    refine jx_alen12 (pc := 16) C S2.wa dX0_copyFrom_16 ?_
    refine jx_icmp_ge (pc := 17) C (tgt := 41) dX0_copyFrom_17 (by decide) (fun c17 => (by rw [nI_leI (by omega) (by omega)] at c17; exfalso; omega)) (fun c17 => ?_)
    rw [nI_leI (by omega) (by omega)] at c17
    refine jx_aload_n (pc := 20) C dX0_copyFrom_20 rfl ?_
    refine jx_getP (pc := 21) C kf_X0_11 rfl S.hall T.wa dX0_copyFrom_21 ?_
    refine jx_iload_n (pc := 24) C dX0_copyFrom_24 rfl ?_
    refine jx_aald12 (pc := 25) C S.wa (by omega) (by decide) (T.wv (show i < 6 by omega)) dX0_copyFrom_25 ?_
    refine jx_aload_n (pc := 26) C dX0_copyFrom_26 rfl ?_
    refine jx_getP (pc := 27) C kf_X0_11 rfl S2.hall T2.wa dX0_copyFrom_27 ?_
    refine jx_iload_n (pc := 30) C dX0_copyFrom_30 rfl ?_
    refine jx_aald12 (pc := 31) C S2.wa (by omega) (by decide) (T2.wv (show i < 6 by omega)) dX0_copyFrom_31 ?_
    refine jx_callv (pc := 32) C (go_X0_39 C (S.wv (show i < 6 by omega)) (Nat.le_of_ble_eq_true rfl) dX0_copyFrom_32) (t_X3_copyFrom (S.wv (show i < 6 by omega)) (S.wy (show i < 6 by omega)) (S.wg (show i < 6 by omega)) (T.wy (show i < 6 by omega)) (T.wg (show i < 6 by omega)) (S2.wv (show i < 6 by omega)) (S2.wy (show i < 6 by omega)) (S2.wg (show i < 6 by omega)) (T2.wy (show i < 6 by omega)) (T2.wg (show i < 6 by omega)) (by omega) (by omega) (by omega) (by omega)) (by decide) (by decide) ⟨Nat.zero_le _, Nat.zero_le _⟩ (fun I32 P32 L32 q32 => ?_)
    obtain ⟨c1, c2, c3, rfl, rfl⟩ := q32
    refine jx_iincN (pc := 35) C dX0_copyFrom_35 rfl (jset_2 jc_r) (by decide) ?_
    refine jx_goto (pc := 38) C (tgt := 2) dX0_copyFrom_38 (by decide) ?_
    refine ih (i + 1) I32 (by omega) (fun w hw => ?_) (fun b hb => (c3 b (by omega) (by omega)).trans (F1 b hb))
    by_cases hwi : w = i
    · subst hwi
      exact ⟨fun k hk2 => by rw [c1 k hk2, F2 _ (by omega) (by omega)]; exact H2.wv (by omega) hk2, fun c hc => by rw [c2 c hc, F2 _ (by omega) (by omega)]; exact H2.sh (by omega) hc⟩
    · exact ⟨fun k hk2 => by rw [c3 _ (by omega) (by omega)]; exact (HW w (by omega)).1 k hk2, fun c hc => by rw [c3 _ (by omega) (by omega)]; exact (HW w (by omega)).2 c hc⟩
set_option maxHeartbeats 4000000 in
theorem lp_X0_cp2 {p : Program} {l : Launch} {e : Env} {s : State} {m : MethodId} {args : Array Value} {below : List Frame} {meth : Method} {c : Code} {D : va_G} {cA : Nat → ClassId} {N0 : Nat} {Sh : jS} {I : jI} {P : jP} {L : jL} {Qf : State → Prop} (C : jC p (jRm 2 0 0) s m args meth c D cA N0 cX0_copyFrom 3 RX0 2) {h h2 : Nat} {og og2 : Nat → Nat} {f : sF} (S : hS Sh h) (T : hP P h) (G : hG P h og) (S2 : hS Sh h2) (T2 : hP P h2) (G2 : hG P h2 og2) (H2 : hR I h2 og2 f) (hk : smany f ≤ 10) (hd : h + 45 ≤ h2 ∨ h2 + 45 ≤ h) (hx : ∀ I1, (∀ w, w < 6 → (∀ k, k < 8 → I1 (h + 7 + 3 * w) (k + 1) = f (18 + 12 * w + k)) ∧ ∀ c, c < 4 → I1 (h + 9 + 3 * w) c = f (18 + 12 * w + (8 + c))) → (∀ j, j < 10 → (∀ k, k < 7 → I1 (h + 25 + 2 * og j) (k + 1) = I (h2 + 25 + 2 * og2 j) (k + 1)) ∧ ∀ w, w < 6 → I1 (h + 26 + 2 * og j) w = I (h2 + 26 + 2 * og2 j) w) → hF I h I1 → jJ p l e (jRm 2 0 0) s m args below meth c D cA N0 3 Qf (fun _ => True) Sh I1 P L 0 0 82 [some (.ref h), some (.ref h2), some (.int (nI 10))] []) : ∀ d i I1, i + d = 10 → (∀ w, w < 6 → (∀ k, k < 8 → I1 (h + 7 + 3 * w) (k + 1) = f (18 + 12 * w + k)) ∧ ∀ c, c < 4 → I1 (h + 9 + 3 * w) c = f (18 + 12 * w + (8 + c))) → (∀ j, j < i → (∀ k, k < 7 → I1 (h + 25 + 2 * og j) (k + 1) = I (h2 + 25 + 2 * og2 j) (k + 1)) ∧ ∀ w, w < 6 → I1 (h + 26 + 2 * og j) w = I (h2 + 26 + 2 * og2 j) w) → hF I h I1 → jJ p l e (jRm 2 0 0) s m args below meth c D cA N0 3 Qf (fun _ => True) Sh I1 P L 0 0 43 [some (.ref h), some (.ref h2), some (.int (nI i))] [] := by
  intro d
  induction d with
  | zero =>
    intro i I1 hi HW HO F1
    obtain rfl : i = 10 := by omega
    refine jx_iload_n (pc := 43) C dX0_copyFrom_43 rfl ?_
    refine jx_aload_n (pc := 44) C dX0_copyFrom_44 rfl ?_
    refine jx_getP (pc := 45) C kf_X0_19 rfl S.hall T.oa dX0_copyFrom_45 ?_
    refine jx_alen13 (pc := 48) C S.oa dX0_copyFrom_48 ?_
    refine jx_icmp_ge (pc := 49) C (tgt := 82) dX0_copyFrom_49 (by decide) (fun c49 => ?_) (fun c49 => (by rw [nI_leI (by omega) (by omega)] at c49; exfalso; omega))
    rw [nI_leI (by omega) (by omega)] at c49
    exact hx _ HW HO F1
  | succ d ih =>
    intro i I1 hi HW HO F1
    have hqi := G.lt i (by omega)
    have hq2 := G2.lt i (by omega)
    have F2 : ∀ b, h2 ≤ b → b < h2 + 45 → I1 b = I b := fun b h1 h3 => F1 b (by omega)
    refine jx_iload_n (pc := 43) C dX0_copyFrom_43 rfl ?_
    refine jx_aload_n (pc := 44) C dX0_copyFrom_44 rfl ?_
    refine jx_getP (pc := 45) C kf_X0_19 rfl S.hall T.oa dX0_copyFrom_45 ?_
    refine jx_alen13 (pc := 48) C S.oa dX0_copyFrom_48 ?_
    refine jx_icmp_ge (pc := 49) C (tgt := 82) dX0_copyFrom_49 (by decide) (fun c49 => (by rw [nI_leI (by omega) (by omega)] at c49; exfalso; omega)) (fun c49 => ?_)
    rw [nI_leI (by omega) (by omega)] at c49
    refine jx_iload_n (pc := 52) C dX0_copyFrom_52 rfl ?_
    refine jx_aload_n (pc := 53) C dX0_copyFrom_53 rfl ?_
    refine jx_getP (pc := 54) C kf_X0_19 rfl S2.hall T2.oa dX0_copyFrom_54 ?_
    refine jx_alen13 (pc := 57) C S2.oa dX0_copyFrom_57 ?_
    refine jx_icmp_ge (pc := 58) C (tgt := 82) dX0_copyFrom_58 (by decide) (fun c58 => (by rw [nI_leI (by omega) (by omega)] at c58; exfalso; omega)) (fun c58 => ?_)
    rw [nI_leI (by omega) (by omega)] at c58
    refine jx_aload_n (pc := 61) C dX0_copyFrom_61 rfl ?_
    refine jx_getP (pc := 62) C kf_X0_19 rfl S.hall T.oa dX0_copyFrom_62 ?_
    refine jx_iload_n (pc := 65) C dX0_copyFrom_65 rfl ?_
    refine jx_aald13 (pc := 66) C S.oa (by omega) (by decide) (G.od (show i < 10 by omega)) dX0_copyFrom_66 ?_
    refine jx_aload_n (pc := 67) C dX0_copyFrom_67 rfl ?_
    refine jx_getP (pc := 68) C kf_X0_19 rfl S2.hall T2.oa dX0_copyFrom_68 ?_
    refine jx_iload_n (pc := 71) C dX0_copyFrom_71 rfl ?_
    refine jx_aald13 (pc := 72) C S2.oa (by omega) (by decide) (G2.od (show i < 10 by omega)) dX0_copyFrom_72 ?_
    refine jx_callv (pc := 73) C (go_X0_43 C (S.od (G.lt i (by omega))) (Nat.le_of_ble_eq_true rfl) dX0_copyFrom_73) (t_X1_copyFrom (S.od hqi) (S.ob hqi) (T.ob hqi) (by omega) (S2.od hq2) (S2.ob hq2) (T2.ob hq2) (by omega) (by omega) (by omega)) (by decide) (by decide) ⟨Nat.zero_le _, Nat.zero_le _⟩ (fun I73 P73 L73 q73 => ?_)
    obtain ⟨c1, c2, c3, rfl, rfl⟩ := q73
    refine jx_iincN (pc := 76) C dX0_copyFrom_76 rfl (jset_2 jc_r) (by decide) ?_
    refine jx_goto (pc := 79) C (tgt := 43) dX0_copyFrom_79 (by decide) ?_
    refine ih (i + 1) I73 (by omega) (fun w hw => ?_) (fun j hj => ?_) (fun b hb => (c3 b (by omega) (by omega)).trans (F1 b hb))
    · exact ⟨fun k hk2 => by rw [c3 _ (by omega) (by omega)]; exact (HW w hw).1 k hk2, fun c hc => by rw [c3 _ (by omega) (by omega)]; exact (HW w hw).2 c hc⟩
    · by_cases hji : j = i
      · subst hji
        exact ⟨fun k hk2 => by rw [c1 k hk2, F2 _ (by omega) (by omega)], fun w hw => by rw [c2 w hw, F2 _ (by omega) (by omega)]⟩
      · have hne : og j ≠ og i := fun z => hji (G.2 _ _ (by omega) (by omega) z)
        have hqj := G.lt j (by omega)
        exact ⟨fun k hk2 => by rw [c3 _ (by omega) (by omega)]; exact (HO j (by omega)).1 k hk2, fun w hw => by rw [c3 _ (by omega) (by omega)]; exact (HO j (by omega)).2 w hw⟩
set_option maxHeartbeats 4000000 in
theorem lp_X0_cp3 {p : Program} {l : Launch} {e : Env} {s : State} {m : MethodId} {args : Array Value} {below : List Frame} {meth : Method} {c : Code} {D : va_G} {cA : Nat → ClassId} {N0 : Nat} {Sh : jS} {I : jI} {P : jP} {L : jL} {Qf : State → Prop} (C : jC p (jRm 2 0 0) s m args meth c D cA N0 cX0_copyFrom 3 RX0 2) {h h2 : Nat} {og og2 : Nat → Nat} {f : sF} (S : hS Sh h) (T : hP P h) (G : hG P h og) (S2 : hS Sh h2) (T2 : hP P h2) (G2 : hG P h2 og2) (H2 : hR I h2 og2 f) (hk : smany f ≤ 10) (hd : h + 45 ≤ h2 ∨ h2 + 45 ≤ h) {I3 : jI} (hx : jJ p l e (jRm 2 0 0) s m args below meth c D cA N0 3 Qf (fun _ => True) Sh (va_up I3 (h + 5) (cpn (I3 (h + 5)) (I3 (h2 + 5)) 4)) P L 0 0 131 [some (.ref h), some (.ref h2), some (.int (nI 4))] []) : ∀ d i, i + d = 4 → jJ p l e (jRm 2 0 0) s m args below meth c D cA N0 3 Qf (fun _ => True) Sh (va_up I3 (h + 5) (cpn (I3 (h + 5)) (I3 (h2 + 5)) i)) P L 0 0 95 [some (.ref h), some (.ref h2), some (.int (nI i))] [] := by
  intro d
  induction d with
  | zero =>
    intro i hi
    obtain rfl : i = 4 := by omega
    refine jx_iload_n (pc := 95) C dX0_copyFrom_95 rfl ?_
    refine jx_aload_n (pc := 96) C dX0_copyFrom_96 rfl ?_
    refine jx_getP (pc := 97) C kf_X0_30 rfl S.hall T.se dX0_copyFrom_97 ?_
    refine jx_alen10 (pc := 100) C S.se dX0_copyFrom_100 ?_
    refine jx_icmp_ge (pc := 101) C (tgt := 131) dX0_copyFrom_101 (by decide) (fun c101 => ?_) (fun c101 => (by rw [nI_leI (by omega) (by omega)] at c101; exfalso; omega))
    rw [nI_leI (by omega) (by omega)] at c101
    exact hx
  | succ d ih =>
    intro i hi
    refine jx_iload_n (pc := 95) C dX0_copyFrom_95 rfl ?_
    refine jx_aload_n (pc := 96) C dX0_copyFrom_96 rfl ?_
    refine jx_getP (pc := 97) C kf_X0_30 rfl S.hall T.se dX0_copyFrom_97 ?_
    refine jx_alen10 (pc := 100) C S.se dX0_copyFrom_100 ?_
    refine jx_icmp_ge (pc := 101) C (tgt := 131) dX0_copyFrom_101 (by decide) (fun c101 => (by rw [nI_leI (by omega) (by omega)] at c101; exfalso; omega)) (fun c101 => ?_)
    rw [nI_leI (by omega) (by omega)] at c101
    refine jx_iload_n (pc := 104) C dX0_copyFrom_104 rfl ?_
    refine jx_aload_n (pc := 105) C dX0_copyFrom_105 rfl ?_
    refine jx_getP (pc := 106) C kf_X0_30 rfl S2.hall T2.se dX0_copyFrom_106 ?_
    refine jx_alen10 (pc := 109) C S2.se dX0_copyFrom_109 ?_
    refine jx_icmp_ge (pc := 110) C (tgt := 131) dX0_copyFrom_110 (by decide) (fun c110 => (by rw [nI_leI (by omega) (by omega)] at c110; exfalso; omega)) (fun c110 => ?_)
    rw [nI_leI (by omega) (by omega)] at c110
    refine jx_aload_n (pc := 113) C dX0_copyFrom_113 rfl ?_
    refine jx_getP (pc := 114) C kf_X0_30 rfl S.hall T.se dX0_copyFrom_114 ?_
    refine jx_iload_n (pc := 117) C dX0_copyFrom_117 rfl ?_
    refine jx_aload_n (pc := 118) C dX0_copyFrom_118 rfl ?_
    refine jx_getP (pc := 119) C kf_X0_30 rfl S2.hall T2.se dX0_copyFrom_119 ?_
    refine jx_iload_n (pc := 122) C dX0_copyFrom_122 rfl ?_
    refine jx_ialdv (pc := 123) C S2.se (by omega) (by decide) (congrFun (va_up_n (by omega)) _) dX0_copyFrom_123 ?_
    refine jx_iast (pc := 124) C S.se (by omega) (by decide) dX0_copyFrom_124 ?_
    rw [jst_up, cpn_s]
    refine jx_iincN (pc := 125) C dX0_copyFrom_125 rfl (jset_2 jc_r) (by decide) ?_
    refine jx_goto (pc := 128) C (tgt := 95) dX0_copyFrom_128 (by decide) ?_
    exact ih (i + 1) (by omega)
set_option maxHeartbeats 4000000 in
theorem b_X0_copyFrom {p : Program} {l : Launch} {e : Env} {s : State} {m : MethodId} {args : Array Value} {below : List Frame} {meth : Method} {c : Code} {D : va_G} {cA : Nat → ClassId} {N0 : Nat} {Sh : jS} {I : jI} {P : jP} {L : jL} (C : jC p (jRm 2 0 0) s m args meth c D cA N0 cX0_copyFrom 3 RX0 2) (hr : meth.sig.returnType = none) {h h2 : Nat} {og og2 : Nat → Nat} {f : sF} (S : hS Sh h) (T : hP P h) (G : hG P h og) (S2 : hS Sh h2) (T2 : hP P h2) (G2 : hG P h2 og2) (H2 : hR I h2 og2 f) (hk : smany f ≤ 10) (hd : h + 45 ≤ h2 ∨ h2 + 45 ≤ h) : jJ p l e (jRm 2 0 0) s m args below meth c D cA N0 3 (MQ below (jQn D cA N0 Sh (jNv (fun I' P' L' => hR I' h og f ∧ hF I h I' ∧ P' = P ∧ L' = L))) args s 0 0 (fun q => N0 ≤ q)) (fun _ => True) Sh I P L 0 0 0 [some (.ref h), some (.ref h2), none] [] := by
  refine jx_iconst (pc := 0) C dX0_copyFrom_0 nc_0 ?_
  refine jx_istore_n (pc := 1) C dX0_copyFrom_1 (jset_2 jc_r) (by decide) ?_
  refine lp_X0_cp1 (I := I) C S T G S2 T2 G2 H2 hk hd (fun I1 HW F1 => ?_) 6 0 I rfl (fun w hw => absurd hw (Nat.not_lt_zero w)) hF.rf
  refine jx_iconst (pc := 41) C dX0_copyFrom_41 nc_0 ?_
  refine jx_istore_n (pc := 42) C dX0_copyFrom_42 (jset_2 jc_r) (by decide) ?_
  refine lp_X0_cp2 (I := I) C S T G S2 T2 G2 H2 hk hd (fun I2 HW2 HO2 F2 => ?_) 10 0 I1 rfl HW (fun j hj => absurd hj (Nat.not_lt_zero j)) F1
  refine jx_aload_n (pc := 82) C dX0_copyFrom_82 rfl ?_
  refine jx_getP (pc := 83) C kf_X0_26 rfl S.hall T.sk dX0_copyFrom_83 ?_
  refine jx_aload_n (pc := 86) C dX0_copyFrom_86 rfl ?_
  refine jx_getP (pc := 87) C kf_X0_26 rfl S2.hall T2.sk dX0_copyFrom_87 ?_
  refine jx_callDv (pc := 90) C (go_X0_46 C S.sk (Nat.le_of_ble_eq_true rfl) dX0_copyFrom_90) (t_X4_copyFrom S.sk S.sg T.sg S2.sk S2.sg T2.sg (by omega)) (by decide) (by decide) ⟨Nat.zero_le _, Nat.zero_le _⟩ ?_
  refine jx_iconst (pc := 93) C dX0_copyFrom_93 nc_0 ?_
  refine jx_istore_n (pc := 94) C dX0_copyFrom_94 (jset_2 jc_r) (by decide) ?_
  generalize hI3 : va_up I2 (h + 4) (cpn (I2 (h + 4)) (I2 (h2 + 4)) 4) = I3
  refine jx_mem (I' := (va_up I3 (h + 5) (cpn (I3 (h + 5)) (I3 (h2 + 5)) 0))) (P' := P) (by rw [cpn_0]; exact va_up_id.symm) rfl ?_
  refine lp_X0_cp3 (I := I) C S T G S2 T2 G2 H2 hk hd ?_ 4 0 rfl
  have F3 : hF I h I3 := by rw [← hI3]; exact F2.up (by omega)
  refine jx_aload_n (pc := 131) C dX0_copyFrom_131 rfl ?_
  refine jx_aload_n (pc := 132) C dX0_copyFrom_132 rfl ?_
  refine jx_getI (pc := 133) C kf_X0_49 rfl S2.hall dX0_copyFrom_133 ?_
  refine jx_putI (pc := 136) C kf_X0_49 rfl rfl rfl rfl S.hall dX0_copyFrom_136 ?_
  refine jx_aload_n (pc := 139) C dX0_copyFrom_139 rfl ?_
  refine jx_aload_n (pc := 140) C dX0_copyFrom_140 rfl ?_
  refine jx_getI (pc := 141) C kf_X0_53 rfl S2.hall dX0_copyFrom_141 ?_
  refine jx_putI (pc := 144) C kf_X0_53 rfl rfl rfl rfl S.hall dX0_copyFrom_144 ?_
  refine jx_aload_n (pc := 147) C dX0_copyFrom_147 rfl ?_
  refine jx_aload_n (pc := 148) C dX0_copyFrom_148 rfl ?_
  refine jx_getI (pc := 149) C kf_X0_56 rfl S2.hall dX0_copyFrom_149 ?_
  refine jx_putI (pc := 152) C kf_X0_56 rfl rfl rfl rfl S.hall dX0_copyFrom_152 ?_
  refine jx_aload_n (pc := 155) C dX0_copyFrom_155 rfl ?_
  refine jx_aload_n (pc := 156) C dX0_copyFrom_156 rfl ?_
  refine jx_getI (pc := 157) C kf_X0_59 rfl S2.hall dX0_copyFrom_157 ?_
  refine jx_putI (pc := 160) C kf_X0_59 rfl rfl rfl rfl S.hall dX0_copyFrom_160 ?_
  refine jx_aload_n (pc := 163) C dX0_copyFrom_163 rfl ?_
  refine jx_aload_n (pc := 164) C dX0_copyFrom_164 rfl ?_
  refine jx_getI (pc := 165) C kf_X0_62 rfl S2.hall dX0_copyFrom_165 ?_
  refine jx_putI (pc := 168) C kf_X0_62 rfl rfl rfl rfl S.hall dX0_copyFrom_168 ?_
  refine jx_aload_n (pc := 171) C dX0_copyFrom_171 rfl ?_
  refine jx_aload_n (pc := 172) C dX0_copyFrom_172 rfl ?_
  refine jx_getI (pc := 173) C kf_X0_65 rfl S2.hall dX0_copyFrom_173 ?_
  refine jx_putI (pc := 176) C kf_X0_65 rfl rfl rfl rfl S.hall dX0_copyFrom_176 ?_
  refine jx_aload_n (pc := 179) C dX0_copyFrom_179 rfl ?_
  refine jx_aload_n (pc := 180) C dX0_copyFrom_180 rfl ?_
  refine jx_getI (pc := 181) C kf_X0_68 rfl S2.hall dX0_copyFrom_181 ?_
  refine jx_putI (pc := 184) C kf_X0_68 rfl rfl rfl rfl S.hall dX0_copyFrom_184 ?_
  refine jx_aload_n (pc := 187) C dX0_copyFrom_187 rfl ?_
  refine jx_aload_n (pc := 188) C dX0_copyFrom_188 rfl ?_
  refine jx_getI (pc := 189) C kf_X0_71 rfl S2.hall dX0_copyFrom_189 ?_
  refine jx_putI (pc := 192) C kf_X0_71 rfl rfl rfl rfl S.hall dX0_copyFrom_192 ?_
  exact jn_vret (pc := 195) C hr (by
    refine ⟨rfl, ?_, ?_, rfl, rfl⟩
    · have e2 : ∀ b, h2 ≤ b → b < h2 + 45 → I2 b = I b := fun b h1 h3 => F2 b (by omega)
      have e3 : ∀ b, h2 ≤ b → b < h2 + 45 → I3 b = I b := fun b h1 h3 => F3 b (by omega)
      have f3 : ∀ b, b ≠ h + 4 → I3 b = I2 b := fun b hb => by rw [← hI3]; exact va_up_n hb
      have g3 : ∀ c, c < 4 → I3 (h + 4) c = f (14 + c) := fun c hc => by rw [← hI3, va_up_s, cpn_w hc, e2 _ (by omega) (by omega)]; exact H2.st hc
      have hw : h2 ≠ h := by omega
      have hw5 : h2 ≠ h + 5 := by omega
      refine ⟨fun w k h1 h3 => ?_, fun w c h1 h3 => ?_, fun c h1 => ?_, fun k h1 => ?_, ⟨?_, ?_, ?_, ?_, ?_, ?_, ?_, ?_⟩, fun o ho => ?_⟩
      · simp only [jst, va_up, show h + 7 + 3 * w ≠ h by omega, show h + 7 + 3 * w ≠ h + 5 by omega, if_false]; rw [f3 _ (by omega)]; exact (HW2 w h1).1 k h3
      · simp only [jst, va_up, show h + 9 + 3 * w ≠ h by omega, show h + 9 + 3 * w ≠ h + 5 by omega, if_false]; rw [f3 _ (by omega)]; exact (HW2 w h1).2 c h3
      · simp only [jst, va_up, show h + 4 ≠ h by omega, show h + 4 ≠ h + 5 by omega, if_false]; exact g3 c h1
      · simp only [jst, va_up, show h + 5 ≠ h by omega, if_true, if_false]; rw [cpn_w h1, e3 _ (by omega) (by omega)]; exact H2.se h1
      · simp only [jst, va_up, upd, hw, hw5, if_true, if_false]; (try simp); rw [e3 _ (by omega) (by omega)]; exact H2.n5
      · simp only [jst, va_up, upd, hw, hw5, if_true, if_false]; (try simp); rw [e3 _ (by omega) (by omega)]; exact H2.n6
      · simp only [jst, va_up, upd, hw, hw5, if_true, if_false]; (try simp); rw [e3 _ (by omega) (by omega)]; exact H2.n7
      · simp only [jst, va_up, upd, hw, hw5, if_true, if_false]; (try simp); rw [e3 _ (by omega) (by omega)]; exact H2.n8
      · simp only [jst, va_up, upd, hw, hw5, if_true, if_false]; (try simp); rw [e3 _ (by omega) (by omega)]; exact H2.n9
      · simp only [jst, va_up, upd, hw, hw5, if_true, if_false]; (try simp); rw [e3 _ (by omega) (by omega)]; exact H2.n10
      · simp only [jst, va_up, upd, hw, hw5, if_true, if_false]; (try simp); rw [e3 _ (by omega) (by omega)]; exact H2.n11
      · simp only [jst, va_up, upd, hw, hw5, if_true, if_false]; (try simp); rw [e3 _ (by omega) (by omega)]; exact H2.n12
      · have hq := G.lt o (by omega)
        obtain ⟨o1, o2⟩ := HO2 o (by omega)
        refine ⟨fun k hk2 => ?_, ?_, fun w hw2 => ?_⟩
        · simp only [jst, va_up, show h + 25 + 2 * og o ≠ h by omega, show h + 25 + 2 * og o ≠ h + 5 by omega, if_false]; rw [f3 _ (by omega), o1 k (by omega)]; exact H2.od ho hk2
        · simp only [jst, va_up, show h + 25 + 2 * og o ≠ h by omega, show h + 25 + 2 * og o ≠ h + 5 by omega, if_false]; rw [f3 _ (by omega), o1 6 (by decide)]; exact H2.gd ho
        · simp only [jst, va_up, show h + 26 + 2 * og o ≠ h by omega, show h + 26 + 2 * og o ≠ h + 5 by omega, if_false]; rw [f3 _ (by omega), o2 w hw2]; exact H2.by ho hw2
    · refine hF.st ?_ (by omega)
      refine hF.st ?_ (by omega)
      refine hF.st ?_ (by omega)
      refine hF.st ?_ (by omega)
      refine hF.st ?_ (by omega)
      refine hF.st ?_ (by omega)
      refine hF.st ?_ (by omega)
      refine hF.st ?_ (by omega)
      exact F3.up (by omega)) dX0_copyFrom_195
theorem t_X0_copyFrom {l : Launch} {D : va_G} {cA : Nat → ClassId} {N0 : Nat} {Sh : jS} {I : jI} {P : jP} {L : jL} {h h2 : Nat} {og og2 : Nat → Nat} {f : sF} (S : hS Sh h) (T : hP P h) (G : hG P h og) (S2 : hS Sh h2) (T2 : hP P h2) (G2 : hG P h2 og2) (H2 : hR I h2 og2 f) (hk : smany f ≤ 10) (hd : h + 45 ≤ h2 ∨ h2 + 45 ≤ h) : jN l D cA N0 2 yX0_copyFrom cX0_copyFrom 3 none [.ref h, .ref h2] Sh I P L (jNv (fun I' P' L' => hR I' h og f ∧ hF I h I' ∧ P' = P ∧ L' = L)) := jN_of (by decide) (Nat.le_of_ble_eq_true rfl) (fun _ _ _ _ _ _ _ _ C hr => b_X0_copyFrom C hr S T G S2 T2 G2 H2 hk hd)
def sev2 (f : sF) : Nat → Bool × Int32 × Int32
  | 0 => (false, nI 0, nI 0)
  | n + 1 => if 0 < f (18 + 12 * n + 0) then (true, (if (sev2 f n).1 = true then smin (sev2 f n).2.1 (f (18 + 12 * n + 4)) else f (18 + 12 * n + 4)), smaxi (sev2 f n).2.2 (f (18 + 12 * n + 4))) else sev2 f n
theorem sev2_y {f : sF} {n : Nat} (h : 0 < f (18 + 12 * n + 0)) : sev2 f (n + 1) = (true, (if (sev2 f n).1 = true then smin (sev2 f n).2.1 (f (18 + 12 * n + 4)) else f (18 + 12 * n + 4)), smaxi (sev2 f n).2.2 (f (18 + 12 * n + 4))) := if_pos h
theorem sev2_n {f : sF} {n : Nat} (h : ¬ 0 < f (18 + 12 * n + 0)) : sev2 f (n + 1) = sev2 f n := if_neg h
theorem sev2_e {f : sF} (he : ∀ w, w < 6 → 0 ≤ f (18 + 12 * w + 4)) : ∀ n, n ≤ 6 → (sevN f n).2 = (sev2 f n).2.2 ∧ 0 ≤ (sev2 f n).2.2 ∧ ((sev2 f n).1 = true → (sevN f n).1 = (sev2 f n).2.1 ∧ 0 ≤ (sev2 f n).2.1) ∧ ((sev2 f n).1 = false → (sevN f n).1 = -1 ∧ (sev2 f n).2.2 = 0) := by
  intro n
  have hm1 : (-1 : Int32).toInt = -1 := by decide
  have h00 : (0 : Int32).toInt = 0 := by decide
  induction n with
  | zero => intro _; exact ⟨rfl, (show (0 : Int32) ≤ nI 0 by decide), fun z => Bool.noConfusion z, fun _ => ⟨rfl, rfl⟩⟩
  | succ n ih =>
    intro hn
    obtain ⟨a1, a2, a3, a4⟩ := ih (by omega)
    have hen := he n (by omega)
    by_cases hw : 0 < f (18 + 12 * n + 0)
    · have hS : sevN f (n + 1) = (if (sevN f n).1 = -1 ∨ f (18 + 12 * n + 4) < (sevN f n).1 then f (18 + 12 * n + 4) else (sevN f n).1, if (sevN f n).2 < f (18 + 12 * n + 4) then f (18 + 12 * n + 4) else (sevN f n).2) := if_pos hw
      rw [hS, sev2_y hw]
      refine ⟨?_, ?_, fun _ => ?_, fun z => by cases z⟩
      · show (if _ then _ else _) = smaxi _ _
        rw [a1]; rfl
      · show 0 ≤ smaxi _ _
        unfold smaxi
        split
        · exact hen
        · exact a2
      · by_cases hb : (sev2 f n).1 = true
        · obtain ⟨b1, b2⟩ := a3 hb
          have hne : ¬ (sevN f n).1 = -1 := fun z => by
            rw [b1] at z
            rw [i32_le, z, hm1, h00] at b2
            omega
          refine ⟨?_, ?_⟩
          · show (if (sevN f n).1 = -1 ∨ f (18 + 12 * n + 4) < (sevN f n).1 then f (18 + 12 * n + 4) else (sevN f n).1) = (if (sev2 f n).1 = true then smin (sev2 f n).2.1 (f (18 + 12 * n + 4)) else f (18 + 12 * n + 4))
            rw [if_pos hb, ← b1]
            unfold smin
            by_cases hlt : f (18 + 12 * n + 4) < (sevN f n).1
            · rw [if_pos (Or.inr hlt), if_pos hlt]
            · rw [if_neg (fun z => z.elim hne hlt), if_neg hlt]
          · show 0 ≤ (if (sev2 f n).1 = true then smin (sev2 f n).2.1 (f (18 + 12 * n + 4)) else f (18 + 12 * n + 4))
            rw [if_pos hb]
            unfold smin
            split
            · exact hen
            · exact b2
        · obtain ⟨b1, b2⟩ := a4 (Bool.eq_false_iff.mpr hb)
          refine ⟨?_, ?_⟩
          · show (if (sevN f n).1 = -1 ∨ f (18 + 12 * n + 4) < (sevN f n).1 then f (18 + 12 * n + 4) else (sevN f n).1) = (if (sev2 f n).1 = true then smin (sev2 f n).2.1 (f (18 + 12 * n + 4)) else f (18 + 12 * n + 4))
            rw [if_pos (Or.inl b1), if_neg hb]
          · show 0 ≤ (if (sev2 f n).1 = true then smin (sev2 f n).2.1 (f (18 + 12 * n + 4)) else f (18 + 12 * n + 4))
            rw [if_neg hb]
            exact hen
    · rw [sevN_no hw, sev2_n hw]
      exact ⟨a1, a2, a3, a4⟩
theorem sev2_v {f : sF} (he : ∀ w, w < 6 → 0 ≤ f (18 + 12 * w + 4)) : seven f = if 0 < (sev2 f 6).2.2 then FP.ddiv (FP.i2d (sev2 f 6).2.1) (FP.i2d (sev2 f 6).2.2) else FP.dconst1 := by
  obtain ⟨a1, a2, a3, a4⟩ := sev2_e he 6 (Nat.le_refl 6)
  unfold seven
  rw [a1]
  by_cases h : (sev2 f 6).2.2 = 0
  · rw [if_pos h, if_neg (by rw [h]; decide)]
  · have hp : 0 < (sev2 f 6).2.2 := by
      have h1 : ¬ (sev2 f 6).2.2.toInt = (0 : Int32).toInt := fun z => h (Int32.toInt_inj.mp z)
      rw [i32_le] at a2
      rw [i32_lt]
      omega
    rw [if_neg h, if_pos hp]
    cases hb : (sev2 f 6).1 with
    | true => rw [(a3 hb).1]
    | false => exact absurd (a4 hb).2 h
set_option maxHeartbeats 4000000 in
theorem lp_X0_earned {p : Program} {l : Launch} {e : Env} {s : State} {m : MethodId} {args : Array Value} {below : List Frame} {meth : Method} {c : Code} {D : va_G} {cA : Nat → ClassId} {N0 : Nat} {Sh : jS} {I : jI} {P : jP} {L : jL} {Qf : State → Prop} (C : jC p (jRm 1 0 0) s m args meth c D cA N0 cX0_earnedRatio 6 RX0 1) {h : Nat} {og : Nat → Nat} {f : sF} (S : hS Sh h) (T : hP P h) (G : hG P h og) (H : hR I h og f) (V : sI f) (hx : ∀ x, jJ p l e (jRm 1 0 0) s m args below meth c D cA N0 6 Qf (fun _ => True) Sh I P L 0 0 75 [some (.ref h), some (.int (bI (sev2 f 6).1)), some (.int (sev2 f 6).2.1), some (.int (sev2 f 6).2.2), some (.int (nI 6)), x] []) : ∀ d i x, i + d = 6 → jJ p l e (jRm 1 0 0) s m args below meth c D cA N0 6 Qf (fun _ => True) Sh I P L 0 0 9 [some (.ref h), some (.int (bI (sev2 f i).1)), some (.int (sev2 f i).2.1), some (.int (sev2 f i).2.2), some (.int (nI i)), x] [] := by
  intro d
  induction d with
  | zero =>
    intro i x hi
    obtain rfl : i = 6 := by omega
    refine jx_iload (pc := 9) C dX0_earnedRatio_9 rfl ?_
    refine jx_aload_n (pc := 11) C dX0_earnedRatio_11 rfl ?_
    refine jx_getP (pc := 12) C kf_X0_11 rfl S.hall T.wa dX0_earnedRatio_12 ?_
    refine jx_alen12 (pc := 15) C S.wa dX0_earnedRatio_15 ?_
    refine jx_icmp_ge (pc := 16) C (tgt := 75) dX0_earnedRatio_16 (by decide) (fun c16 => ?_) (fun c16 => (by rw [nI_leI (by omega) (by omega)] at c16; exfalso; omega))
    rw [nI_leI (by omega) (by omega)] at c16
    exact hx _
  | succ d ih =>
    intro i x hi
    have d0 : I (h + 7 + 3 * i) 1 = f (18 + 12 * i + 0) := H.wv (k := 0) (show i < 6 by omega) (by decide)
    by_cases hl : 0 < f (18 + 12 * i + 0)
    · have hb : ¬ bI (decide (0 < I (h + 7 + 3 * i) 1)) = 0 := by rw [bI_0, d0]; exact fun z => of_decide_eq_false z hl
      have h6 := fun x => ih (i + 1) x (by omega)
      simp only [sev2_y hl] at h6
      cases hq : (sev2 f i).1 with
      | true =>
        rw [hq] at h6
        simp only [if_true] at h6
        rw [show bI true = nI 1 from rfl]
        refine jx_iload (pc := 9) C dX0_earnedRatio_9 rfl ?_
        refine jx_aload_n (pc := 11) C dX0_earnedRatio_11 rfl ?_
        refine jx_getP (pc := 12) C kf_X0_11 rfl S.hall T.wa dX0_earnedRatio_12 ?_
        refine jx_alen12 (pc := 15) C S.wa dX0_earnedRatio_15 ?_
        refine jx_icmp_ge (pc := 16) C (tgt := 75) dX0_earnedRatio_16 (by decide) (fun c16 => (by rw [nI_leI (by omega) (by omega)] at c16; exfalso; omega)) (fun c16 => ?_)
        rw [nI_leI (by omega) (by omega)] at c16
        refine jx_aload_n (pc := 19) C dX0_earnedRatio_19 rfl ?_
        refine jx_getP (pc := 20) C kf_X0_11 rfl S.hall T.wa dX0_earnedRatio_20 ?_
        refine jx_iload (pc := 23) C dX0_earnedRatio_23 rfl ?_
        refine jx_aald12 (pc := 25) C S.wa (by omega) (by decide) (T.wv (show i < 6 by omega)) dX0_earnedRatio_25 ?_
        refine jx_callD (pc := 26) C (go_X0_107 C (S.wv (show i < 6 by omega)) (Nat.le_of_ble_eq_true rfl) dX0_earnedRatio_26) (t_X3_hasLoom (S.wv (show i < 6 by omega))) (by decide) (by decide) ⟨Nat.zero_le _, Nat.zero_le _⟩ ?_
        refine jx_if_eq (pc := 29) C (tgt := 69) dX0_earnedRatio_29 (by decide) (fun c29 => (by exfalso; exact hb c29)) (fun c29 => ?_)
        refine jx_aload_n (pc := 32) C dX0_earnedRatio_32 rfl ?_
        refine jx_getP (pc := 33) C kf_X0_11 rfl S.hall T.wa dX0_earnedRatio_33 ?_
        refine jx_iload (pc := 36) C dX0_earnedRatio_36 rfl ?_
        refine jx_aald12 (pc := 38) C S.wa (by omega) (by decide) (T.wv (show i < 6 by omega)) dX0_earnedRatio_38 ?_
        refine jx_getIv (pc := 39) C kf_X0_194 rfl (S.wv (show i < 6 by omega)) (H.wv (k := 4) (show i < 6 by omega) (by decide)) dX0_earnedRatio_39 ?_
        refine jx_istore (pc := 42) C dX0_earnedRatio_42 (jset_5 jc_i) (by decide) ?_
        refine jx_iload_n (pc := 44) C dX0_earnedRatio_44 rfl ?_
        refine jx_if_eq (pc := 45) C (tgt := 57) dX0_earnedRatio_45 (by decide) (fun c45 => (by exfalso; revert c45; decide)) (fun c45 => ?_)
        refine jx_iload_n (pc := 48) C dX0_earnedRatio_48 rfl ?_
        refine jx_iload (pc := 49) C dX0_earnedRatio_49 rfl ?_
        refine jx_mmin (pc := 51) C (jWS_in 421 (by decide +kernel) rfl) (by decide) ⟨Nat.zero_le _, Nat.zero_le _⟩ (by decide) dX0_earnedRatio_51 ?_
        refine jx_goto (pc := 54) C (tgt := 59) dX0_earnedRatio_54 (by decide) ?_
        refine jx_istore_n (pc := 59) C dX0_earnedRatio_59 (jset_2 jc_i) (by decide) ?_
        refine jx_iload_n (pc := 60) C dX0_earnedRatio_60 rfl ?_
        refine jx_iload (pc := 61) C dX0_earnedRatio_61 rfl ?_
        refine jx_mmax (pc := 63) C (jWS_in 424 (by decide +kernel) rfl) (by decide) ⟨Nat.zero_le _, Nat.zero_le _⟩ (by decide) dX0_earnedRatio_63 ?_
        refine jx_istore_n (pc := 66) C dX0_earnedRatio_66 (jset_3 jc_i) (by decide) ?_
        refine jx_iconst (pc := 67) C dX0_earnedRatio_67 nc_1 ?_
        refine jx_istore_n (pc := 68) C dX0_earnedRatio_68 (jset_1 jc_r) (by decide) ?_
        refine jx_iincN (pc := 69) C dX0_earnedRatio_69 rfl (jset_4 jc_i) (by decide) ?_
        refine jx_goto (pc := 72) C (tgt := 9) dX0_earnedRatio_72 (by decide) ?_
        exact h6 _
      | false =>
        rw [hq] at h6
        simp only [Bool.false_eq_true, if_false] at h6
        rw [show bI false = nI 0 from rfl]
        refine jx_iload (pc := 9) C dX0_earnedRatio_9 rfl ?_
        refine jx_aload_n (pc := 11) C dX0_earnedRatio_11 rfl ?_
        refine jx_getP (pc := 12) C kf_X0_11 rfl S.hall T.wa dX0_earnedRatio_12 ?_
        refine jx_alen12 (pc := 15) C S.wa dX0_earnedRatio_15 ?_
        refine jx_icmp_ge (pc := 16) C (tgt := 75) dX0_earnedRatio_16 (by decide) (fun c16 => (by rw [nI_leI (by omega) (by omega)] at c16; exfalso; omega)) (fun c16 => ?_)
        rw [nI_leI (by omega) (by omega)] at c16
        refine jx_aload_n (pc := 19) C dX0_earnedRatio_19 rfl ?_
        refine jx_getP (pc := 20) C kf_X0_11 rfl S.hall T.wa dX0_earnedRatio_20 ?_
        refine jx_iload (pc := 23) C dX0_earnedRatio_23 rfl ?_
        refine jx_aald12 (pc := 25) C S.wa (by omega) (by decide) (T.wv (show i < 6 by omega)) dX0_earnedRatio_25 ?_
        refine jx_callD (pc := 26) C (go_X0_107 C (S.wv (show i < 6 by omega)) (Nat.le_of_ble_eq_true rfl) dX0_earnedRatio_26) (t_X3_hasLoom (S.wv (show i < 6 by omega))) (by decide) (by decide) ⟨Nat.zero_le _, Nat.zero_le _⟩ ?_
        refine jx_if_eq (pc := 29) C (tgt := 69) dX0_earnedRatio_29 (by decide) (fun c29 => (by exfalso; exact hb c29)) (fun c29 => ?_)
        refine jx_aload_n (pc := 32) C dX0_earnedRatio_32 rfl ?_
        refine jx_getP (pc := 33) C kf_X0_11 rfl S.hall T.wa dX0_earnedRatio_33 ?_
        refine jx_iload (pc := 36) C dX0_earnedRatio_36 rfl ?_
        refine jx_aald12 (pc := 38) C S.wa (by omega) (by decide) (T.wv (show i < 6 by omega)) dX0_earnedRatio_38 ?_
        refine jx_getIv (pc := 39) C kf_X0_194 rfl (S.wv (show i < 6 by omega)) (H.wv (k := 4) (show i < 6 by omega) (by decide)) dX0_earnedRatio_39 ?_
        refine jx_istore (pc := 42) C dX0_earnedRatio_42 (jset_5 jc_i) (by decide) ?_
        refine jx_iload_n (pc := 44) C dX0_earnedRatio_44 rfl ?_
        refine jx_if_eq (pc := 45) C (tgt := 57) dX0_earnedRatio_45 (by decide) (fun c45 => ?_) (fun c45 => (by exfalso; revert c45; decide))
        refine jx_iload (pc := 57) C dX0_earnedRatio_57 rfl ?_
        refine jx_istore_n (pc := 59) C dX0_earnedRatio_59 (jset_2 jc_i) (by decide) ?_
        refine jx_iload_n (pc := 60) C dX0_earnedRatio_60 rfl ?_
        refine jx_iload (pc := 61) C dX0_earnedRatio_61 rfl ?_
        refine jx_mmax (pc := 63) C (jWS_in 424 (by decide +kernel) rfl) (by decide) ⟨Nat.zero_le _, Nat.zero_le _⟩ (by decide) dX0_earnedRatio_63 ?_
        refine jx_istore_n (pc := 66) C dX0_earnedRatio_66 (jset_3 jc_i) (by decide) ?_
        refine jx_iconst (pc := 67) C dX0_earnedRatio_67 nc_1 ?_
        refine jx_istore_n (pc := 68) C dX0_earnedRatio_68 (jset_1 jc_r) (by decide) ?_
        refine jx_iincN (pc := 69) C dX0_earnedRatio_69 rfl (jset_4 jc_i) (by decide) ?_
        refine jx_goto (pc := 72) C (tgt := 9) dX0_earnedRatio_72 (by decide) ?_
        exact h6 _
    · have hb : bI (decide (0 < I (h + 7 + 3 * i) 1)) = 0 := by rw [bI_0, d0]; exact decide_eq_false hl
      have h6 := ih (i + 1) x (by omega)
      rw [sev2_n hl] at h6
      refine jx_iload (pc := 9) C dX0_earnedRatio_9 rfl ?_
      refine jx_aload_n (pc := 11) C dX0_earnedRatio_11 rfl ?_
      refine jx_getP (pc := 12) C kf_X0_11 rfl S.hall T.wa dX0_earnedRatio_12 ?_
      refine jx_alen12 (pc := 15) C S.wa dX0_earnedRatio_15 ?_
      refine jx_icmp_ge (pc := 16) C (tgt := 75) dX0_earnedRatio_16 (by decide) (fun c16 => (by rw [nI_leI (by omega) (by omega)] at c16; exfalso; omega)) (fun c16 => ?_)
      rw [nI_leI (by omega) (by omega)] at c16
      refine jx_aload_n (pc := 19) C dX0_earnedRatio_19 rfl ?_
      refine jx_getP (pc := 20) C kf_X0_11 rfl S.hall T.wa dX0_earnedRatio_20 ?_
      refine jx_iload (pc := 23) C dX0_earnedRatio_23 rfl ?_
      refine jx_aald12 (pc := 25) C S.wa (by omega) (by decide) (T.wv (show i < 6 by omega)) dX0_earnedRatio_25 ?_
      refine jx_callD (pc := 26) C (go_X0_107 C (S.wv (show i < 6 by omega)) (Nat.le_of_ble_eq_true rfl) dX0_earnedRatio_26) (t_X3_hasLoom (S.wv (show i < 6 by omega))) (by decide) (by decide) ⟨Nat.zero_le _, Nat.zero_le _⟩ ?_
      refine jx_if_eq (pc := 29) C (tgt := 69) dX0_earnedRatio_29 (by decide) (fun c29 => ?_) (fun c29 => (by exfalso; exact c29 hb))
      refine jx_iincN (pc := 69) C dX0_earnedRatio_69 rfl (jset_4 jc_i) (by decide) ?_
      refine jx_goto (pc := 72) C (tgt := 9) dX0_earnedRatio_72 (by decide) ?_
      exact h6
set_option maxHeartbeats 4000000 in
theorem b_X0_earnedRatio {p : Program} {l : Launch} {e : Env} {s : State} {m : MethodId} {args : Array Value} {below : List Frame} {meth : Method} {c : Code} {D : va_G} {cA : Nat → ClassId} {N0 : Nat} {Sh : jS} {I : jI} {P : jP} {L : jL} (C : jC p (jRm 1 0 0) s m args meth c D cA N0 cX0_earnedRatio 6 RX0 1) (hr : meth.sig.returnType = (some .double)) {h : Nat} {og : Nat → Nat} {f : sF} (S : hS Sh h) (T : hP P h) (G : hG P h og) (H : hR I h og f) (V : sI f) (he : ∀ w, w < 6 → 0 ≤ f (18 + 12 * w + 4)) : jJ p l e (jRm 1 0 0) s m args below meth c D cA N0 6 (MQ below (jQn D cA N0 Sh (jD (some (.double (seven f))) I P L)) args s 0 0 (fun q => N0 ≤ q)) (fun _ => True) Sh I P L 0 0 0 [some (.ref h), none, none, none, none, none] [] := by
  refine jx_iconst (pc := 0) C dX0_earnedRatio_0 nc_0 ?_
  refine jx_istore_n (pc := 1) C dX0_earnedRatio_1 (jset_1 jc_r) (by decide) ?_
  refine jx_iconst (pc := 2) C dX0_earnedRatio_2 nc_0 ?_
  refine jx_istore_n (pc := 3) C dX0_earnedRatio_3 (jset_2 jc_i) (by decide) ?_
  refine jx_iconst (pc := 4) C dX0_earnedRatio_4 nc_0 ?_
  refine jx_istore_n (pc := 5) C dX0_earnedRatio_5 (jset_3 jc_i) (by decide) ?_
  refine jx_iconst (pc := 6) C dX0_earnedRatio_6 nc_0 ?_
  refine jx_istore (pc := 7) C dX0_earnedRatio_7 (jset_4 jc_i) (by decide) ?_
  refine lp_X0_earned C S T G H V (fun x => ?_) 6 0 none (Nat.zero_add 6)
  refine jx_iload_n (pc := 75) C dX0_earnedRatio_75 rfl ?_
  refine jx_if_le (pc := 76) C (tgt := 87) dX0_earnedRatio_76 (by decide) (fun c76 => ?_) (fun c76 => ?_)
  · refine jx_dconst1 (pc := 87) C dX0_earnedRatio_87 ?_
    exact jn_dret (pc := 88) C hr (jD_of (congrArg (fun z => some (Value.double z)) (by rw [sev2_v he]; first | exact (if_pos (i32_nle.mp c76)).symm | exact (if_neg (i32_nlt.mpr c76)).symm)) rfl rfl rfl) dX0_earnedRatio_88
  · refine jx_iload_n (pc := 79) C dX0_earnedRatio_79 rfl ?_
    refine jx_i2d (pc := 80) C dX0_earnedRatio_80 ?_
    refine jx_iload_n (pc := 81) C dX0_earnedRatio_81 rfl ?_
    refine jx_i2d (pc := 82) C dX0_earnedRatio_82 ?_
    refine jx_ddiv (pc := 83) C dX0_earnedRatio_83 (fl_n64 (fl_div (fun z => c76 (by rw [z]; decide)))) ?_
    refine jx_goto (pc := 84) C (tgt := 88) dX0_earnedRatio_84 (by decide) ?_
    exact jn_dret (pc := 88) C hr (jD_of (congrArg (fun z => some (Value.double z)) (by rw [sev2_v he]; first | exact (if_pos (i32_nle.mp c76)).symm | exact (if_neg (i32_nlt.mpr c76)).symm)) rfl rfl rfl) dX0_earnedRatio_88
theorem t_X0_earnedRatio {l : Launch} {D : va_G} {cA : Nat → ClassId} {N0 : Nat} {Sh : jS} {I : jI} {P : jP} {L : jL} {h : Nat} {og : Nat → Nat} {f : sF} (S : hS Sh h) (T : hP P h) (G : hG P h og) (H : hR I h og f) (V : sI f) (he : ∀ w, w < 6 → 0 ≤ f (18 + 12 * w + 4)) : jN l D cA N0 1 yX0_earnedRatio cX0_earnedRatio 6 (some .double) [.ref h] Sh I P L (jD (some (.double (seven f))) I P L) := jN_of (by decide) (Nat.le_of_ble_eq_true rfl) (fun _ _ _ _ _ _ _ _ C hr => b_X0_earnedRatio C hr S T G H V he)
