/-! THE CONSTRUCTORS of the hall, of the class, of the reference -/
def srow : Nat → Int32 := upd (upd (upd (upd zr 0 (nI 0)) 1 (nI 1)) 2 (nI 5)) 3 (nI 1)
theorem srow_0 {k : Nat} (h : 4 ≤ k) : srow k = nI 0 := by unfold srow; rw [upd_n (by omega), upd_n (by omega), upd_n (by omega), upd_n (by omega)]
/-- a hall in the making: i weavers, j orders -/
def hAl (Sh Sh0 : jS) (I I0 : jI) (P P0 : jP) (b i j : Nat) : Prop :=
  (∀ a, a < b ∨ b + 7 + 3 * i + 2 * j ≤ a → Sh a = Sh0 a ∧ I a = I0 a ∧ P a = P0 a) ∧
  (Sh b = some (0, 0) ∧ Sh (b + 1) = some (12, 6) ∧ Sh (b + 2) = some (13, 10) ∧ Sh (b + 3) = some (4, 0) ∧ Sh (b + 4) = some (10, 4) ∧ Sh (b + 5) = some (10, 4) ∧ Sh (b + 6) = some (10, 6)) ∧
  (∀ w, w < i → Sh (b + 7 + 3 * w) = some (3, 0) ∧ Sh (b + 8 + 3 * w) = some (4, 0) ∧ Sh (b + 9 + 3 * w) = some (10, 4)) ∧
  (∀ o, o < j → Sh (b + 25 + 2 * o) = some (1, 0) ∧ Sh (b + 26 + 2 * o) = some (10, 6)) ∧
  (∀ a, b ≤ a → a < b + 7 + 3 * i + 2 * j → a ≠ b + 1 → a ≠ b + 2 → a ≠ b + 5 → I a = zr) ∧ I (b + 5) = srow ∧
  (P b 0 = some (b + 1) ∧ P b 1 = some (b + 2) ∧ P b 2 = some (b + 3) ∧ P b 3 = some (b + 5) ∧ P b 4 = some (b + 6) ∧ P (b + 3) 0 = some (b + 4)) ∧
  (∀ w, w < i → P (b + 1) w = some (b + 7 + 3 * w) ∧ P (b + 7 + 3 * w) 0 = some (b + 8 + 3 * w) ∧ P (b + 8 + 3 * w) 0 = some (b + 9 + 3 * w)) ∧
  ∀ o, o < j → P (b + 2) o = some (b + 25 + 2 * o) ∧ P (b + 25 + 2 * o) 0 = some (b + 26 + 2 * o)
theorem hAl.wv {Sh Sh0 : jS} {I I0 : jI} {P P0 : jP} {b i : Nat} (h : hAl Sh Sh0 I I0 P P0 b i 0) (hi : i < 6) : hAl (shp (shp (shp Sh (b + 7 + 3 * i) (3, 0)) (b + 7 + 3 * i + 1) (4, 0)) (b + 7 + 3 * i + 1 + 1) (10, 4)) Sh0 (va_up (va_up (va_up I (b + 7 + 3 * i) zr) (b + 7 + 3 * i + 1) zr) (b + 7 + 3 * i + 1 + 1) zr) I0 (jstP (jstP (jstP (va_up (va_up P (b + 7 + 3 * i) nr) (b + 7 + 3 * i + 1) nr) (b + 7 + 3 * i + 1) 0 (some (b + 7 + 3 * i + 1 + 1))) (b + 7 + 3 * i) 0 (some (b + 7 + 3 * i + 1))) (b + 1) i (some (b + 7 + 3 * i))) P0 b (i + 1) 0 := by
  obtain ⟨f1, ⟨s0, s1, s2, s3, s4, s5, s6⟩, f3, f4, f5, f6, ⟨p0, p1, p2, p3, p4, p5⟩, f8, f9⟩ := h
  have nS : ∀ a, (a < b + 7 + 3 * i ∨ b + 7 + 3 * i + 3 ≤ a) → (shp (shp (shp Sh (b + 7 + 3 * i) (3, 0)) (b + 7 + 3 * i + 1) (4, 0)) (b + 7 + 3 * i + 1 + 1) (10, 4)) a = Sh a := fun a ha => by rw [shp_n (by omega), shp_n (by omega), shp_n (by omega)]
  have nI' : ∀ a, (a < b + 7 + 3 * i ∨ b + 7 + 3 * i + 3 ≤ a) → (va_up (va_up (va_up I (b + 7 + 3 * i) zr) (b + 7 + 3 * i + 1) zr) (b + 7 + 3 * i + 1 + 1) zr) a = I a := fun a ha => by rw [va_up_n (by omega), va_up_n (by omega), va_up_n (by omega)]
  have nP : ∀ a, (a < b + 7 + 3 * i ∨ b + 7 + 3 * i + 3 ≤ a) → a ≠ b + 1 → (jstP (jstP (jstP (va_up (va_up P (b + 7 + 3 * i) nr) (b + 7 + 3 * i + 1) nr) (b + 7 + 3 * i + 1) 0 (some (b + 7 + 3 * i + 1 + 1))) (b + 7 + 3 * i) 0 (some (b + 7 + 3 * i + 1))) (b + 1) i (some (b + 7 + 3 * i))) a = P a := fun a ha h1 => by rw [jstP_ne h1, jstP_ne (by omega), jstP_ne (by omega), va_up_n (by omega), va_up_n (by omega)]
  refine ⟨fun a ha => ⟨(nS a (by omega)).trans (f1 a (by omega)).1, (nI' a (by omega)).trans (f1 a (by omega)).2.1, (nP a (by omega) (by omega)).trans (f1 a (by omega)).2.2⟩, ⟨(nS _ (by omega)).trans s0, (nS _ (by omega)).trans s1, (nS _ (by omega)).trans s2, (nS _ (by omega)).trans s3, (nS _ (by omega)).trans s4, (nS _ (by omega)).trans s5, (nS _ (by omega)).trans s6⟩, fun w hw => ?_, fun o ho => absurd ho (Nat.not_lt_zero o), fun a h1 h2 h2a h2b h3 => ?_, (nI' _ (by omega)).trans f6, ⟨(congrFun (nP b (by omega) (by omega)) 0).trans p0, (congrFun (nP b (by omega) (by omega)) 1).trans p1, (congrFun (nP b (by omega) (by omega)) 2).trans p2, (congrFun (nP b (by omega) (by omega)) 3).trans p3, (congrFun (nP b (by omega) (by omega)) 4).trans p4, (congrFun (nP _ (by omega) (by omega)) 0).trans p5⟩, fun w hw => ?_, fun o ho => absurd ho (Nat.not_lt_zero o)⟩
  · by_cases e : w = i
    · subst e
      rw [show b + 8 + 3 * w = b + 7 + 3 * w + 1 by omega, show b + 9 + 3 * w = b + 7 + 3 * w + 1 + 1 by omega]
      exact ⟨by rw [shp_n (by omega), shp_n (by omega), shp_s], by rw [shp_n (by omega), shp_s], shp_s⟩
    · have hf := f3 w (by omega)
      exact ⟨(nS _ (by omega)).trans hf.1, (nS _ (by omega)).trans hf.2.1, (nS _ (by omega)).trans hf.2.2⟩
  · by_cases e1 : a = b + 7 + 3 * i + 1 + 1
    · subst e1; exact va_up_s
    · by_cases e2 : a = b + 7 + 3 * i + 1
      · subst e2; rw [va_up_n (by omega)]; exact va_up_s
      · by_cases e3 : a = b + 7 + 3 * i
        · subst e3; rw [va_up_n (by omega), va_up_n (by omega)]; exact va_up_s
        · exact (nI' a (by omega)).trans (f5 a h1 (by omega) h2a h2b h3)
  · by_cases e : w = i
    · subst e
      rw [show b + 8 + 3 * w = b + 7 + 3 * w + 1 by omega, show b + 9 + 3 * w = b + 7 + 3 * w + 1 + 1 by omega]
      exact ⟨by rw [jstP_eq]; exact va_up_s, by rw [jstP_ne (by omega), jstP_eq]; exact va_up_s, by rw [jstP_ne (by omega), jstP_ne (by omega), jstP_eq]; exact va_up_s⟩
    · have hf := f8 w (by omega)
      refine ⟨?_, (congrFun (nP _ (by omega) (by omega)) 0).trans hf.2.1, (congrFun (nP _ (by omega) (by omega)) 0).trans hf.2.2⟩
      rw [jstP_eq, va_up_n e, jstP_ne (by omega), jstP_ne (by omega), va_up_n (by omega), va_up_n (by omega)]
      exact hf.1
theorem hAl.od {Sh Sh0 : jS} {I I0 : jI} {P P0 : jP} {b j : Nat} (h : hAl Sh Sh0 I I0 P P0 b 6 j) (hj : j < 10) : hAl (shp (shp Sh (b + 25 + 2 * j) (1, 0)) (b + 25 + 2 * j + 1) (10, 6)) Sh0 (va_up (va_up I (b + 25 + 2 * j) zr) (b + 25 + 2 * j + 1) zr) I0 (jstP (jstP (va_up P (b + 25 + 2 * j) nr) (b + 25 + 2 * j) 0 (some (b + 25 + 2 * j + 1))) (b + 2) j (some (b + 25 + 2 * j))) P0 b 6 (j + 1) := by
  obtain ⟨f1, ⟨s0, s1, s2, s3, s4, s5, s6⟩, f3, f4, f5, f6, ⟨p0, p1, p2, p3, p4, p5⟩, f8, f9⟩ := h
  have nS : ∀ a, (a < b + 25 + 2 * j ∨ b + 25 + 2 * j + 2 ≤ a) → (shp (shp Sh (b + 25 + 2 * j) (1, 0)) (b + 25 + 2 * j + 1) (10, 6)) a = Sh a := fun a ha => by rw [shp_n (by omega), shp_n (by omega)]
  have nI' : ∀ a, (a < b + 25 + 2 * j ∨ b + 25 + 2 * j + 2 ≤ a) → (va_up (va_up I (b + 25 + 2 * j) zr) (b + 25 + 2 * j + 1) zr) a = I a := fun a ha => by rw [va_up_n (by omega), va_up_n (by omega)]
  have nP : ∀ a, (a < b + 25 + 2 * j ∨ b + 25 + 2 * j + 2 ≤ a) → a ≠ b + 2 → (jstP (jstP (va_up P (b + 25 + 2 * j) nr) (b + 25 + 2 * j) 0 (some (b + 25 + 2 * j + 1))) (b + 2) j (some (b + 25 + 2 * j))) a = P a := fun a ha h1 => by rw [jstP_ne h1, jstP_ne (by omega), va_up_n (by omega)]
  refine ⟨fun a ha => ⟨(nS a (by omega)).trans (f1 a (by omega)).1, (nI' a (by omega)).trans (f1 a (by omega)).2.1, (nP a (by omega) (by omega)).trans (f1 a (by omega)).2.2⟩, ⟨(nS _ (by omega)).trans s0, (nS _ (by omega)).trans s1, (nS _ (by omega)).trans s2, (nS _ (by omega)).trans s3, (nS _ (by omega)).trans s4, (nS _ (by omega)).trans s5, (nS _ (by omega)).trans s6⟩, fun w hw => ⟨(nS _ (by omega)).trans (f3 w hw).1, (nS _ (by omega)).trans (f3 w hw).2.1, (nS _ (by omega)).trans (f3 w hw).2.2⟩, fun o ho => ?_, fun a h1 h2 h2a h2b h3 => ?_, (nI' _ (by omega)).trans f6, ⟨(congrFun (nP b (by omega) (by omega)) 0).trans p0, (congrFun (nP b (by omega) (by omega)) 1).trans p1, (congrFun (nP b (by omega) (by omega)) 2).trans p2, (congrFun (nP b (by omega) (by omega)) 3).trans p3, (congrFun (nP b (by omega) (by omega)) 4).trans p4, (congrFun (nP _ (by omega) (by omega)) 0).trans p5⟩, fun w hw => ⟨(congrFun (nP _ (by omega) (by omega)) w).trans (f8 w hw).1, (congrFun (nP _ (by omega) (by omega)) 0).trans (f8 w hw).2.1, (congrFun (nP _ (by omega) (by omega)) 0).trans (f8 w hw).2.2⟩, fun o ho => ?_⟩
  · by_cases e : o = j
    · subst e
      rw [show b + 26 + 2 * o = b + 25 + 2 * o + 1 by omega]
      exact ⟨by rw [shp_n (by omega), shp_s], shp_s⟩
    · have hf := f4 o (by omega)
      exact ⟨(nS _ (by omega)).trans hf.1, (nS _ (by omega)).trans hf.2⟩
  · by_cases e1 : a = b + 25 + 2 * j + 1
    · subst e1; exact va_up_s
    · by_cases e2 : a = b + 25 + 2 * j
      · subst e2; rw [va_up_n (by omega)]; exact va_up_s
      · exact (nI' a (by omega)).trans (f5 a h1 (by omega) h2a h2b h3)
  · by_cases e : o = j
    · subst e
      rw [show b + 26 + 2 * o = b + 25 + 2 * o + 1 by omega]
      exact ⟨by rw [jstP_eq]; exact va_up_s, by rw [jstP_ne (by omega), jstP_eq]; exact va_up_s⟩
    · have hf := f9 o (by omega)
      refine ⟨?_, (congrFun (nP _ (by omega) (by omega)) 0).trans hf.2⟩
      rw [jstP_eq, va_up_n e, jstP_ne (by omega), va_up_n (by omega)]
      exact hf.1
theorem smany_srow : smany srow = 0 := by decide
/-- a hall made -/
def hMade (Sh : jS) (I : jI) (P : jP) (L : jL) (b : Nat) : Option Value → Nat → jS → jI → jP → jL → Prop := fun v z Sh' I' P' L' => v = none ∧ z = b + 45 ∧ (hS Sh' b ∧ hP P' b ∧ hG P' b id ∧ hR I' b id srow) ∧ (∀ a, a < b ∨ b + 45 ≤ a → Sh' a = Sh a ∧ I' a = I a ∧ P' a = P a) ∧ L' = L
theorem hAl.made {Sh Sh0 : jS} {I I0 : jI} {P P0 : jP} {L : jL} {b : Nat} (h : hAl Sh Sh0 I I0 P P0 b 6 10) : hMade Sh0 I0 P0 L b none (b + 45) Sh I P L := by
  obtain ⟨f1, ⟨s0, s1, s2, s3, s4, s5, s6⟩, f3, f4, f5, f6, ⟨p0, p1, p2, p3, p4, p5⟩, f8, f9⟩ := h
  have z : ∀ a k, b ≤ a → a < b + 45 → (a ≠ b + 1 ∧ a ≠ b + 2 ∧ a ≠ b + 5) → I a k = nI 0 := fun a k h1 h2 h3 => congrFun (f5 a h1 (by omega) h3.1 h3.2.1 h3.2.2) k
  refine ⟨rfl, rfl, ⟨⟨s0, s1, s2, s3, s4, s5, s6, f3, f4⟩, ⟨p0, p1, p2, p3, p4, p5, fun w hw => f8 w hw, fun j hj => (f9 j hj).2⟩, ⟨fun j hj => ⟨(f9 j hj).1, hj⟩, fun i j _ _ e => e⟩, ?_⟩, fun a ha => f1 a (by omega), rfl⟩
  refine ⟨fun w k hw hk => ?_, fun w c hw hc => ?_, fun c hc => ?_, fun k hk => ?_, ⟨?_, ?_, ?_, ?_, ?_, ?_, ?_, ?_⟩, fun o ho => ?_⟩
  · rw [z _ _ (by omega) (by omega) (by omega), srow_0 (by omega)]
  · rw [z _ _ (by omega) (by omega) (by omega), srow_0 (by omega)]
  · rw [z _ _ (by omega) (by omega) (by omega), srow_0 (by omega)]
  · rw [f6]
  · rw [z _ _ (by omega) (by omega) (by omega), srow_0 (by omega)]
  · rw [z _ _ (by omega) (by omega) (by omega), srow_0 (by omega)]
  · rw [z _ _ (by omega) (by omega) (by omega), srow_0 (by omega)]
  · rw [z _ _ (by omega) (by omega) (by omega), srow_0 (by omega)]
  · rw [z _ _ (by omega) (by omega) (by omega), srow_0 (by omega)]
  · rw [z _ _ (by omega) (by omega) (by omega), srow_0 (by omega)]
  · rw [z _ _ (by omega) (by omega) (by omega), srow_0 (by omega)]
  · rw [z _ _ (by omega) (by omega) (by omega), srow_0 (by omega)]
  · rw [smany_srow] at ho; exact absurd ho (Nat.not_lt_zero o)
theorem hAl_0 {Sh0 : jS} {I0 : jI} {P0 : jP} {b : Nat} (hb : Sh0 b = some (0, 0)) (hI : I0 b = zr) : hAl (shp (shp (shp (shp (shp (shp Sh0 (b + 1) (12, 6)) (b + 2) (13, 10)) (b + 3) (4, 0)) (b + 4) (10, 4)) (b + 5) (10, 4)) (b + 6) (10, 6)) Sh0 (va_up (jst (jst (jst (jst (va_up (va_up (va_up I0 (b + 3) zr) (b + 4) zr) (b + 5) zr) (b + 5) 0 (nI 0)) (b + 5) 1 (nI 1)) (b + 5) 2 (nI 5)) (b + 5) 3 (nI 1)) (b + 6) zr) I0 (jstP (jstP (jstP (jstP (va_up (jstP (va_up (jstP (va_up P0 (b + 1) nr) b 0 (some (b + 1))) (b + 2) nr) b 1 (some (b + 2))) (b + 3) nr) (b + 3) 0 (some (b + 4))) b 2 (some (b + 3))) b 3 (some (b + 5))) b 4 (some (b + 6))) P0 b 0 0 := by
  refine ⟨fun a ha => ⟨?_, ?_, ?_⟩, ⟨?_, ?_, ?_, ?_, ?_, ?_, ?_⟩, fun w hw => absurd hw (Nat.not_lt_zero w), fun o ho => absurd ho (Nat.not_lt_zero o), fun a h1 h2 h2a h2b h3 => ?_, ?_, ⟨?_, ?_, ?_, ?_, ?_, ?_⟩, fun w hw => absurd hw (Nat.not_lt_zero w), fun o ho => absurd ho (Nat.not_lt_zero o)⟩
  · rw [shp_n (by omega), shp_n (by omega), shp_n (by omega), shp_n (by omega), shp_n (by omega), shp_n (by omega)]
  · rw [va_up_n (by omega), jst_ne (by omega), jst_ne (by omega), jst_ne (by omega), jst_ne (by omega), va_up_n (by omega), va_up_n (by omega), va_up_n (by omega)]
  · rw [jstP_ne (by omega), jstP_ne (by omega), jstP_ne (by omega), jstP_ne (by omega), va_up_n (by omega), jstP_ne (by omega), va_up_n (by omega), jstP_ne (by omega), va_up_n (by omega)]
  · rw [shp_n (by omega), shp_n (by omega), shp_n (by omega), shp_n (by omega), shp_n (by omega), shp_n (by omega)]; exact hb
  · rw [shp_n (by omega), shp_n (by omega), shp_n (by omega), shp_n (by omega), shp_n (by omega), shp_s]
  · rw [shp_n (by omega), shp_n (by omega), shp_n (by omega), shp_n (by omega), shp_s]
  · rw [shp_n (by omega), shp_n (by omega), shp_n (by omega), shp_s]
  · rw [shp_n (by omega), shp_n (by omega), shp_s]
  · rw [shp_n (by omega), shp_s]
  · exact shp_s
  · by_cases e6 : a = b + 6
    · subst e6; exact va_up_s
    · rw [va_up_n e6, jst_ne h3, jst_ne h3, jst_ne h3, jst_ne h3, va_up_n h3]
      by_cases e4 : a = b + 4
      · subst e4; exact va_up_s
      · rw [va_up_n e4]
        by_cases e3 : a = b + 3
        · subst e3; exact va_up_s
        · rw [va_up_n e3, show a = b by omega]; exact hI
  · rw [va_up_n (by omega), jst_eq, jst_eq, jst_eq, jst_eq, va_up_s]; rfl
  · rw [jstP_eq, va_up_n (by decide), jstP_eq, va_up_n (by decide), jstP_eq, va_up_n (by decide), jstP_ne (by omega), va_up_n (by omega), jstP_eq, va_up_n (by decide), va_up_n (by omega), jstP_eq]; exact va_up_s
  · rw [jstP_eq, va_up_n (by decide), jstP_eq, va_up_n (by decide), jstP_eq, va_up_n (by decide), jstP_ne (by omega), va_up_n (by omega), jstP_eq]; exact va_up_s
  · rw [jstP_eq, va_up_n (by decide), jstP_eq, va_up_n (by decide), jstP_eq]; exact va_up_s
  · rw [jstP_eq, va_up_n (by decide), jstP_eq]; exact va_up_s
  · rw [jstP_eq]; exact va_up_s
  · rw [jstP_ne (by omega), jstP_ne (by omega), jstP_ne (by omega), jstP_eq]; exact va_up_s
set_option maxHeartbeats 8000000 in
theorem lp_X0_init_o {p : Program} {l : Launch} {e : Env} {s : State} {m : MethodId} {args : Array Value} {below : List Frame} {meth : Method} {c : Code} {D : va_G} {cA : Nat → ClassId} {N0 : Nat} (C : jC p (jRm 3 44 255) s m args meth c D cA N0 cX0_init 2 RX0 3) (hAO : jAO s) (hr : meth.sig.returnType = none) (hmn : meth.name = "<init>") {b : Nat} {Sh0 : jS} {I0 : jI} {P0 : jP} {L0 : jL} : ∀ d j, j + d = 10 → ∀ (Sh : jS) (I : jI) (P : jP), hAl Sh Sh0 I I0 P P0 b 6 (j) → jJ p l e (jRm 3 44 255) s m args below meth c D cA N0 2 (MQ below (jQx D cA N0 (hMade Sh0 I0 P0 L0 b)) args s 44 255 (fun q => N0 ≤ q)) (fun q => q = b + 25 + 2 * (j)) Sh I P L0 (24 + 2 * (j)) (115 + 14 * (j)) 96 [some (.ref b), some (.int (nI (j)))] [] := by
  intro d
  induction d with
  | zero =>
    intro j hj Sh I P h
    obtain rfl : j = 10 := by omega
    refine jx_iload_n (pc := 96) C dX0_init_96 rfl ?_
    refine jx_aload_n (pc := 97) C dX0_init_97 rfl ?_
    refine jx_getP (pc := 98) C kf_X0_19 rfl h.2.1.1 h.2.2.2.2.2.2.1.2.1 dX0_init_98 ?_
    refine jx_alen13 (pc := 101) C h.2.1.2.2.1 dX0_init_101 ?_
    refine jx_icmp_ge (pc := 102) C (tgt := 124) dX0_init_102 (by decide) (fun c102 => ?_) (fun c102 => (by rw [nI_leI (by omega) (by omega)] at c102; exfalso; omega))
    rw [nI_leI (by omega) (by omega)] at c102
    exact jx_roomy (show _ ≤ 44 by omega) (show _ ≤ 255 by omega) (jx_vret (pc := 124) C hr (fun z hz => by subst hz; exact h.made) dX0_init_124)
  | succ d ih =>
    intro j hj Sh I P h
    refine jx_iload_n (pc := 96) C dX0_init_96 rfl ?_
    refine jx_aload_n (pc := 97) C dX0_init_97 rfl ?_
    refine jx_getP (pc := 98) C kf_X0_19 rfl h.2.1.1 h.2.2.2.2.2.2.1.2.1 dX0_init_98 ?_
    refine jx_alen13 (pc := 101) C h.2.1.2.2.1 dX0_init_101 ?_
    refine jx_icmp_ge (pc := 102) C (tgt := 124) dX0_init_102 (by decide) (fun c102 => (by rw [nI_leI (by omega) (by omega)] at c102; exfalso; omega)) (fun c102 => ?_)
    rw [nI_leI (by omega) (by omega)] at c102
    refine jx_aload_n (pc := 105) C dX0_init_105 rfl ?_
    refine jx_getP (pc := 106) C kf_X0_19 rfl h.2.1.1 h.2.2.2.2.2.2.1.2.1 dX0_init_106 ?_
    refine jx_iload_n (pc := 109) C dX0_init_109 rfl ?_
    refine jx_newO (pc := 110) C (ci := 1) (by decide) (N := 8) rfl (jWS_in 41 (by decide +kernel) rfl) (jWS_in 97 (by decide +kernel) rfl) (jWS_in 16 (by decide +kernel) rfl) (fun _ z => z) ⟨by show _ ≤ 44; omega, by show _ ≤ 255; omega⟩ dX0_init_110 ?_
    refine jx_dup (pc := 113) C dX0_init_113 rfl ?_
    refine jx_callC (pc := 114) C hAO (go_X0_38 C (Nat.le_of_ble_eq_true rfl) dX0_init_114) (t_X1_init (b := b + 25 + 2 * j) (h := b + 25 + 2 * j + 1) shp_s (by omega)) (by decide) (by decide) (fun _ z => z) ⟨by show _ ≤ 44; omega, by show _ ≤ 255; omega⟩ (fun v114 z114 S114 I114 P114 L114 q114 => ?_)
    obtain ⟨rfl, rfl, rfl, rfl, rfl, eL⟩ := q114
    subst eL
    refine jx_aast13 (pc := 117) C ((shp_n (by omega)).trans ((shp_n (by omega)).trans h.2.1.2.2.1)) ((shp_n (by omega)).trans shp_s) (by omega) (by decide) dX0_init_117 ?_
    refine jx_iincN (pc := 118) C dX0_init_118 rfl (jset_1 jc_r) (by decide) ?_
    refine jx_goto (pc := 121) C (tgt := 96) dX0_init_121 (by decide) ?_
    exact jx_sz (fun q hq => by rw [hq]; omega) (jx_roomy (by omega) (by omega) (ih (j + 1) (by omega) _ _ _ (h.od (by omega))))
set_option maxHeartbeats 8000000 in
theorem lp_X0_init_w {p : Program} {l : Launch} {e : Env} {s : State} {m : MethodId} {args : Array Value} {below : List Frame} {meth : Method} {c : Code} {D : va_G} {cA : Nat → ClassId} {N0 : Nat} (C : jC p (jRm 3 44 255) s m args meth c D cA N0 cX0_init 2 RX0 3) (hAO : jAO s) (hr : meth.sig.returnType = none) (hmn : meth.name = "<init>") {b : Nat} {Sh0 : jS} {I0 : jI} {P0 : jP} {L0 : jL} : ∀ d i, i + d = 6 → ∀ (Sh : jS) (I : jI) (P : jP), hAl Sh Sh0 I I0 P P0 b (i) 0 → jJ p l e (jRm 3 44 255) s m args below meth c D cA N0 2 (MQ below (jQx D cA N0 (hMade Sh0 I0 P0 L0 b)) args s 44 255 (fun q => N0 ≤ q)) (fun q => q = b + 7 + 3 * (i)) Sh I P L0 (6 + 3 * (i)) (31 + 14 * (i)) 66 [some (.ref b), some (.int (nI (i)))] [] := by
  intro d
  induction d with
  | zero =>
    intro i hi Sh I P h
    obtain rfl : i = 6 := by omega
    refine jx_iload_n (pc := 66) C dX0_init_66 rfl ?_
    refine jx_aload_n (pc := 67) C dX0_init_67 rfl ?_
    refine jx_getP (pc := 68) C kf_X0_11 rfl h.2.1.1 h.2.2.2.2.2.2.1.1 dX0_init_68 ?_
    refine jx_alen12 (pc := 71) C h.2.1.2.1 dX0_init_71 ?_
    refine jx_icmp_ge (pc := 72) C (tgt := 94) dX0_init_72 (by decide) (fun c72 => ?_) (fun c72 => (by rw [nI_leI (by omega) (by omega)] at c72; exfalso; omega))
    rw [nI_leI (by omega) (by omega)] at c72
    refine jx_iconst (pc := 94) C dX0_init_94 nc_0 ?_
    refine jx_istore_n (pc := 95) C dX0_init_95 (jset_1 jc_r) (by decide) ?_
    exact jx_sz (fun q hq => by rw [hq]) (jx_roomy (by omega) (by omega) (lp_X0_init_o C hAO hr hmn 10 0 rfl _ _ _ h))
  | succ d ih =>
    intro i hi Sh I P h
    refine jx_iload_n (pc := 66) C dX0_init_66 rfl ?_
    refine jx_aload_n (pc := 67) C dX0_init_67 rfl ?_
    refine jx_getP (pc := 68) C kf_X0_11 rfl h.2.1.1 h.2.2.2.2.2.2.1.1 dX0_init_68 ?_
    refine jx_alen12 (pc := 71) C h.2.1.2.1 dX0_init_71 ?_
    refine jx_icmp_ge (pc := 72) C (tgt := 94) dX0_init_72 (by decide) (fun c72 => (by rw [nI_leI (by omega) (by omega)] at c72; exfalso; omega)) (fun c72 => ?_)
    rw [nI_leI (by omega) (by omega)] at c72
    refine jx_aload_n (pc := 75) C dX0_init_75 rfl ?_
    refine jx_getP (pc := 76) C kf_X0_11 rfl h.2.1.1 h.2.2.2.2.2.2.1.1 dX0_init_76 ?_
    refine jx_iload_n (pc := 79) C dX0_init_79 rfl ?_
    refine jx_newO (pc := 80) C (ci := 3) (by decide) (N := 9) rfl (jWS_in 39 (by decide +kernel) rfl) (jWS_in 54 (by decide +kernel) rfl) (jWS_in 15 (by decide +kernel) rfl) (fun _ z => z) ⟨by show _ ≤ 44; omega, by show _ ≤ 255; omega⟩ dX0_init_80 ?_
    refine jx_dup (pc := 83) C dX0_init_83 rfl ?_
    refine jx_callC (pc := 84) C hAO (go_X0_37 C (Nat.le_of_ble_eq_true rfl) dX0_init_84) (t_X3_init (b := b + 7 + 3 * i) (h := b + 7 + 3 * i + 1) shp_s (by omega)) (by decide) (by decide) (fun _ z => z) ⟨by show _ ≤ 44; omega, by show _ ≤ 255; omega⟩ (fun v84 z84 S84 I84 P84 L84 q84 => ?_)
    obtain ⟨rfl, rfl, rfl, rfl, rfl, eL⟩ := q84
    subst eL
    refine jx_aast12 (pc := 87) C ((shp_n (by omega)).trans ((shp_n (by omega)).trans ((shp_n (by omega)).trans h.2.1.2.1))) ((shp_n (by omega)).trans ((shp_n (by omega)).trans shp_s)) (by omega) (by decide) dX0_init_87 ?_
    refine jx_iincN (pc := 88) C dX0_init_88 rfl (jset_1 jc_r) (by decide) ?_
    refine jx_goto (pc := 91) C (tgt := 66) dX0_init_91 (by decide) ?_
    exact jx_sz (fun q hq => by rw [hq]; omega) (jx_roomy (by omega) (by omega) (ih (i + 1) (by omega) _ _ _ (h.wv (by omega))))
set_option maxHeartbeats 8000000 in
theorem b_X0_init {p : Program} {l : Launch} {e : Env} {s : State} {m : MethodId} {args : Array Value} {below : List Frame} {meth : Method} {c : Code} {D : va_G} {cA : Nat → ClassId} {N0 : Nat} {Sh : jS} {I : jI} {P : jP} {L : jL} (C : jC p (jRm 3 44 255) s m args meth c D cA N0 cX0_init 2 RX0 3) (hAO : jAO s) (hr : meth.sig.returnType = none) (hmn : meth.name = "<init>") {b : Nat} (hb : Sh b = some (0, 0)) (hI : I b = zr) : jJ p l e (jRm 3 44 255) s m args below meth c D cA N0 2 (MQ below (jQx D cA N0 (hMade Sh I P L b)) args s 44 255 (fun q => N0 ≤ q)) (fun q => q = b + 1) Sh I P L 0 0 0 [some (.ref b), none] [] := by
  refine jx_aload_n (pc := 0) C dX0_init_0 rfl ?_
  refine jx_objInit (pc := 1) C (jWS_in 38 (by decide +kernel) rfl) (jWS_in 31 (by decide +kernel) rfl) (jWS_in 32 (by decide +kernel) rfl) (by decide) (by decide) dX0_init_1 ?_
  refine jx_aload_n (pc := 4) C dX0_init_4 rfl ?_
  refine jx_bipush (pc := 5) C dX0_init_5 nb_6 ?_
  refine jx_newQ12 (pc := 7) C hAO (jWS_in 39 (by decide +kernel) rfl) (fun _ z => z) (by decide) ⟨by show _ ≤ 44; omega, by show _ ≤ 255; omega⟩ dX0_init_7 ?_
  refine jx_putF (pc := 10) C (C0 := "") kf_X0_11 rfl rfl hmn rfl rfl rfl ((shp_n (by omega)).trans hb) dX0_init_10 ?_
  refine jx_aload_n (pc := 13) C dX0_init_13 rfl ?_
  refine jx_bipush (pc := 14) C dX0_init_14 nb_10 ?_
  refine jx_newQ13 (pc := 16) C hAO (jWS_in 41 (by decide +kernel) rfl) (fun _ z => z) (by decide) ⟨by show _ ≤ 44; omega, by show _ ≤ 255; omega⟩ dX0_init_16 ?_
  refine jx_putF (pc := 19) C (C0 := "") kf_X0_19 rfl rfl hmn rfl rfl rfl ((shp_n (by omega)).trans ((shp_n (by omega)).trans hb)) dX0_init_19 ?_
  refine jx_aload_n (pc := 22) C dX0_init_22 rfl ?_
  refine jx_newO (pc := 23) C (ci := 4) (by decide) (N := 1) rfl (jWS_in 43 (by decide +kernel) rfl) (jWS_in 44 (by decide +kernel) rfl) (jWS_in 14 (by decide +kernel) rfl) (fun _ z => z) ⟨by show _ ≤ 44; omega, by show _ ≤ 255; omega⟩ dX0_init_23 ?_
  refine jx_dup (pc := 26) C dX0_init_26 rfl ?_
  refine jx_callC (pc := 27) C hAO (go_X0_25 C (Nat.le_of_ble_eq_true rfl) dX0_init_27) (t_X4_init (b := b + 1 + 1 + 1) (h := b + 1 + 1 + 1 + 1) shp_s (by omega)) (by decide) (by decide) (fun _ z => z) ⟨by show _ ≤ 44; omega, by show _ ≤ 255; omega⟩ (fun v27 z27 S27 I27 P27 L27 q27 => ?_)
  obtain ⟨rfl, rfl, rfl, rfl, rfl, eL⟩ := q27
  subst eL
  refine jx_putF (pc := 30) C (C0 := "") kf_X0_26 rfl rfl hmn rfl rfl rfl ((shp_n (by omega)).trans ((shp_n (by omega)).trans ((shp_n (by omega)).trans ((shp_n (by omega)).trans hb)))) dX0_init_30 ?_
  refine jx_aload_n (pc := 33) C dX0_init_33 rfl ?_
  refine jx_iconst (pc := 34) C dX0_init_34 nc_4 ?_
  refine jx_newAI (pc := 35) C (fun _ z => z) (by decide) ⟨by show _ ≤ 44; omega, by show _ ≤ 255; omega⟩ dX0_init_35 ?_
  refine jx_dup (pc := 37) C dX0_init_37 rfl ?_
  refine jx_iconst (pc := 38) C dX0_init_38 nc_0 ?_
  refine jx_iconst (pc := 39) C dX0_init_39 nc_0 ?_
  refine jx_iast (pc := 40) C shp_s (by omega) (by decide) dX0_init_40 ?_
  refine jx_dup (pc := 41) C dX0_init_41 rfl ?_
  refine jx_iconst (pc := 42) C dX0_init_42 nc_1 ?_
  refine jx_iconst (pc := 43) C dX0_init_43 nc_1 ?_
  refine jx_iast (pc := 44) C shp_s (by omega) (by decide) dX0_init_44 ?_
  refine jx_dup (pc := 45) C dX0_init_45 rfl ?_
  refine jx_iconst (pc := 46) C dX0_init_46 nc_2 ?_
  refine jx_iconst (pc := 47) C dX0_init_47 nc_5 ?_
  refine jx_iast (pc := 48) C shp_s (by omega) (by decide) dX0_init_48 ?_
  refine jx_dup (pc := 49) C dX0_init_49 rfl ?_
  refine jx_iconst (pc := 50) C dX0_init_50 nc_3 ?_
  refine jx_iconst (pc := 51) C dX0_init_51 nc_1 ?_
  refine jx_iast (pc := 52) C shp_s (by omega) (by decide) dX0_init_52 ?_
  refine jx_putF (pc := 53) C (C0 := "") kf_X0_30 rfl rfl hmn rfl rfl rfl ((shp_n (by omega)).trans ((shp_n (by omega)).trans ((shp_n (by omega)).trans ((shp_n (by omega)).trans ((shp_n (by omega)).trans hb))))) dX0_init_53 ?_
  refine jx_aload_n (pc := 56) C dX0_init_56 rfl ?_
  refine jx_bipush (pc := 57) C dX0_init_57 nb_6 ?_
  refine jx_newAI (pc := 59) C (fun _ z => z) (by decide) ⟨by show _ ≤ 44; omega, by show _ ≤ 255; omega⟩ dX0_init_59 ?_
  refine jx_putF (pc := 61) C (C0 := "") kf_X0_34 rfl rfl hmn rfl rfl rfl ((shp_n (by omega)).trans ((shp_n (by omega)).trans ((shp_n (by omega)).trans ((shp_n (by omega)).trans ((shp_n (by omega)).trans ((shp_n (by omega)).trans hb)))))) dX0_init_61 ?_
  refine jx_iconst (pc := 64) C dX0_init_64 nc_0 ?_
  refine jx_istore_n (pc := 65) C dX0_init_65 (jset_1 jc_r) (by decide) ?_
  exact jx_sz (fun q hq => by rw [hq]) (jx_roomy (by omega) (by omega) (lp_X0_init_w C hAO hr hmn 6 0 rfl _ _ _ (hAl_0 hb hI)))
theorem t_X0_init {l : Launch} {D : va_G} {cA : Nat → ClassId} {N0 : Nat} {Sh : jS} {I : jI} {P : jP} {L : jL} {b : Nat} (hb : Sh b = some (0, 0)) (hI : I b = zr) : jIC l D cA N0 3 44 255 yX0_init cX0_init 2 [.ref b] (b + 1) Sh I P L (hMade Sh I P L b) := jIC_of (by decide) (Nat.le_of_ble_eq_true rfl) (fun _ _ _ _ _ _ _ _ C hAO hr hmn => b_X0_init C hAO hr hmn hb hI)
