/-! THE CONSTRUCTORS of the class and of the reference -/
def hM (Sh : jS) (I : jI) (P : jP) (h : Nat) : Prop := hS Sh h ∧ hP P h ∧ hG P h id ∧ hR I h id srow
theorem hS.ag {Sh Sh' : jS} {h : Nat} (S : hS Sh h) (F : ∀ a, h ≤ a → a < h + 45 → Sh' a = Sh a) : hS Sh' h := by
  obtain ⟨a1, a2, a3, a4, a5, a6, a7, a8, a9⟩ := S
  exact ⟨(F _ (by omega) (by omega)).trans a1, (F _ (by omega) (by omega)).trans a2, (F _ (by omega) (by omega)).trans a3, (F _ (by omega) (by omega)).trans a4, (F _ (by omega) (by omega)).trans a5, (F _ (by omega) (by omega)).trans a6, (F _ (by omega) (by omega)).trans a7, fun w hw => ⟨(F _ (by omega) (by omega)).trans (a8 w hw).1, (F _ (by omega) (by omega)).trans (a8 w hw).2.1, (F _ (by omega) (by omega)).trans (a8 w hw).2.2⟩, fun j hj => ⟨(F _ (by omega) (by omega)).trans (a9 j hj).1, (F _ (by omega) (by omega)).trans (a9 j hj).2⟩⟩
theorem hM.ag {Sh Sh' : jS} {I I' : jI} {P P' : jP} {h : Nat} (M : hM Sh I P h) (F : ∀ a, h ≤ a → a < h + 45 → Sh' a = Sh a ∧ I' a = I a ∧ P' a = P a) : hM Sh' I' P' h :=
  ⟨M.1.ag (fun a h1 h2 => (F a h1 h2).1), M.2.1.ag (fun a h1 h2 _ => (F a h1 h2).2.2), M.2.2.1.ag (F _ (by omega) (by omega)).2.2, M.2.2.2.ag (by rw [smany_srow]; decide) (fun j hj => hj) (fun a h1 h2 => (F a h1 h2).2.1)⟩
/-- the class in the making: i saved halls -/
def cAl (Sh Sh0 : jS) (I I0 : jI) (P P0 : jP) (b i : Nat) : Prop :=
  (∀ a, a < b ∨ b + 96 + 45 * i ≤ a → Sh a = Sh0 a ∧ I a = I0 a ∧ P a = P0 a) ∧
  (Sh b = some (5, 0) ∧ Sh (b + 91) = some (14, 6) ∧ Sh (b + 92) = some (10, 60) ∧ Sh (b + 93) = some (2, 0) ∧ Sh (b + 94) = some (10, 5) ∧ Sh (b + 95) = some (10, 10)) ∧
  (P b 0 = some (b + 1) ∧ P b 1 = some (b + 46) ∧ P b 2 = some (b + 91) ∧ P b 3 = some (b + 92) ∧ P b 4 = some (b + 93) ∧ P b 5 = some (b + 95) ∧ P (b + 93) 0 = some (b + 94)) ∧ I b = zr ∧
  hM Sh I P (b + 1) ∧ hM Sh I P (b + 46) ∧ (∀ k, k < i → hM Sh I P (b + 96 + 45 * k)) ∧ ∀ k, k < i → P (b + 91) k = some (b + 96 + 45 * k)
theorem cAl.step {Sh Sh0 Sh' : jS} {I I0 I' : jI} {P P0 P' : jP} {b i : Nat} (h : cAl Sh Sh0 I I0 P P0 b i) (hi : i < 6) (M : hM Sh' I' P' (b + 96 + 45 * i)) (F : ∀ a, a < b + 96 + 45 * i ∨ b + 96 + 45 * i + 45 ≤ a → Sh' a = (shp Sh (b + 96 + 45 * i) (0, 0)) a ∧ I' a = (va_up I (b + 96 + 45 * i) zr) a ∧ P' a = (va_up P (b + 96 + 45 * i) nr) a) : cAl Sh' Sh0 I' I0 (jstP P' (b + 91) i (some (b + 96 + 45 * i))) P0 b (i + 1) := by
  obtain ⟨f1, ⟨s0, s1, s2, s3, s4, s5⟩, ⟨p0, p1, p2, p3, p4, p5, p6⟩, hz, m1, m2, m3, m4⟩ := h
  have K : ∀ a, a < b + 96 + 45 * i ∨ b + 96 + 45 * i + 45 ≤ a → Sh' a = Sh a ∧ I' a = I a ∧ P' a = P a := fun a ha => ⟨(F a ha).1.trans (shp_n (by omega)), (F a ha).2.1.trans (va_up_n (by omega)), (F a ha).2.2.trans (va_up_n (by omega))⟩
  have nP : ∀ a, a < b + 96 + 45 * i ∨ b + 96 + 45 * i + 45 ≤ a → a ≠ b + 91 → jstP P' (b + 91) i (some (b + 96 + 45 * i)) a = P a := fun a ha h1 => (jstP_ne h1).trans (K a ha).2.2
  refine ⟨fun a ha => ⟨(K a (by omega)).1.trans (f1 a (by omega)).1, (K a (by omega)).2.1.trans (f1 a (by omega)).2.1, (nP a (by omega) (by omega)).trans (f1 a (by omega)).2.2⟩, ⟨(K _ (by omega)).1.trans s0, (K _ (by omega)).1.trans s1, (K _ (by omega)).1.trans s2, (K _ (by omega)).1.trans s3, (K _ (by omega)).1.trans s4, (K _ (by omega)).1.trans s5⟩, ⟨(congrFun (nP b (by omega) (by omega)) 0).trans p0, (congrFun (nP b (by omega) (by omega)) 1).trans p1, (congrFun (nP b (by omega) (by omega)) 2).trans p2, (congrFun (nP b (by omega) (by omega)) 3).trans p3, (congrFun (nP b (by omega) (by omega)) 4).trans p4, (congrFun (nP b (by omega) (by omega)) 5).trans p5, (congrFun (nP _ (by omega) (by omega)) 0).trans p6⟩, (K b (by omega)).2.1.trans hz, m1.ag (fun a h1 h2 => ⟨(K a (by omega)).1, (K a (by omega)).2.1, nP a (by omega) (by omega)⟩), m2.ag (fun a h1 h2 => ⟨(K a (by omega)).1, (K a (by omega)).2.1, nP a (by omega) (by omega)⟩), fun k hk => ?_, fun k hk => ?_⟩
  · by_cases e : k = i
    · subst e
      exact M.ag (fun a h1 h2 => ⟨rfl, rfl, jstP_ne (by omega)⟩)
    · exact (m3 k (by omega)).ag (fun a h1 h2 => ⟨(K a (by omega)).1, (K a (by omega)).2.1, nP a (by omega) (by omega)⟩)
  · by_cases e : k = i
    · subst e
      rw [jstP_eq]; exact va_up_s
    · rw [jstP_eq, va_up_n e, (K _ (by omega)).2.2]
      exact m4 k (by omega)
theorem cAl_0 {Sh0 S1 S2 : jS} {I0 I1 I2 : jI} {P0 P1 P2 : jP} {b : Nat} (hb : Sh0 b = some (5, 0)) (hI : I0 b = zr) (M1 : hM S1 I1 P1 (b + 1)) (F1 : ∀ a, a < b + 1 ∨ b + 46 ≤ a → S1 a = (shp Sh0 (b + 1) (0, 0)) a ∧ I1 a = (va_up I0 (b + 1) zr) a ∧ P1 a = (va_up P0 (b + 1) nr) a)
    (M2 : hM S2 I2 P2 (b + 46)) (F2 : ∀ a, a < b + 46 ∨ b + 91 ≤ a → S2 a = (shp S1 (b + 46) (0, 0)) a ∧ I2 a = (va_up I1 (b + 46) zr) a ∧ P2 a = (va_up (jstP P1 b 0 (some (b + 1))) (b + 46) nr) a) : cAl (shp (shp (shp (shp (shp S2 (b + 91) (14, 6)) (b + 92) (10, 60)) (b + 93) (2, 0)) (b + 94) (10, 5)) (b + 95) (10, 10)) Sh0 (va_up (va_up (va_up (va_up I2 (b + 92) zr) (b + 93) zr) (b + 94) zr) (b + 95) zr) I0 (jstP (jstP (jstP (va_up (jstP (jstP (va_up (jstP P2 b 1 (some (b + 46))) (b + 91) nr) b 2 (some (b + 91))) b 3 (some (b + 92))) (b + 93) nr) (b + 93) 0 (some (b + 94))) b 4 (some (b + 93))) b 5 (some (b + 95))) P0 b 0 := by
  have nS : ∀ a, a < b + 91 ∨ b + 96 ≤ a → (shp (shp (shp (shp (shp S2 (b + 91) (14, 6)) (b + 92) (10, 60)) (b + 93) (2, 0)) (b + 94) (10, 5)) (b + 95) (10, 10)) a = S2 a := fun a ha => by rw [shp_n (by omega), shp_n (by omega), shp_n (by omega), shp_n (by omega), shp_n (by omega)]
  have nI' : ∀ a, a < b + 92 ∨ b + 96 ≤ a → (va_up (va_up (va_up (va_up I2 (b + 92) zr) (b + 93) zr) (b + 94) zr) (b + 95) zr) a = I2 a := fun a ha => by rw [va_up_n (by omega), va_up_n (by omega), va_up_n (by omega), va_up_n (by omega)]
  have nP : ∀ a, a < b + 91 ∨ b + 96 ≤ a → a ≠ b → (jstP (jstP (jstP (va_up (jstP (jstP (va_up (jstP P2 b 1 (some (b + 46))) (b + 91) nr) b 2 (some (b + 91))) b 3 (some (b + 92))) (b + 93) nr) (b + 93) 0 (some (b + 94))) b 4 (some (b + 93))) b 5 (some (b + 95))) a = P2 a := fun a ha h1 => by rw [jstP_ne h1, jstP_ne h1, jstP_ne (by omega), va_up_n (by omega), jstP_ne h1, jstP_ne h1, va_up_n (by omega), jstP_ne h1]
  have K2 : ∀ a, a < b + 46 ∨ b + 91 ≤ a → S2 a = S1 a ∧ I2 a = I1 a ∧ (a ≠ b → P2 a = P1 a) := fun a ha => ⟨(F2 a ha).1.trans (shp_n (by omega)), (F2 a ha).2.1.trans (va_up_n (by omega)), fun h1 => (F2 a ha).2.2.trans ((va_up_n (by omega)).trans (jstP_ne h1))⟩
  have K1 : ∀ a, a < b + 1 ∨ b + 46 ≤ a → S1 a = Sh0 a ∧ I1 a = I0 a ∧ P1 a = P0 a := fun a ha => ⟨(F1 a ha).1.trans (shp_n (by omega)), (F1 a ha).2.1.trans (va_up_n (by omega)), (F1 a ha).2.2.trans (va_up_n (by omega))⟩
  have e0 : P2 b 0 = some (b + 1) := (congrFun (F2 b (by omega)).2.2 0).trans (by rw [va_up_n (by omega), jstP_eq]; exact va_up_s)
  refine ⟨fun a ha => ⟨(nS a (by omega)).trans ((K2 a (by omega)).1.trans (K1 a (by omega)).1), (nI' a (by omega)).trans ((K2 a (by omega)).2.1.trans (K1 a (by omega)).2.1), (nP a (by omega) (by omega)).trans (((K2 a (by omega)).2.2 (by omega)).trans (K1 a (by omega)).2.2)⟩, ⟨?_, ?_, ?_, ?_, ?_, ?_⟩, ⟨?_, ?_, ?_, ?_, ?_, ?_, ?_⟩, (nI' b (by omega)).trans ((K2 b (by omega)).2.1.trans ((K1 b (by omega)).2.1.trans hI)), M1.ag (fun a h1 h2 => ⟨(nS a (by omega)).trans (K2 a (by omega)).1, (nI' a (by omega)).trans (K2 a (by omega)).2.1, (nP a (by omega) (by omega)).trans ((K2 a (by omega)).2.2 (by omega))⟩), M2.ag (fun a h1 h2 => ⟨nS a (by omega), nI' a (by omega), nP a (by omega) (by omega)⟩), fun k hk => absurd hk (Nat.not_lt_zero k), fun k hk => absurd hk (Nat.not_lt_zero k)⟩
  · exact (nS b (by omega)).trans ((K2 b (by omega)).1.trans ((K1 b (by omega)).1.trans hb))
  · rw [shp_n (by omega), shp_n (by omega), shp_n (by omega), shp_n (by omega), shp_s]
  · rw [shp_n (by omega), shp_n (by omega), shp_n (by omega), shp_s]
  · rw [shp_n (by omega), shp_n (by omega), shp_s]
  · rw [shp_n (by omega), shp_s]
  · exact shp_s
  · rw [jstP_eq, va_up_n (by decide), jstP_eq, va_up_n (by decide), jstP_ne (by omega), va_up_n (by omega), jstP_eq, va_up_n (by decide), jstP_eq, va_up_n (by decide), va_up_n (by omega), jstP_eq, va_up_n (by decide)]; exact e0
  · rw [jstP_eq, va_up_n (by decide), jstP_eq, va_up_n (by decide), jstP_ne (by omega), va_up_n (by omega), jstP_eq, va_up_n (by decide), jstP_eq, va_up_n (by decide), va_up_n (by omega), jstP_eq]; exact va_up_s
  · rw [jstP_eq, va_up_n (by decide), jstP_eq, va_up_n (by decide), jstP_ne (by omega), va_up_n (by omega), jstP_eq, va_up_n (by decide), jstP_eq]; exact va_up_s
  · rw [jstP_eq, va_up_n (by decide), jstP_eq, va_up_n (by decide), jstP_ne (by omega), va_up_n (by omega), jstP_eq]; exact va_up_s
  · rw [jstP_eq, va_up_n (by decide), jstP_eq]; exact va_up_s
  · rw [jstP_eq]; exact va_up_s
  · rw [jstP_ne (by omega), jstP_ne (by omega), jstP_eq]; exact va_up_s
/-- the class made -/
def cMade (Sh : jS) (I : jI) (P : jP) (L : jL) (b : Nat) : Option Value → Nat → jS → jI → jP → jL → Prop := fun v z Sh' I' P' L' => v = none ∧ z = b + 366 ∧ cS Sh' b ∧ (∀ pst ch, cR I' P' b srow 0 pst 0 ch) ∧ (∀ a, a < b ∨ b + 366 ≤ a → Sh' a = Sh a ∧ I' a = I a ∧ P' a = P a) ∧ L' = L
theorem srow_I : sI srow := by
  refine ⟨⟨?_, by rw [smany_srow]; decide, fun o ho => by rw [smany_srow] at ho; exact absurd ho (Nat.not_lt_zero o), fun w hw => ?_⟩, ⟨Or.inl rfl, by decide, fun w hw => Or.inl (srow_0 (by omega)), ?_, ?_⟩, fun o ho => by rw [smany_srow] at ho; exact absurd ho (Nat.not_lt_zero o)⟩
  · rw [smany_srow]; rfl
  · unfold sspd
    rw [srow_0 (by omega)]
    exact ⟨rfl, by decide⟩
  · decide
  · decide
theorem cAl.made {Sh Sh0 : jS} {I I0 : jI} {P P0 : jP} {L : jL} {b : Nat} (h : cAl Sh Sh0 I I0 P P0 b 6) : cMade Sh0 I0 P0 L b none (b + 366) Sh I P L := by
  obtain ⟨f1, ⟨s0, s1, s2, s3, s4, s5⟩, ⟨p0, p1, p2, p3, p4, p5, p6⟩, hz, m1, m2, m3, m4⟩ := h
  refine ⟨rfl, rfl, ⟨s0, m1.1, m2.1, s1, s2, s3, s4, s5, fun i hi => (m3 i hi).1⟩, fun pst ch => ⟨⟨p0, p1, p2, p3, p4, p5, p6, m1.2.1, m2.2.1, fun i hi => (m3 i hi).2.1⟩, ⟨id, m1.2.2.2, m1.2.2.1⟩, srow_I, ⟨id, m2.2.2.1⟩, ⟨id, fun i hi => ⟨m4 i hi, hi⟩, fun i j _ _ e => e, fun i hi => ⟨id, (m3 i hi).2.2.1, fun z => absurd z (Nat.not_lt_zero i)⟩⟩, fun i hi => absurd hi (Nat.not_lt_zero i), congrFun hz 6, by decide, ⟨congrFun hz 7, by decide, fun j hj => absurd hj (Nat.not_lt_zero j)⟩⟩, fun a ha => f1 a (by omega), rfl⟩
set_option maxHeartbeats 8000000 in
theorem lp_X5_init {p : Program} {l : Launch} {e : Env} {s : State} {m : MethodId} {args : Array Value} {below : List Frame} {meth : Method} {c : Code} {D : va_G} {cA : Nat → ClassId} {N0 : Nat} (C : jC p (jRm 4 365 2229) s m args meth c D cA N0 cX5_init 2 RX5 4) (hAO : jAO s) (hr : meth.sig.returnType = none) (hmn : meth.name = "<init>") {b : Nat} {Sh0 : jS} {I0 : jI} {P0 : jP} {L0 : jL} : ∀ d i, i + d = 6 → ∀ (Sh : jS) (I : jI) (P : jP), cAl Sh Sh0 I I0 P P0 b (i) → jJ p l e (jRm 4 365 2229) s m args below meth c D cA N0 2 (MQ below (jQx D cA N0 (cMade Sh0 I0 P0 L0 b)) args s 365 2229 (fun q => N0 ≤ q)) (fun q => q = b + 96 + 45 * (i)) Sh I P L0 (95 + 45 * (i)) (621 + 268 * (i)) 64 [some (.ref b), some (.int (nI (i)))] [] := by
  intro d
  induction d with
  | zero =>
    intro i hi Sh I P h
    obtain rfl : i = 6 := by omega
    refine jx_iload_n (pc := 64) C dX5_init_64 rfl ?_
    refine jx_aload_n (pc := 65) C dX5_init_65 rfl ?_
    refine jx_getP (pc := 66) C kf_X5_19 rfl h.2.1.1 h.2.2.1.2.2.1 dX5_init_66 ?_
    refine jx_alen14 (pc := 69) C h.2.1.2.1 dX5_init_69 ?_
    refine jx_icmp_ge (pc := 70) C (tgt := 92) dX5_init_70 (by decide) (fun c70 => ?_) (fun c70 => (by rw [nI_leI (by omega) (by omega)] at c70; exfalso; omega))
    rw [nI_leI (by omega) (by omega)] at c70
    exact jx_roomy (show _ ≤ 365 by omega) (show _ ≤ 2229 by omega) (jx_vret (pc := 92) C hr (fun z hz => by subst hz; exact h.made) dX5_init_92)
  | succ d ih =>
    intro i hi Sh I P h
    refine jx_iload_n (pc := 64) C dX5_init_64 rfl ?_
    refine jx_aload_n (pc := 65) C dX5_init_65 rfl ?_
    refine jx_getP (pc := 66) C kf_X5_19 rfl h.2.1.1 h.2.2.1.2.2.1 dX5_init_66 ?_
    refine jx_alen14 (pc := 69) C h.2.1.2.1 dX5_init_69 ?_
    refine jx_icmp_ge (pc := 70) C (tgt := 92) dX5_init_70 (by decide) (fun c70 => (by rw [nI_leI (by omega) (by omega)] at c70; exfalso; omega)) (fun c70 => ?_)
    rw [nI_leI (by omega) (by omega)] at c70
    refine jx_aload_n (pc := 73) C dX5_init_73 rfl ?_
    refine jx_getP (pc := 74) C kf_X5_19 rfl h.2.1.1 h.2.2.1.2.2.1 dX5_init_74 ?_
    refine jx_iload_n (pc := 77) C dX5_init_77 rfl ?_
    refine jx_newO (pc := 78) C (ci := 0) (by decide) (N := 13) rfl (jWS_in 33 (by decide +kernel) rfl) (jWS_in 34 (by decide +kernel) rfl) (jWS_in 13 (by decide +kernel) rfl) (fun _ z => z) ⟨by show _ ≤ 365; omega, by show _ ≤ 2229; omega⟩ dX5_init_78 ?_
    refine jx_dup (pc := 81) C dX5_init_81 rfl ?_
    refine jx_callC (pc := 82) C hAO (go_X5_9 C (Nat.le_of_ble_eq_true rfl) dX5_init_82) (t_X0_init (b := b + 96 + 45 * i) shp_s va_up_s) (by decide) (by decide) (fun _ z => z) ⟨by show _ ≤ 365; omega, by show _ ≤ 2229; omega⟩ (fun v82 z82 S82 I82 P82 L82 q82 => ?_)
    obtain ⟨rfl, rfl, M82, F82, eL82⟩ := q82
    subst eL82
    refine jx_aast14 (pc := 85) C ((F82 _ (by omega)).1.trans ((shp_n (by omega)).trans h.2.1.2.1)) M82.1.hall (by omega) (by decide) dX5_init_85 ?_
    refine jx_iincN (pc := 86) C dX5_init_86 rfl (jset_1 jc_r) (by decide) ?_
    refine jx_goto (pc := 89) C (tgt := 64) dX5_init_89 (by decide) ?_
    exact jx_sz (fun q hq => by rw [hq]; omega) (jx_roomy (by omega) (by omega) (ih (i + 1) (by omega) _ _ _ (h.step (by omega) M82 F82)))
set_option maxHeartbeats 8000000 in
theorem b_X5_init {p : Program} {l : Launch} {e : Env} {s : State} {m : MethodId} {args : Array Value} {below : List Frame} {meth : Method} {c : Code} {D : va_G} {cA : Nat → ClassId} {N0 : Nat} {Sh : jS} {I : jI} {P : jP} {L : jL} (C : jC p (jRm 4 365 2229) s m args meth c D cA N0 cX5_init 2 RX5 4) (hAO : jAO s) (hr : meth.sig.returnType = none) (hmn : meth.name = "<init>") {b : Nat} (hb : Sh b = some (5, 0)) (hI : I b = zr) : jJ p l e (jRm 4 365 2229) s m args below meth c D cA N0 2 (MQ below (jQx D cA N0 (cMade Sh I P L b)) args s 365 2229 (fun q => N0 ≤ q)) (fun q => q = b + 1) Sh I P L 0 0 0 [some (.ref b), none] [] := by
  refine jx_aload_n (pc := 0) C dX5_init_0 rfl ?_
  refine jx_objInit (pc := 1) C (jWS_in 30 (by decide +kernel) rfl) (jWS_in 31 (by decide +kernel) rfl) (jWS_in 32 (by decide +kernel) rfl) (by decide) (by decide) dX5_init_1 ?_
  refine jx_aload_n (pc := 4) C dX5_init_4 rfl ?_
  refine jx_newO (pc := 5) C (ci := 0) (by decide) (N := 13) rfl (jWS_in 33 (by decide +kernel) rfl) (jWS_in 34 (by decide +kernel) rfl) (jWS_in 13 (by decide +kernel) rfl) (fun _ z => z) ⟨by show _ ≤ 365; omega, by show _ ≤ 2229; omega⟩ dX5_init_5 ?_
  refine jx_dup (pc := 8) C dX5_init_8 rfl ?_
  refine jx_callC (pc := 9) C hAO (go_X5_9 C (Nat.le_of_ble_eq_true rfl) dX5_init_9) (t_X0_init (b := b + 1) shp_s va_up_s) (by decide) (by decide) (fun _ z => z) ⟨by show _ ≤ 365; omega, by show _ ≤ 2229; omega⟩ (fun v9 z9 S9 I9 P9 L9 q9 => ?_)
  obtain ⟨rfl, rfl, M9, F9, eL9⟩ := q9
  subst eL9
  refine jx_putF (pc := 12) C (C0 := "") kf_X5_10 rfl rfl hmn rfl rfl rfl ((F9 _ (by omega)).1.trans ((shp_n (by omega)).trans hb)) dX5_init_12 ?_
  refine jx_aload_n (pc := 15) C dX5_init_15 rfl ?_
  refine jx_newO (pc := 16) C (ci := 0) (by decide) (N := 13) rfl (jWS_in 33 (by decide +kernel) rfl) (jWS_in 34 (by decide +kernel) rfl) (jWS_in 13 (by decide +kernel) rfl) (fun _ z => z) ⟨by show _ ≤ 365; omega, by show _ ≤ 2229; omega⟩ dX5_init_16 ?_
  refine jx_dup (pc := 19) C dX5_init_19 rfl ?_
  refine jx_callC (pc := 20) C hAO (go_X5_9 C (Nat.le_of_ble_eq_true rfl) dX5_init_20) (t_X0_init (b := b + 1 + 45) shp_s va_up_s) (by decide) (by decide) (fun _ z => z) ⟨by show _ ≤ 365; omega, by show _ ≤ 2229; omega⟩ (fun v20 z20 S20 I20 P20 L20 q20 => ?_)
  obtain ⟨rfl, rfl, M20, F20, eL20⟩ := q20
  subst eL20
  refine jx_putF (pc := 23) C (C0 := "") kf_X5_16 rfl rfl hmn rfl rfl rfl ((F20 _ (by omega)).1.trans ((shp_n (by omega)).trans ((F9 _ (by omega)).1.trans ((shp_n (by omega)).trans hb)))) dX5_init_23 ?_
  refine jx_aload_n (pc := 26) C dX5_init_26 rfl ?_
  refine jx_bipush (pc := 27) C dX5_init_27 nb_6 ?_
  refine jx_newQ14 (pc := 29) C hAO (jWS_in 33 (by decide +kernel) rfl) (fun _ z => z) (by decide) ⟨by show _ ≤ 365; omega, by show _ ≤ 2229; omega⟩ dX5_init_29 ?_
  refine jx_putF (pc := 32) C (C0 := "") kf_X5_19 rfl rfl hmn rfl rfl rfl ((shp_n (by omega)).trans ((F20 _ (by omega)).1.trans ((shp_n (by omega)).trans ((F9 _ (by omega)).1.trans ((shp_n (by omega)).trans hb))))) dX5_init_32 ?_
  refine jx_aload_n (pc := 35) C dX5_init_35 rfl ?_
  refine jx_bipush (pc := 36) C dX5_init_36 nb_60 ?_
  refine jx_newAI (pc := 38) C (fun _ z => z) (by decide) ⟨by show _ ≤ 365; omega, by show _ ≤ 2229; omega⟩ dX5_init_38 ?_
  refine jx_putF (pc := 40) C (C0 := "") kf_X5_23 rfl rfl hmn rfl rfl rfl ((shp_n (by omega)).trans ((shp_n (by omega)).trans ((F20 _ (by omega)).1.trans ((shp_n (by omega)).trans ((F9 _ (by omega)).1.trans ((shp_n (by omega)).trans hb)))))) dX5_init_40 ?_
  refine jx_aload_n (pc := 43) C dX5_init_43 rfl ?_
  refine jx_newO (pc := 44) C (ci := 2) (by decide) (N := 4) rfl (jWS_in 183 (by decide +kernel) rfl) (jWS_in 184 (by decide +kernel) rfl) (jWS_in 17 (by decide +kernel) rfl) (fun _ z => z) ⟨by show _ ≤ 365; omega, by show _ ≤ 2229; omega⟩ dX5_init_44 ?_
  refine jx_dup (pc := 47) C dX5_init_47 rfl ?_
  refine jx_callC (pc := 48) C hAO (go_X5_29 C (Nat.le_of_ble_eq_true rfl) dX5_init_48) (t_X2_init (b := b + 1 + 45 + 45 + 1 + 1) (h := b + 1 + 45 + 45 + 1 + 1 + 1) shp_s (by omega)) (by decide) (by decide) (fun _ z => z) ⟨by show _ ≤ 365; omega, by show _ ≤ 2229; omega⟩ (fun v48 z48 S48 I48 P48 L48 q48 => ?_)
  obtain ⟨rfl, rfl, rfl, rfl, rfl, eL48⟩ := q48
  subst eL48
  refine jx_putF (pc := 51) C (C0 := "") kf_X5_30 rfl rfl hmn rfl rfl rfl ((shp_n (by omega)).trans ((shp_n (by omega)).trans ((shp_n (by omega)).trans ((shp_n (by omega)).trans ((F20 _ (by omega)).1.trans ((shp_n (by omega)).trans ((F9 _ (by omega)).1.trans ((shp_n (by omega)).trans hb)))))))) dX5_init_51 ?_
  refine jx_aload_n (pc := 54) C dX5_init_54 rfl ?_
  refine jx_bipush (pc := 55) C dX5_init_55 nb_10 ?_
  refine jx_newAI (pc := 57) C (fun _ z => z) (by decide) ⟨by show _ ≤ 365; omega, by show _ ≤ 2229; omega⟩ dX5_init_57 ?_
  refine jx_putF (pc := 59) C (C0 := "") kf_X5_34 rfl rfl hmn rfl rfl rfl ((shp_n (by omega)).trans ((shp_n (by omega)).trans ((shp_n (by omega)).trans ((shp_n (by omega)).trans ((shp_n (by omega)).trans ((F20 _ (by omega)).1.trans ((shp_n (by omega)).trans ((F9 _ (by omega)).1.trans ((shp_n (by omega)).trans hb))))))))) dX5_init_59 ?_
  refine jx_iconst (pc := 62) C dX5_init_62 nc_0 ?_
  refine jx_istore_n (pc := 63) C dX5_init_63 (jset_1 jc_r) (by decide) ?_
  exact jx_sz (fun q hq => by rw [hq]) (jx_roomy (by omega) (by omega) (lp_X5_init C hAO hr hmn 6 0 rfl _ _ _ (cAl_0 hb hI M9 F9 M20 F20)))
theorem t_X5_init {l : Launch} {D : va_G} {cA : Nat → ClassId} {N0 : Nat} {Sh : jS} {I : jI} {P : jP} {L : jL} {b : Nat} (hb : Sh b = some (5, 0)) (hI : I b = zr) : jIC l D cA N0 4 365 2229 yX5_init cX5_init 2 [.ref b] (b + 1) Sh I P L (cMade Sh I P L b) := jIC_of (by decide) (Nat.le_of_ble_eq_true rfl) (fun _ _ _ _ _ _ _ _ C hAO hr hmn => b_X5_init C hAO hr hmn hb hI)
