/-- THE TEXT, read by a machine of states: the field, its digits, the numbers of the part, the parts ahead of it -/
abbrev tS : Type := Nat × Nat × (Nat → Nat) × Nat × (Nat → Nat → Nat)
def fLo : Nat → Nat | 0 => 1 | 1 => 40 | 2 => 0 | 3 => 1 | _ => 0
def fHi : Nat → Nat | 0 => 200 | 1 => 200 | 2 => 3 | 3 => 99 | _ => 9999
theorem fHi_le (k : Nat) : fHi k ≤ 9999 := by unfold fHi; split <;> decide
theorem fLo_le (k : Nat) : fLo k ≤ 40 := by unfold fLo; split <;> decide
def nbegL (lo hi : Nat) : Nat → Nat → Nat → Bool
  | 0, _, _ => false
  | n + 1, a, b => if a ≤ hi then if lo ≤ b then true else nbegL lo hi n (a * 10) (10 * b + 9) else false
/-- whether a number from lo to hi begins with these figures -/
def nbeg (v lo hi : Nat) : Bool := if v = 0 then decide (lo = 0) else nbegL lo hi 5 v v
theorem nbegL_le {lo hi : Nat} : ∀ {n a b : Nat}, nbegL lo hi n a b = true → a ≤ hi := by
  intro n a b h
  match n, h with
  | n + 1, h =>
    unfold nbegL at h
    by_cases h1 : a ≤ hi
    · exact h1
    · rw [if_neg h1] at h; cases h
theorem nbeg_le {v lo hi : Nat} (h : nbeg v lo hi = true) : v ≤ hi := by
  unfold nbeg at h
  by_cases h1 : v = 0
  · omega
  · rw [if_neg h1] at h; exact nbegL_le h
def updN (g : Nat → Nat) (k v : Nat) : Nat → Nat := fun j => if j = k then v else g j
theorem updN_s {g : Nat → Nat} {k v : Nat} : updN g k v k = v := if_pos rfl
theorem updN_n {g : Nat → Nat} {k v j : Nat} (h : j ≠ k) : updN g k v j = g j := if_neg h
def tNext (d v c : Nat) : Nat := if d = 0 then c - 48 else v * 10 + (c - 48)
def tStands (s : tS) : Bool := decide (s.2.1 ≠ 0 ∧ fLo s.1 ≤ s.2.2.1 s.1 ∧ s.2.2.1 s.1 ≤ fHi s.1)
def tMark (fld c : Nat) : Option Nat :=
  if c = 120 then (if fld = 0 then some 1 else none)
  else if c = 99 then (if fld = 1 then some 2 else none)
  else if c = 36 then (if fld = 2 then some 3 else none)
  else if c = 64 then (if fld = 2 ∨ fld = 3 then some 4 else none)
  else if c = 59 then (if 2 ≤ fld then some 0 else none)
  else none
def tNew : Nat → Nat := fun j => if j = 3 then 10 else if j = 4 then 9999 else 0
def tStep (s : tS) (c : Nat) : Option tS :=
  if 48 ≤ c ∧ c ≤ 57 then
    if (s.2.1 ≠ 0 ∧ s.2.2.1 s.1 = 0) ∨ nbeg (tNext s.2.1 (s.2.2.1 s.1) c) (fLo s.1) (fHi s.1) = false then none
    else some (s.1, s.2.1 + 1, updN s.2.2.1 s.1 (tNext s.2.1 (s.2.2.1 s.1) c), s.2.2.2)
  else if tStands s = true then
    match tMark s.1 c with
    | none => none
    | some 0 => some (0, 0, tNew, s.2.2.2.1 + 1, fun i => if i = s.2.2.2.1 then s.2.2.1 else s.2.2.2.2 i)
    | some (f + 1) => some (f + 1, 0, s.2.2.1, s.2.2.2)
  else none
def tRun (ch : Nat → Nat) (s0 : tS) : Nat → Option tS | 0 => some s0 | n + 1 => match tRun ch s0 n with | none => none | some s => tStep s (ch n)
theorem tRun_s {ch : Nat → Nat} {s0 s : tS} {n : Nat} (h : tRun ch s0 n = some s) : tRun ch s0 (n + 1) = tStep s (ch n) := by
  show (match tRun ch s0 n with | none => none | some s => tStep s (ch n)) = _
  rw [h]
/-- what the text's methods change -/
def mTx (I : jI) (x : Nat) (I' : jI) : Prop := (∀ b, b ≠ x → b ≠ x + 5 → I' b = I b) ∧ ∀ k, k ≠ 7 → k ≠ 8 → k ≠ 9 → k ≠ 11 → I' x k = I x k
theorem mTx.tr {I I1 I2 : jI} {x : Nat} (h : mTx I x I1) (h2 : mTx I1 x I2) : mTx I x I2 := ⟨fun b a c => (h2.1 b a c).trans (h.1 b a c), fun k a b c d => (h2.2 k a b c d).trans (h.2 k a b c d)⟩
theorem mTx.fld {I : jI} {x k : Nat} {v : Int32} (h : k = 7 ∨ k = 8 ∨ k = 9 ∨ k = 11) : mTx I x (jst I x k v) := ⟨fun b h1 h2 => jst_ne h1, fun j h1 h2 h3 h4 => by rw [jst_eq, upd_n (by omega)]⟩
def tEnv (I : jI) (x t : Nat) (ch : Nat → Nat) : Prop := I x 5 = nI t ∧ t ≤ 60 ∧ ∀ j, j < t → I (x + 4) j = nI (ch j) ∧ 33 ≤ ch j ∧ ch j ≤ 126
theorem tEnv.mv {I I' : jI} {x t : Nat} {ch : Nat → Nat} (h : tEnv I x t ch) (hm : mTx I x I') : tEnv I' x t ch := ⟨(hm.2 5 (by decide) (by decide) (by decide) (by decide)).trans h.1, h.2.1, fun j hj => by rw [hm.1 (x + 4) (by omega) (by omega)]; exact h.2.2 j hj⟩
set_option maxHeartbeats 4000000 in
theorem b_X6_isAt {p : Program} {l : Launch} {e : Env} {s : State} {m : MethodId} {args : Array Value} {below : List Frame} {meth : Method} {c : Code} {D : va_G} {cA : Nat → ClassId} {N0 : Nat} {Sh : jS} {I : jI} {P : jP} {L : jL} (C : jC p (jRm 1 0 0) s m args meth c D cA N0 cX6_isAt 3 RX6 1) (hr : meth.sig.returnType = (some .boolean)) {x : Nat} (hS : mS Sh x) (hP : mP P x) {t : Nat} {ch : Nat → Nat} (hE : tEnv I x t ch) {a : Nat} (ha : I x 7 = nI a) (hat : a ≤ t) {lo hi : Nat} (hlo : lo < 1000) (hhi : hi < 1000) : jJ p l e (jRm 1 0 0) s m args below meth c D cA N0 3 (MQ below (jQn D cA N0 Sh (jD (some (.int (bI (decide (a < t ∧ lo ≤ ch a ∧ ch a ≤ hi))))) I P L)) args s 0 0 (fun q => N0 ≤ q)) (fun _ => True) Sh I P L 0 0 0 [some (.ref x), some (.int (nI lo)), some (.int (nI hi))] [] := by
  have ht60 := hE.2.1
  refine jx_aload_n (pc := 0) C dX6_isAt_0 rfl ?_
  refine jx_getIv (pc := 1) C kf_X6_127 rfl hS.1 ha dX6_isAt_1 ?_
  refine jx_aload_n (pc := 4) C dX6_isAt_4 rfl ?_
  refine jx_getIv (pc := 5) C kf_X6_124 rfl hS.1 hE.1 dX6_isAt_5 ?_
  refine jx_icmp_ge (pc := 8) C (tgt := 32) dX6_isAt_8 (by decide) (fun c8 => ?_) (fun c8 => ?_)
  · rw [nI_leI (by omega) (by omega)] at c8
    refine jx_iconst (pc := 32) C dX6_isAt_32 nc_0 ?_
    exact jn_zret (pc := 33) C hr (rfl) (jD_i (bI_decn (fun h => by
      have hcc := hE.2.2 a h.1
      first
        | omega
        | (rw [nI_leI (by omega) (by omega), nI_leI (by omega) (by omega)] at c25; exact c25 h.2)))) dX6_isAt_33
  · rw [nI_leI (by omega) (by omega)] at c8
    refine jx_aload_n (pc := 11) C dX6_isAt_11 rfl ?_
    refine jx_getP (pc := 12) C kf_X6_19 rfl hS.1 hP.2.2.2.1 dX6_isAt_12 ?_
    refine jx_aload_n (pc := 15) C dX6_isAt_15 rfl ?_
    refine jx_getIv (pc := 16) C kf_X6_127 rfl hS.1 ha dX6_isAt_16 ?_
    refine jx_ialdv (pc := 19) C hS.2.2.2.2.1 (by omega) (by decide) (hE.2.2 a (by omega)).1 dX6_isAt_19 ?_
    refine jx_iload_n (pc := 20) C dX6_isAt_20 rfl ?_
    refine jx_iload_n (pc := 21) C dX6_isAt_21 rfl ?_
    refine jx_callD (pc := 22) C (go_X6_32 C  (Nat.le_of_ble_eq_true rfl) dX6_isAt_22) t_X6_in (by decide) (by decide) ⟨Nat.zero_le _, Nat.zero_le _⟩ ?_
    refine jx_if_eq (pc := 25) C (tgt := 32) dX6_isAt_25 (by decide) (fun c25 => ?_) (fun c25 => ?_)
    · rw [bI_0, decide_eq_false_iff_not] at c25
      refine jx_iconst (pc := 32) C dX6_isAt_32 nc_0 ?_
      exact jn_zret (pc := 33) C hr (rfl) (jD_i (bI_decn (fun h => by
        have hcc := hE.2.2 a h.1
        first
          | omega
          | (rw [nI_leI (by omega) (by omega), nI_leI (by omega) (by omega)] at c25; exact c25 h.2)))) dX6_isAt_33
    · rw [bI_0, decide_eq_false_iff_not, Decidable.not_not] at c25
      have hcc := hE.2.2 a (by omega)
      rw [nI_leI (by omega) (by omega), nI_leI (by omega) (by omega)] at c25
      refine jx_iconst (pc := 28) C dX6_isAt_28 nc_1 ?_
      refine jx_goto (pc := 29) C (tgt := 33) dX6_isAt_29 (by decide) ?_
      exact jn_zret (pc := 33) C hr (rfl) (jD_i (bI_dec ⟨by omega, c25⟩)) dX6_isAt_33
theorem t_X6_isAt {l : Launch} {D : va_G} {cA : Nat → ClassId} {N0 : Nat} {Sh : jS} {I : jI} {P : jP} {L : jL} {x : Nat} (hS : mS Sh x) (hP : mP P x) {t : Nat} {ch : Nat → Nat} (hE : tEnv I x t ch) {a : Nat} (ha : I x 7 = nI a) (hat : a ≤ t) {lo hi : Nat} (hlo : lo < 1000) (hhi : hi < 1000) : jN l D cA N0 1 yX6_isAt cX6_isAt 3 (some .boolean) [.ref x, .int (nI lo), .int (nI hi)] Sh I P L (jD (some (.int (bI (decide (a < t ∧ lo ≤ ch a ∧ ch a ≤ hi))))) I P L) := jN_of (by decide) (Nat.le_of_ble_eq_true rfl) (fun _ _ _ _ _ _ _ _ C hr => b_X6_isAt C hr hS hP hE ha hat hlo hhi)
set_option maxHeartbeats 4000000 in
theorem b_X6_stops {p : Program} {l : Launch} {e : Env} {s : State} {m : MethodId} {args : Array Value} {below : List Frame} {meth : Method} {c : Code} {D : va_G} {cA : Nat → ClassId} {N0 : Nat} {Sh : jS} {I : jI} {P : jP} {L : jL} (C : jC p (jRm 0 0 0) s m args meth c D cA N0 cX6_stops 1 RX6 0) (hr : meth.sig.returnType = (some .boolean)) {x : Nat} (hS : mS Sh x) (hP : mP P x) {t : Nat} {ch : Nat → Nat} (hE : tEnv I x t ch) {a : Nat} (ha : I x 7 = nI a) (hat : a ≤ t) : jJ p l e (jRm 0 0 0) s m args below meth c D cA N0 1 (MQ below (jQn D cA N0 Sh (jD (some (.int (nI 0))) (jst I x 8 (bI (decide (a < t)))) P L)) args s 0 0 (fun q => N0 ≤ q)) (fun _ => True) Sh I P L 0 0 0 [some (.ref x)] [] := by
  have ht60 := hE.2.1
  refine jx_aload_n (pc := 0) C dX6_stops_0 rfl ?_
  refine jx_aload_n (pc := 1) C dX6_stops_1 rfl ?_
  refine jx_getIv (pc := 2) C kf_X6_127 rfl hS.1 ha dX6_stops_2 ?_
  refine jx_aload_n (pc := 5) C dX6_stops_5 rfl ?_
  refine jx_getIv (pc := 6) C kf_X6_124 rfl hS.1 hE.1 dX6_stops_6 ?_
  refine jx_icmp_ge (pc := 9) C (tgt := 16) dX6_stops_9 (by decide) (fun c9 => ?_) (fun c9 => ?_)
  · rw [nI_leI (by omega) (by omega)] at c9
    refine jx_iconst (pc := 16) C dX6_stops_16 nc_0 ?_
    refine jx_putI (pc := 17) C kf_X6_130 rfl rfl rfl rfl hS.1 dX6_stops_17 ?_
    refine jx_iconst (pc := 20) C dX6_stops_20 nc_0 ?_
    exact jn_zret (pc := 21) C hr (rfl) (jD_of rfl (by first | rw [← bI_dec (show a < t by omega)] | rw [← bI_decn (show ¬ a < t by omega)]) rfl rfl) dX6_stops_21
  · rw [nI_leI (by omega) (by omega)] at c9
    refine jx_iconst (pc := 12) C dX6_stops_12 nc_1 ?_
    refine jx_goto (pc := 13) C (tgt := 17) dX6_stops_13 (by decide) ?_
    refine jx_putI (pc := 17) C kf_X6_130 rfl rfl rfl rfl hS.1 dX6_stops_17 ?_
    refine jx_iconst (pc := 20) C dX6_stops_20 nc_0 ?_
    exact jn_zret (pc := 21) C hr (rfl) (jD_of rfl (by first | rw [← bI_dec (show a < t by omega)] | rw [← bI_decn (show ¬ a < t by omega)]) rfl rfl) dX6_stops_21
theorem t_X6_stops {l : Launch} {D : va_G} {cA : Nat → ClassId} {N0 : Nat} {Sh : jS} {I : jI} {P : jP} {L : jL} {x : Nat} (hS : mS Sh x) (hP : mP P x) {t : Nat} {ch : Nat → Nat} (hE : tEnv I x t ch) {a : Nat} (ha : I x 7 = nI a) (hat : a ≤ t) : jN l D cA N0 0 yX6_stops cX6_stops 1 (some .boolean) [.ref x] Sh I P L (jD (some (.int (nI 0))) (jst I x 8 (bI (decide (a < t)))) P L) := jN_of (by decide) (Nat.le_of_ble_eq_true rfl) (fun _ _ _ _ _ _ _ _ C hr => b_X6_stops C hr hS hP hE ha hat)
def tSg (I : jI) (x t a : Nat) (b : Bool) (I' : jI) : Prop := if b = true then I' = jst I x 7 (nI (a + 1)) else I' = jst I x 8 (bI (decide (a < t)))
set_option maxHeartbeats 4000000 in
theorem b_X6_isSign {p : Program} {l : Launch} {e : Env} {s : State} {m : MethodId} {args : Array Value} {below : List Frame} {meth : Method} {c : Code} {D : va_G} {cA : Nat → ClassId} {N0 : Nat} {Sh : jS} {I : jI} {P : jP} {L : jL} (C : jC p (jRm 2 0 0) s m args meth c D cA N0 cX6_isSign 2 RX6 2) (hr : meth.sig.returnType = (some .boolean)) {x : Nat} (hS : mS Sh x) (hP : mP P x) {t : Nat} {ch : Nat → Nat} (hE : tEnv I x t ch) {a : Nat} (ha : I x 7 = nI a) (hat : a ≤ t) {c0 : Nat} (hc : c0 < 1000) : jJ p l e (jRm 2 0 0) s m args below meth c D cA N0 2 (MQ below (jQn D cA N0 Sh (jNi (fun r I' P' L' => r = bI (decide (a < t ∧ ch a = c0)) ∧ tSg I x t a (decide (a < t ∧ ch a = c0)) I' ∧ P' = P ∧ L' = L))) args s 0 0 (fun q => N0 ≤ q)) (fun _ => True) Sh I P L 0 0 0 [some (.ref x), some (.int (nI c0))] [] := by
  have ht60 := hE.2.1
  refine jx_aload_n (pc := 0) C dX6_isSign_0 rfl ?_
  refine jx_iload_n (pc := 1) C dX6_isSign_1 rfl ?_
  refine jx_iload_n (pc := 2) C dX6_isSign_2 rfl ?_
  refine jx_callD (pc := 3) C (go_X6_134 C hS.1 (Nat.le_of_ble_eq_true rfl) dX6_isSign_3) (t_X6_isAt hS hP hE ha hat hc hc) (by decide) (by decide) ⟨Nat.zero_le _, Nat.zero_le _⟩ ?_
  refine jx_if_ne (pc := 6) C (tgt := 14) dX6_isSign_6 (by decide) (fun c6 => ?_) (fun c6 => ?_)
  · rw [bI_0, decide_eq_false_iff_not, Decidable.not_not] at c6
    refine jx_aload_n (pc := 14) C dX6_isSign_14 rfl ?_
    refine jx_dup (pc := 15) C dX6_isSign_15 rfl ?_
    refine jx_getIv (pc := 16) C kf_X6_127 rfl hS.1 ha dX6_isSign_16 ?_
    refine jx_iconst (pc := 19) C dX6_isSign_19 nc_1 ?_
    refine jx_iaddN (pc := 20) C dX6_isSign_20 ?_
    refine jx_putI (pc := 21) C kf_X6_127 rfl rfl rfl rfl hS.1 dX6_isSign_21 ?_
    refine jx_iconst (pc := 24) C dX6_isSign_24 nc_1 ?_
    exact jn_zret (pc := 25) C hr (rfl) (⟨_, rfl, bI_dec ⟨c6.1, by omega⟩, by unfold tSg; rw [if_pos (by rw [decide_eq_true_eq]; exact ⟨c6.1, by omega⟩)], rfl, rfl⟩) dX6_isSign_25
  · rw [bI_0, decide_eq_false_iff_not] at c6
    refine jx_aload_n (pc := 9) C dX6_isSign_9 rfl ?_
    refine jx_callD (pc := 10) C (go_X6_138 C hS.1 (Nat.le_of_ble_eq_true rfl) dX6_isSign_10) (t_X6_stops hS hP hE ha hat) (by decide) (by decide) ⟨Nat.zero_le _, Nat.zero_le _⟩ ?_
    exact jn_zret (pc := 13) C hr (rfl) (⟨_, rfl, bI_decn (fun h => c6 ⟨h.1, by omega, by omega⟩), by unfold tSg; rw [if_neg (by rw [decide_eq_true_eq]; exact fun h => c6 ⟨h.1, by omega, by omega⟩)], rfl, rfl⟩) dX6_isSign_13
theorem t_X6_isSign {l : Launch} {D : va_G} {cA : Nat → ClassId} {N0 : Nat} {Sh : jS} {I : jI} {P : jP} {L : jL} {x : Nat} (hS : mS Sh x) (hP : mP P x) {t : Nat} {ch : Nat → Nat} (hE : tEnv I x t ch) {a : Nat} (ha : I x 7 = nI a) (hat : a ≤ t) {c0 : Nat} (hc : c0 < 1000) : jN l D cA N0 2 yX6_isSign cX6_isSign 2 (some .boolean) [.ref x, .int (nI c0)] Sh I P L (jNi (fun r I' P' L' => r = bI (decide (a < t ∧ ch a = c0)) ∧ tSg I x t a (decide (a < t ∧ ch a = c0)) I' ∧ P' = P ∧ L' = L)) := jN_of (by decide) (Nat.le_of_ble_eq_true rfl) (fun _ _ _ _ _ _ _ _ C hr => b_X6_isSign C hr hS hP hE ha hat hc)
set_option maxHeartbeats 4000000 in
theorem lp_X6_begins {p : Program} {l : Launch} {e : Env} {s : State} {m : MethodId} {args : Array Value} {below : List Frame} {meth : Method} {c : Code} {D : va_G} {cA : Nat → ClassId} {N0 : Nat} {Sh : jS} {I : jI} {P : jP} {L : jL} {Qf : State → Prop} (C : jC p (jRm 0 0 0) s m args meth c D cA N0 cX6_begins 6 RX6 0) {v lo hi : Nat} (hv0 : 0 < v) (hv : v < 100000) (hlo : lo < 1000) (hhi : hi ≤ 9999) : ∀ n a b, a ≤ 99999 → b + 1 ≤ 2 * a → n ≤ 5 → 10 ^ (5 - n) ≤ a → (∀ a2 b2, jJ p l e (jRm 0 0 0) s m args below meth c D cA N0 6 Qf (fun _ => True) Sh I P L 0 0 53 [some (.int (nI v)), some (.int (nI lo)), some (.int (nI hi)), some (.int (nI (a2))), some (.int (nI (b2))), some (.int (bI (nbegL lo hi n a b)))] []) → jJ p l e (jRm 0 0 0) s m args below meth c D cA N0 6 Qf (fun _ => True) Sh I P L 0 0 8 [some (.int (nI v)), some (.int (nI lo)), some (.int (nI hi)), some (.int (nI (a))), some (.int (nI (b))), some (.int (bI false))] [] := by
  intro n
  induction n with
  | zero =>
    intro a b ha hb hn hp hx
    have hp5 : 100000 ≤ a := hp
    omega
  | succ n ih =>
    intro a b ha hb hn hp hx
    refine jx_iload_n (pc := 8) C dX6_begins_8 rfl ?_
    refine jx_if_le (pc := 9) C (tgt := 53) dX6_begins_9 (by decide) (fun c9 => (by rw [nI_le0 (by omega)] at c9; exfalso; omega)) (fun c9 => ?_)
    rw [nI_le0 (by omega)] at c9
    refine jx_iload_n (pc := 12) C dX6_begins_12 rfl ?_
    refine jx_iload_n (pc := 13) C dX6_begins_13 rfl ?_
    refine jx_icmp_gt (pc := 14) C (tgt := 53) dX6_begins_14 (by decide) (fun c14 => ?_) (fun c14 => ?_)
    · rw [nI_ltI (by omega) (by omega)] at c14
      have h0 : nbegL lo hi (n + 1) a b = false := if_neg (by omega)
      rw [h0] at hx
      exact hx _ _
    · rw [nI_ltI (by omega) (by omega)] at c14
      refine jx_iload (pc := 17) C dX6_begins_17 rfl ?_
      refine jx_if_ne (pc := 19) C (tgt := 53) dX6_begins_19 (by decide) (fun c19 => (by exfalso; revert c19; decide)) (fun c19 => ?_)
      by_cases h2 : lo ≤ b
      · have h0 : nbegL lo hi (n + 1) a b = true := (if_pos (by omega)).trans (if_pos h2)
        rw [h0] at hx
        refine jx_iload (pc := 22) C dX6_begins_22 rfl ?_
        refine jx_iload_n (pc := 24) C dX6_begins_24 rfl ?_
        refine jx_icmp_lt (pc := 25) C (tgt := 32) dX6_begins_25 (by decide) (fun c25 => (by rw [nI_ltI (by omega) (by omega)] at c25; exfalso; omega)) (fun c25 => ?_)
        rw [nI_ltI (by omega) (by omega)] at c25
        refine jx_iconst (pc := 28) C dX6_begins_28 nc_1 ?_
        refine jx_goto (pc := 29) C (tgt := 33) dX6_begins_29 (by decide) ?_
        refine jx_istore (pc := 33) C dX6_begins_33 (jset_5 jc_i) (by decide) ?_
        refine jx_iload_n (pc := 35) C dX6_begins_35 rfl ?_
        refine jx_bipush (pc := 36) C dX6_begins_36 nb_10 ?_
        refine jx_imulN (pc := 38) C dX6_begins_38 ?_
        refine jx_istore_n (pc := 39) C dX6_begins_39 (jset_3 jc_i) (by decide) ?_
        refine jx_bipush (pc := 40) C dX6_begins_40 nb_10 ?_
        refine jx_iload (pc := 42) C dX6_begins_42 rfl ?_
        refine jx_imulN (pc := 44) C dX6_begins_44 ?_
        refine jx_bipush (pc := 45) C dX6_begins_45 nb_9 ?_
        refine jx_iaddN (pc := 47) C dX6_begins_47 ?_
        refine jx_istore (pc := 48) C dX6_begins_48 (jset_4 jc_i) (by decide) ?_
        refine jx_goto (pc := 50) C (tgt := 8) dX6_begins_50 (by decide) ?_
        refine jx_iload_n (pc := 8) C dX6_begins_8 rfl ?_
        refine jx_if_le (pc := 9) C (tgt := 53) dX6_begins_9 (by decide) (fun c9 => (by rw [nI_le0 (by omega)] at c9; exfalso; omega)) (fun c9 => ?_)
        rw [nI_le0 (by omega)] at c9
        refine jx_iload_n (pc := 12) C dX6_begins_12 rfl ?_
        refine jx_iload_n (pc := 13) C dX6_begins_13 rfl ?_
        refine jx_icmp_gt (pc := 14) C (tgt := 53) dX6_begins_14 (by decide) (fun c14 => ?_) (fun c14 => ?_)
        · rw [nI_ltI (by omega) (by omega)] at c14
          exact hx _ _
        · rw [nI_ltI (by omega) (by omega)] at c14
          refine jx_iload (pc := 17) C dX6_begins_17 rfl ?_
          refine jx_if_ne (pc := 19) C (tgt := 53) dX6_begins_19 (by decide) (fun c19 => ?_) (fun c19 => (by exfalso; revert c19; decide))
          exact hx _ _
      · have h0 : nbegL lo hi (n + 1) a b = nbegL lo hi n (a * 10) (10 * b + 9) := (if_pos (by omega)).trans (if_neg h2)
        rw [h0] at hx
        rcases Nat.eq_zero_or_pos n with hn0 | hn0
        · subst hn0
          have hp1 : 10000 ≤ a := hp
          omega
        refine jx_iload (pc := 22) C dX6_begins_22 rfl ?_
        refine jx_iload_n (pc := 24) C dX6_begins_24 rfl ?_
        refine jx_icmp_lt (pc := 25) C (tgt := 32) dX6_begins_25 (by decide) (fun c25 => ?_) (fun c25 => (by rw [nI_ltI (by omega) (by omega)] at c25; exfalso; omega))
        rw [nI_ltI (by omega) (by omega)] at c25
        refine jx_iconst (pc := 32) C dX6_begins_32 nc_0 ?_
        refine jx_istore (pc := 33) C dX6_begins_33 (jset_5 jc_i) (by decide) ?_
        refine jx_iload_n (pc := 35) C dX6_begins_35 rfl ?_
        refine jx_bipush (pc := 36) C dX6_begins_36 nb_10 ?_
        refine jx_imulN (pc := 38) C dX6_begins_38 ?_
        refine jx_istore_n (pc := 39) C dX6_begins_39 (jset_3 jc_i) (by decide) ?_
        refine jx_bipush (pc := 40) C dX6_begins_40 nb_10 ?_
        refine jx_iload (pc := 42) C dX6_begins_42 rfl ?_
        refine jx_imulN (pc := 44) C dX6_begins_44 ?_
        refine jx_bipush (pc := 45) C dX6_begins_45 nb_9 ?_
        refine jx_iaddN (pc := 47) C dX6_begins_47 ?_
        refine jx_istore (pc := 48) C dX6_begins_48 (jset_4 jc_i) (by decide) ?_
        refine jx_goto (pc := 50) C (tgt := 8) dX6_begins_50 (by decide) ?_
        exact ih _ _ (by omega) (by omega) (by omega) (by rw [show 5 - n = 5 - (n + 1) + 1 by omega, Nat.pow_succ]; omega) hx
theorem bI_tt {b : Bool} (h : b = true) : nI 1 = bI b := by rw [h]; rfl
theorem bI_ff {b : Bool} (h : b = false) : nI 0 = bI b := by rw [h]; rfl
theorem bI_eq0 {b : Bool} : bI b = (0 : Int32) ↔ b = false := by cases b <;> decide
set_option maxHeartbeats 4000000 in
theorem b_X6_begins {p : Program} {l : Launch} {e : Env} {s : State} {m : MethodId} {args : Array Value} {below : List Frame} {meth : Method} {c : Code} {D : va_G} {cA : Nat → ClassId} {N0 : Nat} {Sh : jS} {I : jI} {P : jP} {L : jL} (C : jC p (jRm 0 0 0) s m args meth c D cA N0 cX6_begins 6 RX6 0) (hr : meth.sig.returnType = (some .boolean)) {v lo hi : Nat} (hv : v < 100000) (hlo : lo < 1000) (hhi : hi ≤ 9999) : jJ p l e (jRm 0 0 0) s m args below meth c D cA N0 6 (MQ below (jQn D cA N0 Sh (jD (some (.int (bI (nbeg v lo hi)))) I P L)) args s 0 0 (fun q => N0 ≤ q)) (fun _ => True) Sh I P L 0 0 0 [some (.int (nI v)), some (.int (nI lo)), some (.int (nI hi)), none, none, none] [] := by
  refine jx_iload_n (pc := 0) C dX6_begins_0 rfl ?_
  refine jx_istore_n (pc := 1) C dX6_begins_1 (jset_3 jc_i) (by decide) ?_
  refine jx_iload_n (pc := 2) C dX6_begins_2 rfl ?_
  refine jx_istore (pc := 3) C dX6_begins_3 (jset_4 jc_i) (by decide) ?_
  refine jx_iconst (pc := 5) C dX6_begins_5 nc_0 ?_
  refine jx_istore (pc := 6) C dX6_begins_6 (jset_5 jc_i) (by decide) ?_
  rcases Nat.eq_zero_or_pos v with hz | hz
  · subst hz
    refine jx_iload_n (pc := 8) C dX6_begins_8 rfl ?_
    refine jx_if_le (pc := 9) C (tgt := 53) dX6_begins_9 (by decide) (fun c9 => ?_) (fun c9 => (by rw [nI_le0 (by omega)] at c9; exfalso; omega))
    rw [nI_le0 (by omega)] at c9
    refine jx_iload (pc := 53) C dX6_begins_53 rfl ?_
    refine jx_if_ne (pc := 55) C (tgt := 66) dX6_begins_55 (by decide) (fun c55 => (by exfalso; revert c55; decide)) (fun c55 => ?_)
    refine jx_iload_n (pc := 58) C dX6_begins_58 rfl ?_
    refine jx_if_ne (pc := 59) C (tgt := 70) dX6_begins_59 (by decide) (fun c59 => ?_) (fun c59 => ?_)
    · rw [nI_eq0 (by omega)] at c59
      refine jx_iconst (pc := 70) C dX6_begins_70 nc_0 ?_
      exact jn_zret (pc := 71) C hr (rfl) (jD_i (bI_ff (by unfold nbeg; rw [if_pos rfl]; exact decide_eq_false (by omega)))) dX6_begins_71
    · rw [nI_eq0 (by omega)] at c59
      refine jx_iload_n (pc := 62) C dX6_begins_62 rfl ?_
      refine jx_if_ne (pc := 63) C (tgt := 70) dX6_begins_63 (by decide) (fun c63 => ?_) (fun c63 => ?_)
      · rw [nI_eq0 (by omega)] at c63
        refine jx_iconst (pc := 70) C dX6_begins_70 nc_0 ?_
        exact jn_zret (pc := 71) C hr (rfl) (jD_i (bI_ff (by unfold nbeg; rw [if_pos rfl]; exact decide_eq_false (by omega)))) dX6_begins_71
      · rw [nI_eq0 (by omega)] at c63
        refine jx_iconst (pc := 66) C dX6_begins_66 nc_1 ?_
        refine jx_goto (pc := 67) C (tgt := 71) dX6_begins_67 (by decide) ?_
        exact jn_zret (pc := 71) C hr (rfl) (jD_i (bI_tt (by unfold nbeg; rw [if_pos rfl]; exact decide_eq_true (by omega)))) dX6_begins_71
  · refine lp_X6_begins C hz hv hlo hhi 5 v v (by omega) (by omega) (by omega) (show 1 ≤ v by omega) (fun a2 b2 => ?_)
    refine jx_iload (pc := 53) C dX6_begins_53 rfl ?_
    refine jx_if_ne (pc := 55) C (tgt := 66) dX6_begins_55 (by decide) (fun c55 => ?_) (fun c55 => ?_)
    · refine jx_iconst (pc := 66) C dX6_begins_66 nc_1 ?_
      refine jx_goto (pc := 67) C (tgt := 71) dX6_begins_67 (by decide) ?_
      exact jn_zret (pc := 71) C hr (rfl) (jD_i (bI_tt (by rw [show nbeg v lo hi = nbegL lo hi 5 v v from if_neg (by omega)]; exact Bool.of_not_eq_false (fun h2 => c55 (bI_eq0.mpr h2))))) dX6_begins_71
    · refine jx_iload_n (pc := 58) C dX6_begins_58 rfl ?_
      refine jx_if_ne (pc := 59) C (tgt := 70) dX6_begins_59 (by decide) (fun c59 => ?_) (fun c59 => (by rw [nI_eq0 (by omega)] at c59; exfalso; omega))
      rw [nI_eq0 (by omega)] at c59
      refine jx_iconst (pc := 70) C dX6_begins_70 nc_0 ?_
      exact jn_zret (pc := 71) C hr (rfl) (jD_i (bI_ff (by rw [show nbeg v lo hi = nbegL lo hi 5 v v from if_neg (by omega)]; exact bI_eq0.mp c55))) dX6_begins_71
theorem t_X6_begins {l : Launch} {D : va_G} {cA : Nat → ClassId} {N0 : Nat} {Sh : jS} {I : jI} {P : jP} {L : jL} {v lo hi : Nat} (hv : v < 100000) (hlo : lo < 1000) (hhi : hi ≤ 9999) : jN l D cA N0 0 yX6_begins cX6_begins 6 (some .boolean) [.int (nI v), .int (nI lo), .int (nI hi)] Sh I P L (jD (some (.int (bI (nbeg v lo hi)))) I P L) := jN_of (by decide) (Nat.le_of_ble_eq_true rfl) (fun _ _ _ _ _ _ _ _ C hr => b_X6_begins C hr hv hlo hhi)
