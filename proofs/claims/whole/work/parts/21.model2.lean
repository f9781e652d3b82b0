theorem va_up_s {α : Type} {f : Nat → α} {a : Nat} {g : α} : va_up f a g a = g := by simp [va_up]
theorem va_up_n {α : Type} {f : Nat → α} {a b : Nat} {g : α} (h : b ≠ a) : va_up f a g b = f b := by simp [va_up, h]
theorem va_up_u {α : Type} {f : Nat → α} {a : Nat} {g g' : α} : va_up (va_up f a g) a g' = va_up f a g' := by funext j; simp only [va_up]; split <;> rfl
theorem va_up_id {α : Type} {f : Nat → α} {a : Nat} : va_up f a (f a) = f := by funext j; simp only [va_up]; split <;> simp_all
theorem va_up_c {α : Type} {f : Nat → α} {a b : Nat} {g h : α} (hn : a ≠ b) : va_up (va_up f a g) b h = va_up (va_up f b h) a g := by
  funext j; simp only [va_up]; by_cases h1 : j = a
  · subst h1; simp [hn]
  · simp [h1]
theorem jst_up {I : jI} {a k : Nat} {x : Int32} {g : Nat → Int32} : jst (va_up I a g) a k x = va_up I a (upd g k x) := by unfold jst; rw [va_up_s, va_up_u]
theorem sdues_s {f : sF} {o : Nat} {whole len : Int32} {w : Nat} {du : Nat → Int32} : upd (sdues f o whole len w du) w (sdue f o whole len w) = sdues f o whole len (w + 1) du := by
  funext j
  simp only [upd, sdues]
  by_cases h1 : j = w
  · subst h1; simp
  · by_cases h2 : j < w
    · simp [h1, h2, show j < w + 1 by omega]
    · simp [h1, h2, show ¬ j < w + 1 by omega]
theorem sdues_w {f : sF} {o : Nat} {whole len : Int32} {w n : Nat} {du : Nat → Int32} (h : w < n) : sdues f o whole len n du w = sdue f o whole len w := if_pos h
theorem t_X6_byv {l : Launch} {D : va_G} {cA : Nat → ClassId} {N0 : Nat} {Sh : jS} {I : jI} {P : jP} {L : jL} {a : Nat} (hs : Sh a = some (10, 210)) {o w : Nat} {x : Int32} (ho : 90 + 12 * o + w < 210) (hv : I a (90 + 12 * o + w) = x) : jN l D cA N0 0 yX6_by cX6_by 3 (some .int) [.ref a, .int (nI o), .int (nI w)] Sh I P L (jD (some (.int x)) I P L) := by rw [← hv]; exact t_X6_by hs ho
theorem t_X6_ofv {l : Launch} {D : va_G} {cA : Nat → ClassId} {N0 : Nat} {Sh : jS} {I : jI} {P : jP} {L : jL} {a : Nat} (hs : Sh a = some (10, 210)) {o w : Nat} {x : Int32} (ho : 18 + 12 * o + w < 210) (hv : I a (18 + 12 * o + w) = x) : jN l D cA N0 0 yX6_of cX6_of 3 (some .int) [.ref a, .int (nI o), .int (nI w)] Sh I P L (jD (some (.int x)) I P L) := by rw [← hv]; exact t_X6_of hs ho
set_option maxHeartbeats 4000000 in
theorem b_X6_late {p : Program} {l : Launch} {e : Env} {s : State} {m : MethodId} {args : Array Value} {below : List Frame} {meth : Method} {c : Code} {D : va_G} {cA : Nat → ClassId} {N0 : Nat} {Sh : jS} {I : jI} {P : jP} {L : jL} (C : jC p (jRm 1 0 0) s m args meth c D cA N0 cX6_late 2 RX6 1) (hr : meth.sig.returnType = (some .int)) {a : Nat} (hs : Sh a = some (10, 210)) {o : Nat} (ho : o < 10) : jJ p l e (jRm 1 0 0) s m args below meth c D cA N0 2 (MQ below (jQn D cA N0 Sh (jD (some (.int (slate (I a) o))) I P L)) args s 0 0 (fun q => N0 ≤ q)) (fun _ => True) Sh I P L 0 0 0 [some (.ref a), some (.int (nI o))] [] := by
  refine jx_aload_n (pc := 0) C dX6_late_0 rfl ?_
  refine jx_iconst (pc := 1) C dX6_late_1 nc_4 ?_
  refine jx_iald (pc := 2) C hs (by omega) (by decide) dX6_late_2 ?_
  refine jx_aload_n (pc := 3) C dX6_late_3 rfl ?_
  refine jx_iload_n (pc := 4) C dX6_late_4 rfl ?_
  refine jx_iconst (pc := 5) C dX6_late_5 nc_5 ?_
  refine jx_callD (pc := 6) C (go_X6_43 C  (Nat.le_of_ble_eq_true rfl) dX6_late_6) (t_X6_by hs (by omega)) (by decide) (by decide) ⟨Nat.zero_le _, Nat.zero_le _⟩ ?_
  refine jx_icmp_le (pc := 9) C (tgt := 25) dX6_late_9 (by decide) (fun c9 => ?_) (fun c9 => ?_)
  · refine jx_iconst (pc := 25) C dX6_late_25 nc_0 ?_
    exact jn_iret (pc := 26) C hr (jD_i (by unfold slate; first | exact (if_pos c9).symm | exact (if_neg c9).symm)) dX6_late_26
  · refine jx_aload_n (pc := 12) C dX6_late_12 rfl ?_
    refine jx_iconst (pc := 13) C dX6_late_13 nc_4 ?_
    refine jx_iald (pc := 14) C hs (by omega) (by decide) dX6_late_14 ?_
    refine jx_aload_n (pc := 15) C dX6_late_15 rfl ?_
    refine jx_iload_n (pc := 16) C dX6_late_16 rfl ?_
    refine jx_iconst (pc := 17) C dX6_late_17 nc_5 ?_
    refine jx_callD (pc := 18) C (go_X6_43 C  (Nat.le_of_ble_eq_true rfl) dX6_late_18) (t_X6_by hs (by omega)) (by decide) (by decide) ⟨Nat.zero_le _, Nat.zero_le _⟩ ?_
    refine jx_isub (pc := 21) C dX6_late_21 ?_
    refine jx_goto (pc := 22) C (tgt := 26) dX6_late_22 (by decide) ?_
    exact jn_iret (pc := 26) C hr (jD_i (by unfold slate; first | exact (if_pos c9).symm | exact (if_neg c9).symm)) dX6_late_26
theorem t_X6_late {l : Launch} {D : va_G} {cA : Nat → ClassId} {N0 : Nat} {Sh : jS} {I : jI} {P : jP} {L : jL} {a : Nat} (hs : Sh a = some (10, 210)) {o : Nat} (ho : o < 10) : jN l D cA N0 1 yX6_late cX6_late 2 (some .int) [.ref a, .int (nI o)] Sh I P L (jD (some (.int (slate (I a) o))) I P L) := jN_of (by decide) (Nat.le_of_ble_eq_true rfl) (fun _ _ _ _ _ _ _ _ C hr => b_X6_late C hr hs ho)
set_option maxHeartbeats 4000000 in
theorem b_X6_whole {p : Program} {l : Launch} {e : Env} {s : State} {m : MethodId} {args : Array Value} {below : List Frame} {meth : Method} {c : Code} {D : va_G} {cA : Nat → ClassId} {N0 : Nat} {Sh : jS} {I : jI} {P : jP} {L : jL} (C : jC p (jRm 2 0 0) s m args meth c D cA N0 cX6_whole 7 RX6 2) (hr : meth.sig.returnType = (some .int)) {a : Nat} (hs : Sh a = some (10, 210)) {o : Nat} (ho : o < 10) {len : Int32} : jJ p l e (jRm 2 0 0) s m args below meth c D cA N0 7 (MQ below (jQn D cA N0 Sh (jD (some (.int (swhole (I a) o len))) I P L)) args s 0 0 (fun q => N0 ≤ q)) (fun _ => True) Sh I P L 0 0 0 [some (.ref a), some (.int (nI o)), some (.int len), none, none, none, none] [] := by
  refine jx_aload_n (pc := 0) C dX6_whole_0 rfl ?_
  refine jx_iload_n (pc := 1) C dX6_whole_1 rfl ?_
  refine jx_iconst (pc := 2) C dX6_whole_2 nc_4 ?_
  refine jx_callD (pc := 3) C (go_X6_43 C  (Nat.le_of_ble_eq_true rfl) dX6_whole_3) (t_X6_by hs (by omega)) (by decide) (by decide) ⟨Nat.zero_le _, Nat.zero_le _⟩ ?_
  refine jx_i2l (pc := 6) C dX6_whole_6 ?_
  refine jx_iload_n (pc := 7) C dX6_whole_7 rfl ?_
  refine jx_i2l (pc := 8) C dX6_whole_8 ?_
  refine jx_lmul (pc := 9) C dX6_whole_9 ?_
  refine jx_lstore_n (pc := 10) C dX6_whole_10 (jsetw_3 jc_i) (by decide) ?_
  refine jx_lload_n (pc := 11) C dX6_whole_11 rfl ?_
  refine jx_aload_n (pc := 12) C dX6_whole_12 rfl ?_
  refine jx_iload_n (pc := 13) C dX6_whole_13 rfl ?_
  refine jx_callD (pc := 14) C (go_X6_54 C  (Nat.le_of_ble_eq_true rfl) dX6_whole_14) (t_X6_late hs ho) (by decide) (by decide) ⟨Nat.zero_le _, Nat.zero_le _⟩ ?_
  refine jx_i2l (pc := 17) C dX6_whole_17 ?_
  refine jx_lmul (pc := 18) C dX6_whole_18 ?_
  refine jx_aload_n (pc := 19) C dX6_whole_19 rfl ?_
  refine jx_iconst (pc := 20) C dX6_whole_20 nc_2 ?_
  refine jx_iald (pc := 21) C hs (by omega) (by decide) dX6_whole_21 ?_
  refine jx_i2l (pc := 22) C dX6_whole_22 ?_
  refine jx_lmul (pc := 23) C dX6_whole_23 ?_
  refine jx_ldc2 (pc := 24) C kk_X6_57 dX6_whole_24 ?_
  refine jx_ldiv (pc := 27) C dX6_whole_27 (by decide) ?_
  refine jx_lstore (pc := 28) C dX6_whole_28 (jsetw_5 jc_n) (by decide) ?_
  refine jx_lload (pc := 30) C dX6_whole_30 rfl ?_
  refine jx_lload_n (pc := 32) C dX6_whole_32 rfl ?_
  refine jx_lcmp (pc := 33) C dX6_whole_33 ?_
  refine jx_if_le (pc := 34) C (tgt := 41) dX6_whole_34 (by decide) (fun c34 => ?_) (fun c34 => ?_)
  · refine jx_lload_n (pc := 41) C dX6_whole_41 rfl ?_
    refine jx_lload (pc := 42) C dX6_whole_42 rfl ?_
    refine jx_lsub (pc := 44) C dX6_whole_44 ?_
    refine jx_l2i (pc := 45) C dX6_whole_45 ?_
    exact jn_iret (pc := 46) C hr (jD_i (by rw [lg_cmp_le] at c34; unfold swhole; first | exact (if_pos c34).symm | exact (if_neg c34).symm)) dX6_whole_46
  · refine jx_iconst (pc := 37) C dX6_whole_37 nc_0 ?_
    refine jx_goto (pc := 38) C (tgt := 46) dX6_whole_38 (by decide) ?_
    exact jn_iret (pc := 46) C hr (jD_i (by rw [lg_cmp_le] at c34; unfold swhole; first | exact (if_pos c34).symm | exact (if_neg c34).symm)) dX6_whole_46
theorem t_X6_whole {l : Launch} {D : va_G} {cA : Nat → ClassId} {N0 : Nat} {Sh : jS} {I : jI} {P : jP} {L : jL} {a : Nat} (hs : Sh a = some (10, 210)) {o : Nat} (ho : o < 10) {len : Int32} : jN l D cA N0 2 yX6_whole cX6_whole 7 (some .int) [.ref a, .int (nI o), .int len] Sh I P L (jD (some (.int (swhole (I a) o len))) I P L) := jN_of (by decide) (Nat.le_of_ble_eq_true rfl) (fun _ _ _ _ _ _ _ _ C hr => b_X6_whole C hr hs ho)
set_option maxHeartbeats 4000000 in
theorem b_X6_isLent {p : Program} {l : Launch} {e : Env} {s : State} {m : MethodId} {args : Array Value} {below : List Frame} {meth : Method} {c : Code} {D : va_G} {cA : Nat → ClassId} {N0 : Nat} {Sh : jS} {I : jI} {P : jP} {L : jL} (C : jC p (jRm 0 0 0) s m args meth c D cA N0 cX6_isLent 3 RX6 0) (hr : meth.sig.returnType = (some .boolean)) {a : Nat} (hs : Sh a = some (10, 210)) {c0 : Nat} (hc : c0 < 4) {g : Int32} : jJ p l e (jRm 0 0 0) s m args below meth c D cA N0 3 (MQ below (jQn D cA N0 Sh (jD (some (.int (bI (decide (I a 1 = nI 1 ∧ g ≤ I a (14 + c0)))))) I P L)) args s 0 0 (fun q => N0 ≤ q)) (fun _ => True) Sh I P L 0 0 0 [some (.ref a), some (.int (nI c0)), some (.int g)] [] := by
  refine jx_aload_n (pc := 0) C dX6_isLent_0 rfl ?_
  refine jx_iconst (pc := 1) C dX6_isLent_1 nc_1 ?_
  refine jx_iald (pc := 2) C hs (by omega) (by decide) dX6_isLent_2 ?_
  refine jx_iconst (pc := 3) C dX6_isLent_3 nc_1 ?_
  refine jx_icmp_ne (pc := 4) C (tgt := 21) dX6_isLent_4 (by decide) (fun c4 => ?_) (fun c4 => ?_)
  · refine jx_iconst (pc := 21) C dX6_isLent_21 nc_0 ?_
    exact jn_zret (pc := 22) C hr (rfl) (jD_i (by first | exact bI_dec ⟨by assumption, i32_nlt.mp (by assumption)⟩ | exact bI_decn (fun h => i32_nlt.mpr h.2 (by assumption)) | exact bI_decn (fun h => absurd h.1 (by assumption)))) dX6_isLent_22
  · refine jx_aload_n (pc := 7) C dX6_isLent_7 rfl ?_
    refine jx_bipush (pc := 8) C dX6_isLent_8 nb_14 ?_
    refine jx_iload_n (pc := 10) C dX6_isLent_10 rfl ?_
    refine jx_iaddN (pc := 11) C dX6_isLent_11 ?_
    refine jx_iald (pc := 12) C hs (by omega) (by decide) dX6_isLent_12 ?_
    refine jx_iload_n (pc := 13) C dX6_isLent_13 rfl ?_
    refine jx_icmp_lt (pc := 14) C (tgt := 21) dX6_isLent_14 (by decide) (fun c14 => ?_) (fun c14 => ?_)
    · refine jx_iconst (pc := 21) C dX6_isLent_21 nc_0 ?_
      exact jn_zret (pc := 22) C hr (rfl) (jD_i (by first | exact bI_dec ⟨by assumption, i32_nlt.mp (by assumption)⟩ | exact bI_decn (fun h => i32_nlt.mpr h.2 (by assumption)) | exact bI_decn (fun h => absurd h.1 (by assumption)))) dX6_isLent_22
    · refine jx_iconst (pc := 17) C dX6_isLent_17 nc_1 ?_
      refine jx_goto (pc := 18) C (tgt := 22) dX6_isLent_18 (by decide) ?_
      exact jn_zret (pc := 22) C hr (rfl) (jD_i (by first | exact bI_dec ⟨by assumption, i32_nlt.mp (by assumption)⟩ | exact bI_decn (fun h => i32_nlt.mpr h.2 (by assumption)) | exact bI_decn (fun h => absurd h.1 (by assumption)))) dX6_isLent_22
theorem t_X6_isLent {l : Launch} {D : va_G} {cA : Nat → ClassId} {N0 : Nat} {Sh : jS} {I : jI} {P : jP} {L : jL} {a : Nat} (hs : Sh a = some (10, 210)) {c0 : Nat} (hc : c0 < 4) {g : Int32} : jN l D cA N0 0 yX6_isLent cX6_isLent 3 (some .boolean) [.ref a, .int (nI c0), .int g] Sh I P L (jD (some (.int (bI (decide (I a 1 = nI 1 ∧ g ≤ I a (14 + c0)))))) I P L) := jN_of (by decide) (Nat.le_of_ble_eq_true rfl) (fun _ _ _ _ _ _ _ _ C hr => b_X6_isLent C hr hs hc)
def sgoN (f : sF) (o n : Nat) : sF := fun k => if 90 + 12 * o ≤ k ∧ k < n then f (k + 12) else upd f 5 (f 5 - nI 1) k
theorem sgoN_0 {f : sF} {o n : Nat} (h : n ≤ 90 + 12 * o) : sgoN f o n = upd f 5 (f 5 - nI 1) := by
  funext k; unfold sgoN; rw [if_neg (by omega)]
theorem sgoN_s {f : sF} {o n : Nat} (h : 90 + 12 * o ≤ n) : upd (sgoN f o n) n (f (n + 12)) = sgoN f o (n + 1) := by
  funext k
  simp only [upd, sgoN]
  by_cases h1 : k = n
  · subst h1; simp [h]
  · by_cases h2 : 90 + 12 * o ≤ k ∧ k < n
    · simp [h1, h2, show k < n + 1 by omega]
    · simp [h1, h2, show ¬ (90 + 12 * o ≤ k ∧ k < n + 1) by omega]
theorem sgoN_e {f : sF} {o n k : Nat} (hk : ¬ k < n) (h5 : k ≠ 5) : sgoN f o n k = f k := by
  unfold sgoN; rw [if_neg (by omega)]; exact if_neg h5
set_option maxHeartbeats 4000000 in
theorem lp_X6_goes {p : Program} {l : Launch} {e : Env} {s : State} {m : MethodId} {args : Array Value} {below : List Frame} {meth : Method} {c : Code} {D : va_G} {cA : Nat → ClassId} {N0 : Nat} {Sh : jS} {I : jI} {P : jP} {L : jL} {Qf : State → Prop} (C : jC p (jRm 0 0 0) s m args meth c D cA N0 cX6_goes 3 RX6 0) {a : Nat} (hs : Sh a = some (10, 210)) {o : Nat} (ho : o < 10) (hm : I a 5 = nI (smany (I a))) (hk : smany (I a) ≤ 10) (ho2 : o < smany (I a)) (hx : jJ p l e (jRm 0 0 0) s m args below meth c D cA N0 3 Qf (fun _ => True) Sh (va_up I a (sgoN (I a) o (90 + 12 * (smany (I a) - 1)))) P L 0 0 43 [some (.ref a), some (.int (nI o)), some (.int (nI (90 + 12 * (smany (I a) - 1))))] []) : ∀ d n, 90 + 12 * o ≤ n → n + d = 90 + 12 * (smany (I a) - 1) → jJ p l e (jRm 0 0 0) s m args below meth c D cA N0 3 Qf (fun _ => True) Sh (va_up I a (sgoN (I a) o n)) P L 0 0 15 [some (.ref a), some (.int (nI o)), some (.int (nI n))] [] := by
  have h5 : ∀ n, va_up I a (sgoN (I a) o n) a 5 = nI (smany (I a) - 1) := fun n => by
    rw [va_up_s]
    unfold sgoN
    rw [if_neg (by omega)]
    simp only [upd, if_true]
    rw [hm, pk_sub (by omega)]
  intro d
  induction d with
  | zero =>
    intro n h1 hn
    obtain rfl : n = 90 + 12 * (smany (I a) - 1) := by omega
    refine jx_iload_n (pc := 15) C dX6_goes_15 rfl ?_
    refine jx_bipush (pc := 16) C dX6_goes_16 nb_90 ?_
    refine jx_bipush (pc := 18) C dX6_goes_18 nb_12 ?_
    refine jx_aload_n (pc := 20) C dX6_goes_20 rfl ?_
    refine jx_iconst (pc := 21) C dX6_goes_21 nc_5 ?_
    refine jx_ialdv (pc := 22) C hs (by omega) (by decide) (h5 _) dX6_goes_22 ?_
    refine jx_imulN (pc := 23) C dX6_goes_23 ?_
    refine jx_iaddN (pc := 24) C dX6_goes_24 ?_
    refine jx_icmp_ge (pc := 25) C (tgt := 43) dX6_goes_25 (by decide) (fun c25 => ?_) (fun c25 => (by rw [nI_leI (by omega) (by omega)] at c25; exfalso; omega))
    rw [nI_leI (by omega) (by omega)] at c25
    exact hx
  | succ d ih =>
    intro n h1 hn
    have h12 : va_up I a (sgoN (I a) o n) a (n + 12) = I a (n + 12) := by rw [va_up_s]; exact sgoN_e (by omega) (by omega)
    refine jx_iload_n (pc := 15) C dX6_goes_15 rfl ?_
    refine jx_bipush (pc := 16) C dX6_goes_16 nb_90 ?_
    refine jx_bipush (pc := 18) C dX6_goes_18 nb_12 ?_
    refine jx_aload_n (pc := 20) C dX6_goes_20 rfl ?_
    refine jx_iconst (pc := 21) C dX6_goes_21 nc_5 ?_
    refine jx_ialdv (pc := 22) C hs (by omega) (by decide) (h5 _) dX6_goes_22 ?_
    refine jx_imulN (pc := 23) C dX6_goes_23 ?_
    refine jx_iaddN (pc := 24) C dX6_goes_24 ?_
    refine jx_icmp_ge (pc := 25) C (tgt := 43) dX6_goes_25 (by decide) (fun c25 => (by rw [nI_leI (by omega) (by omega)] at c25; exfalso; omega)) (fun c25 => ?_)
    rw [nI_leI (by omega) (by omega)] at c25
    refine jx_aload_n (pc := 28) C dX6_goes_28 rfl ?_
    refine jx_iload_n (pc := 29) C dX6_goes_29 rfl ?_
    refine jx_aload_n (pc := 30) C dX6_goes_30 rfl ?_
    refine jx_iload_n (pc := 31) C dX6_goes_31 rfl ?_
    refine jx_bipush (pc := 32) C dX6_goes_32 nb_12 ?_
    refine jx_iaddN (pc := 34) C dX6_goes_34 ?_
    refine jx_ialdv (pc := 35) C hs (by omega) (by decide) h12 dX6_goes_35 ?_
    refine jx_iast (pc := 36) C hs (by omega) (by decide) dX6_goes_36 ?_
    rw [jst_up, sgoN_s h1]
    refine jx_iincN (pc := 37) C dX6_goes_37 rfl (jset_2 jc_i) (by decide) ?_
    refine jx_goto (pc := 40) C (tgt := 15) dX6_goes_40 (by decide) ?_
    exact ih (n + 1) (by omega) (by omega)
set_option maxHeartbeats 4000000 in
theorem b_X6_goes {p : Program} {l : Launch} {e : Env} {s : State} {m : MethodId} {args : Array Value} {below : List Frame} {meth : Method} {c : Code} {D : va_G} {cA : Nat → ClassId} {N0 : Nat} {Sh : jS} {I : jI} {P : jP} {L : jL} (C : jC p (jRm 0 0 0) s m args meth c D cA N0 cX6_goes 3 RX6 0) (hr : meth.sig.returnType = none) {a : Nat} (hs : Sh a = some (10, 210)) {o : Nat} (ho : o < 10) (hm : I a 5 = nI (smany (I a))) (hk : smany (I a) ≤ 10) (ho2 : o < smany (I a)) : jJ p l e (jRm 0 0 0) s m args below meth c D cA N0 3 (MQ below (jQn D cA N0 Sh (jD none (va_up I a (sgoes (I a) o)) P L)) args s 0 0 (fun q => N0 ≤ q)) (fun _ => True) Sh I P L 0 0 0 [some (.ref a), some (.int (nI o)), none] [] := by
  refine jx_aload_n (pc := 0) C dX6_goes_0 rfl ?_
  refine jx_iconst (pc := 1) C dX6_goes_1 nc_5 ?_
  refine jx_dup2_11 (pc := 2) C dX6_goes_2 rfl rfl ?_
  refine jx_iald (pc := 3) C hs (by omega) (by decide) dX6_goes_3 ?_
  refine jx_iconst (pc := 4) C dX6_goes_4 nc_1 ?_
  refine jx_isub (pc := 5) C dX6_goes_5 ?_
  refine jx_iast (pc := 6) C hs (by omega) (by decide) dX6_goes_6 ?_
  refine jx_bipush (pc := 7) C dX6_goes_7 nb_90 ?_
  refine jx_bipush (pc := 9) C dX6_goes_9 nb_12 ?_
  refine jx_iload_n (pc := 11) C dX6_goes_11 rfl ?_
  refine jx_imulN (pc := 12) C dX6_goes_12 ?_
  refine jx_iaddN (pc := 13) C dX6_goes_13 ?_
  refine jx_istore_n (pc := 14) C dX6_goes_14 (jset_2 jc_i) (by decide) ?_
  rw [show jst I a 5 (I a 5 - nI 1) = va_up I a (sgoN (I a) o (90 + 12 * o)) by rw [sgoN_0 (Nat.le_refl _)]; rfl]
  refine lp_X6_goes C hs ho hm hk ho2 ?_ _ _ (Nat.le_refl _) (show 90 + 12 * o + 12 * (smany (I a) - 1 - o) = _ by omega)
  exact jn_vret (pc := 43) C hr (jD_r) dX6_goes_43
theorem t_X6_goes {l : Launch} {D : va_G} {cA : Nat → ClassId} {N0 : Nat} {Sh : jS} {I : jI} {P : jP} {L : jL} {a : Nat} (hs : Sh a = some (10, 210)) {o : Nat} (ho : o < 10) (hm : I a 5 = nI (smany (I a))) (hk : smany (I a) ≤ 10) (ho2 : o < smany (I a)) : jN l D cA N0 0 yX6_goes cX6_goes 3 none [.ref a, .int (nI o)] Sh I P L (jD none (va_up I a (sgoes (I a) o)) P L) := jN_of (by decide) (Nat.le_of_ble_eq_true rfl) (fun _ _ _ _ _ _ _ _ C hr => b_X6_goes C hr hs ho hm hk ho2)
set_option maxHeartbeats 4000000 in
theorem b_X6_takes {p : Program} {l : Launch} {e : Env} {s : State} {m : MethodId} {args : Array Value} {below : List Frame} {meth : Method} {c : Code} {D : va_G} {cA : Nat → ClassId} {N0 : Nat} {Sh : jS} {I : jI} {P : jP} {L : jL} (C : jC p (jRm 2 0 0) s m args meth c D cA N0 cX6_takes 6 RX6 2) (hr : meth.sig.returnType = (some .boolean)) {a : Nat} (hs : Sh a = some (10, 210)) {o : Nat} (ho : o < 10) {w : Nat} (hw : w < 6) (hc : I a (90 + 12 * o + 1) = nI (scol (I a) o)) (hc4 : scol (I a) o < 4) : jJ p l e (jRm 2 0 0) s m args below meth c D cA N0 6 (MQ below (jQn D cA N0 Sh (jD (some (.int (bI (stake (I a) w o).isSome))) (va_up I a ((stake (I a) w o).getD (I a))) P L)) args s 0 0 (fun q => N0 ≤ q)) (fun _ => True) Sh I P L 0 0 0 [some (.ref a), some (.int (nI w)), some (.int (nI o)), none, none, none] [] := by
  refine jx_aload_n (pc := 0) C dX6_takes_0 rfl ?_
  refine jx_iload_n (pc := 1) C dX6_takes_1 rfl ?_
  refine jx_iconst (pc := 2) C dX6_takes_2 nc_1 ?_
  refine jx_callD (pc := 3) C (go_X6_43 C  (Nat.le_of_ble_eq_true rfl) dX6_takes_3) (t_X6_by hs (by omega)) (by decide) (by decide) ⟨Nat.zero_le _, Nat.zero_le _⟩ ?_
  rw [hc]
  refine jx_istore_n (pc := 6) C dX6_takes_6 (jset_3 jc_i) (by decide) ?_
  refine jx_aload_n (pc := 7) C dX6_takes_7 rfl ?_
  refine jx_iload_n (pc := 8) C dX6_takes_8 rfl ?_
  refine jx_callD (pc := 9) C (go_X6_73 C  (Nat.le_of_ble_eq_true rfl) dX6_takes_9) (t_X6_grams hs ho) (by decide) (by decide) ⟨Nat.zero_le _, Nat.zero_le _⟩ ?_
  refine jx_istore (pc := 12) C dX6_takes_12 (jset_4 jc_i) (by decide) ?_
  refine jx_aload_n (pc := 14) C dX6_takes_14 rfl ?_
  refine jx_iload_n (pc := 15) C dX6_takes_15 rfl ?_
  refine jx_bipush (pc := 16) C dX6_takes_16 nb_8 ?_
  refine jx_iload_n (pc := 18) C dX6_takes_18 rfl ?_
  refine jx_iaddN (pc := 19) C dX6_takes_19 ?_
  refine jx_callD (pc := 20) C (go_X6_47 C  (Nat.le_of_ble_eq_true rfl) dX6_takes_20) (t_X6_of hs (by omega)) (by decide) (by decide) ⟨Nat.zero_le _, Nat.zero_le _⟩ ?_
  refine jx_iload (pc := 23) C dX6_takes_23 rfl ?_
  refine jx_icmp_lt (pc := 25) C (tgt := 32) dX6_takes_25 (by decide) (fun c25 => ?_) (fun c25 => ?_)
  · refine jx_iconst (pc := 32) C dX6_takes_32 nc_0 ?_
    refine jx_istore (pc := 33) C dX6_takes_33 (jset_5 jc_i) (by decide) ?_
    refine jx_iload (pc := 35) C dX6_takes_35 rfl ?_
    refine jx_if_ne (pc := 37) C (tgt := 52) dX6_takes_37 (by decide) (fun c37 => (by exfalso; revert c37; decide)) (fun c37 => ?_)
    refine jx_aload_n (pc := 40) C dX6_takes_40 rfl ?_
    refine jx_iload_n (pc := 41) C dX6_takes_41 rfl ?_
    refine jx_iload (pc := 42) C dX6_takes_42 rfl ?_
    refine jx_callD (pc := 44) C (go_X6_76 C  (Nat.le_of_ble_eq_true rfl) dX6_takes_44) (t_X6_isLent hs hc4) (by decide) (by decide) ⟨Nat.zero_le _, Nat.zero_le _⟩ ?_
    refine jx_if_ne (pc := 47) C (tgt := 52) dX6_takes_47 (by decide) (fun c47 => ?_) (fun c47 => ?_)
    · refine jx_iload (pc := 52) C dX6_takes_52 rfl ?_
      refine jx_if_eq (pc := 54) C (tgt := 72) dX6_takes_54 (by decide) (fun c54 => ?_) (fun c54 => (by exfalso; revert c54; decide))
      rw [bI_0, decide_eq_false_iff_not, Decidable.not_not] at c47
      have h0 := (show stake (I a) w o = _ from if_neg (i32_nle.mpr c25)).trans (if_pos c47)
      refine jx_aload_n (pc := 72) C dX6_takes_72 rfl ?_
      refine jx_bipush (pc := 73) C dX6_takes_73 nb_14 ?_
      refine jx_iload_n (pc := 75) C dX6_takes_75 rfl ?_
      refine jx_iaddN (pc := 76) C dX6_takes_76 ?_
      refine jx_dup2_11 (pc := 77) C dX6_takes_77 rfl rfl ?_
      refine jx_iald (pc := 78) C hs (by omega) (by decide) dX6_takes_78 ?_
      refine jx_iload (pc := 79) C dX6_takes_79 rfl ?_
      refine jx_isub (pc := 81) C dX6_takes_81 ?_
      refine jx_iast (pc := 82) C hs (by omega) (by decide) dX6_takes_82 ?_
      refine jx_aload_n (pc := 83) C dX6_takes_83 rfl ?_
      refine jx_iload_n (pc := 84) C dX6_takes_84 rfl ?_
      refine jx_iconst (pc := 85) C dX6_takes_85 nc_3 ?_
      refine jx_iload (pc := 86) C dX6_takes_86 rfl ?_
      refine jx_callDv (pc := 88) C (go_X6_66 C  (Nat.le_of_ble_eq_true rfl) dX6_takes_88) (t_X6_adds hs (by omega)) (by decide) (by decide) ⟨Nat.zero_le _, Nat.zero_le _⟩ ?_
      refine jx_aload_n (pc := 91) C dX6_takes_91 rfl ?_
      refine jx_iload_n (pc := 92) C dX6_takes_92 rfl ?_
      refine jx_bipush (pc := 93) C dX6_takes_93 nb_7 ?_
      refine jx_iload (pc := 95) C dX6_takes_95 rfl ?_
      refine jx_callDv (pc := 97) C (go_X6_66 C  (Nat.le_of_ble_eq_true rfl) dX6_takes_97) (t_X6_adds hs (by omega)) (by decide) (by decide) ⟨Nat.zero_le _, Nat.zero_le _⟩ ?_
      refine jx_aload_n (pc := 100) C dX6_takes_100 rfl ?_
      refine jx_bipush (pc := 101) C dX6_takes_101 nb_12 ?_
      refine jx_dup2_11 (pc := 103) C dX6_takes_103 rfl rfl ?_
      refine jx_iald (pc := 104) C hs (by omega) (by decide) dX6_takes_104 ?_
      refine jx_iload (pc := 105) C dX6_takes_105 rfl ?_
      refine jx_iadd (pc := 107) C dX6_takes_107 ?_
      refine jx_iast (pc := 108) C hs (by omega) (by decide) dX6_takes_108 ?_
      refine jx_iconst (pc := 109) C dX6_takes_109 nc_1 ?_
      exact jn_zret (pc := 110) C hr (rfl) (by
        refine jD_of (by rw [h0]; rfl) ?_ rfl rfl
        rw [h0]
        simp only [jst, va_up_s, va_up_u]
        try rfl) dX6_takes_110
    · rw [bI_0, decide_eq_false_iff_not] at c47
      have h0 : stake (I a) w o = none := by unfold stake; rw [if_neg (i32_nle.mpr c25), if_neg c47]
      refine jx_iconst (pc := 50) C dX6_takes_50 nc_0 ?_
      exact jn_zret (pc := 51) C hr (rfl) (jD_of (by rw [h0]; rfl) (by rw [h0]; exact va_up_id.symm) rfl rfl) dX6_takes_51
  · refine jx_iconst (pc := 28) C dX6_takes_28 nc_1 ?_
    refine jx_goto (pc := 29) C (tgt := 33) dX6_takes_29 (by decide) ?_
    refine jx_istore (pc := 33) C dX6_takes_33 (jset_5 jc_i) (by decide) ?_
    refine jx_iload (pc := 35) C dX6_takes_35 rfl ?_
    refine jx_if_ne (pc := 37) C (tgt := 52) dX6_takes_37 (by decide) (fun c37 => ?_) (fun c37 => (by exfalso; revert c37; decide))
    refine jx_iload (pc := 52) C dX6_takes_52 rfl ?_
    refine jx_if_eq (pc := 54) C (tgt := 72) dX6_takes_54 (by decide) (fun c54 => (by exfalso; revert c54; decide)) (fun c54 => ?_)
    have h0 := show stake (I a) w o = _ from if_pos (i32_nlt.mp c25)
    refine jx_aload_n (pc := 57) C dX6_takes_57 rfl ?_
    refine jx_iload_n (pc := 58) C dX6_takes_58 rfl ?_
    refine jx_bipush (pc := 59) C dX6_takes_59 nb_8 ?_
    refine jx_iload_n (pc := 61) C dX6_takes_61 rfl ?_
    refine jx_iaddN (pc := 62) C dX6_takes_62 ?_
    refine jx_iload (pc := 63) C dX6_takes_63 rfl ?_
    refine jx_ineg (pc := 65) C dX6_takes_65 ?_
    refine jx_callDv (pc := 66) C (go_X6_66 C  (Nat.le_of_ble_eq_true rfl) dX6_takes_66) (t_X6_adds hs (by omega)) (by decide) (by decide) ⟨Nat.zero_le _, Nat.zero_le _⟩ ?_
    refine jx_goto (pc := 69) C (tgt := 100) dX6_takes_69 (by decide) ?_
    refine jx_aload_n (pc := 100) C dX6_takes_100 rfl ?_
    refine jx_bipush (pc := 101) C dX6_takes_101 nb_12 ?_
    refine jx_dup2_11 (pc := 103) C dX6_takes_103 rfl rfl ?_
    refine jx_iald (pc := 104) C hs (by omega) (by decide) dX6_takes_104 ?_
    refine jx_iload (pc := 105) C dX6_takes_105 rfl ?_
    refine jx_iadd (pc := 107) C dX6_takes_107 ?_
    refine jx_iast (pc := 108) C hs (by omega) (by decide) dX6_takes_108 ?_
    refine jx_iconst (pc := 109) C dX6_takes_109 nc_1 ?_
    exact jn_zret (pc := 110) C hr (rfl) (by
      refine jD_of (by rw [h0]; rfl) ?_ rfl rfl
      rw [h0]
      simp only [jst, va_up_s, va_up_u]
      try rfl) dX6_takes_110
theorem t_X6_takes {l : Launch} {D : va_G} {cA : Nat → ClassId} {N0 : Nat} {Sh : jS} {I : jI} {P : jP} {L : jL} {a : Nat} (hs : Sh a = some (10, 210)) {o : Nat} (ho : o < 10) {w : Nat} (hw : w < 6) (hc : I a (90 + 12 * o + 1) = nI (scol (I a) o)) (hc4 : scol (I a) o < 4) : jN l D cA N0 2 yX6_takes cX6_takes 6 (some .boolean) [.ref a, .int (nI w), .int (nI o)] Sh I P L (jD (some (.int (bI (stake (I a) w o).isSome))) (va_up I a ((stake (I a) w o).getD (I a))) P L) := jN_of (by decide) (Nat.le_of_ble_eq_true rfl) (fun _ _ _ _ _ _ _ _ C hr => b_X6_takes C hr hs ho hw hc hc4)
set_option maxHeartbeats 4000000 in
theorem b_X6_makes {p : Program} {l : Launch} {e : Env} {s : State} {m : MethodId} {args : Array Value} {below : List Frame} {meth : Method} {c : Code} {D : va_G} {cA : Nat → ClassId} {N0 : Nat} {Sh : jS} {I : jI} {P : jP} {L : jL} (C : jC p (jRm 1 0 0) s m args meth c D cA N0 cX6_makes 3 RX6 1) (hr : meth.sig.returnType = none) {a : Nat} (hs : Sh a = some (10, 210)) {o : Nat} (ho : o < 10) {w : Nat} (hw : w < 6) : jJ p l e (jRm 1 0 0) s m args below meth c D cA N0 3 (MQ below (jQn D cA N0 Sh (jD none (va_up I a (smake (I a) w o)) P L)) args s 0 0 (fun q => N0 ≤ q)) (fun _ => True) Sh I P L 0 0 0 [some (.ref a), some (.int (nI w)), some (.int (nI o))] [] := by
  refine jx_aload_n (pc := 0) C dX6_makes_0 rfl ?_
  refine jx_iload_n (pc := 1) C dX6_makes_1 rfl ?_
  refine jx_iconst (pc := 2) C dX6_makes_2 nc_5 ?_
  refine jx_iconst (pc := 3) C dX6_makes_3 nc_1 ?_
  refine jx_callDv (pc := 4) C (go_X6_66 C  (Nat.le_of_ble_eq_true rfl) dX6_makes_4) (t_X6_adds hs (by omega)) (by decide) (by decide) ⟨Nat.zero_le _, Nat.zero_le _⟩ ?_
  refine jx_aload_n (pc := 7) C dX6_makes_7 rfl ?_
  refine jx_bipush (pc := 8) C dX6_makes_8 nb_10 ?_
  refine jx_dup2_11 (pc := 10) C dX6_makes_10 rfl rfl ?_
  refine jx_iald (pc := 11) C hs (by omega) (by decide) dX6_makes_11 ?_
  refine jx_iconst (pc := 12) C dX6_makes_12 nc_1 ?_
  refine jx_iadd (pc := 13) C dX6_makes_13 ?_
  refine jx_iast (pc := 14) C hs (by omega) (by decide) dX6_makes_14 ?_
  refine jx_aload_n (pc := 15) C dX6_makes_15 rfl ?_
  refine jx_iload_n (pc := 16) C dX6_makes_16 rfl ?_
  refine jx_iconst (pc := 17) C dX6_makes_17 nc_2 ?_
  refine jx_callD (pc := 18) C (go_X6_47 C  (Nat.le_of_ble_eq_true rfl) dX6_makes_18) (t_X6_of hs (by omega)) (by decide) (by decide) ⟨Nat.zero_le _, Nat.zero_le _⟩ ?_
  refine jx_if_le (pc := 21) C (tgt := 59) dX6_makes_21 (by decide) (fun c21 => ?_) (fun c21 => ?_)
  · refine jx_aload_n (pc := 59) C dX6_makes_59 rfl ?_
    refine jx_bipush (pc := 60) C dX6_makes_60 nb_90 ?_
    refine jx_bipush (pc := 62) C dX6_makes_62 nb_12 ?_
    refine jx_iload_n (pc := 64) C dX6_makes_64 rfl ?_
    refine jx_imulN (pc := 65) C dX6_makes_65 ?_
    refine jx_iaddN (pc := 66) C dX6_makes_66 ?_
    refine jx_bipush (pc := 67) C dX6_makes_67 nb_6 ?_
    refine jx_iaddN (pc := 69) C dX6_makes_69 ?_
    refine jx_iload_n (pc := 70) C dX6_makes_70 rfl ?_
    refine jx_iaddN (pc := 71) C dX6_makes_71 ?_
    refine jx_dup2_11 (pc := 72) C dX6_makes_72 rfl rfl ?_
    refine jx_iald (pc := 73) C hs (by omega) (by decide) dX6_makes_73 ?_
    refine jx_iconst (pc := 74) C dX6_makes_74 nc_1 ?_
    refine jx_iadd (pc := 75) C dX6_makes_75 ?_
    refine jx_iast (pc := 76) C hs (by omega) (by decide) dX6_makes_76 ?_
    exact jn_vret (pc := 77) C hr (by
      refine jD_of rfl ?_ rfl rfl
      simp only [jst, va_up_s, va_up_u] at *
      first
        | exact congrArg (va_up I a) (if_pos (by first | exact ⟨i32_nle.mp c21, c37⟩)).symm
        | exact congrArg (va_up I a) (if_neg (fun h => by first | exact i32_nle.mpr h.1 c21 | exact c37 h.2)).symm) dX6_makes_77
  · refine jx_aload_n (pc := 24) C dX6_makes_24 rfl ?_
    refine jx_iload_n (pc := 25) C dX6_makes_25 rfl ?_
    refine jx_iconst (pc := 26) C dX6_makes_26 nc_5 ?_
    refine jx_callD (pc := 27) C (go_X6_47 C  (Nat.le_of_ble_eq_true rfl) dX6_makes_27) (t_X6_of hs (by omega)) (by decide) (by decide) ⟨Nat.zero_le _, Nat.zero_le _⟩ ?_
    refine jx_aload_n (pc := 30) C dX6_makes_30 rfl ?_
    refine jx_iload_n (pc := 31) C dX6_makes_31 rfl ?_
    refine jx_iconst (pc := 32) C dX6_makes_32 nc_2 ?_
    refine jx_callD (pc := 33) C (go_X6_47 C  (Nat.le_of_ble_eq_true rfl) dX6_makes_33) (t_X6_of hs (by omega)) (by decide) (by decide) ⟨Nat.zero_le _, Nat.zero_le _⟩ ?_
    refine jx_irem (pc := 36) C dX6_makes_36 (fun h => c21 (by rw [h]; decide)) ?_
    refine jx_if_ne (pc := 37) C (tgt := 59) dX6_makes_37 (by decide) (fun c37 => ?_) (fun c37 => ?_)
    · refine jx_aload_n (pc := 59) C dX6_makes_59 rfl ?_
      refine jx_bipush (pc := 60) C dX6_makes_60 nb_90 ?_
      refine jx_bipush (pc := 62) C dX6_makes_62 nb_12 ?_
      refine jx_iload_n (pc := 64) C dX6_makes_64 rfl ?_
      refine jx_imulN (pc := 65) C dX6_makes_65 ?_
      refine jx_iaddN (pc := 66) C dX6_makes_66 ?_
      refine jx_bipush (pc := 67) C dX6_makes_67 nb_6 ?_
      refine jx_iaddN (pc := 69) C dX6_makes_69 ?_
      refine jx_iload_n (pc := 70) C dX6_makes_70 rfl ?_
      refine jx_iaddN (pc := 71) C dX6_makes_71 ?_
      refine jx_dup2_11 (pc := 72) C dX6_makes_72 rfl rfl ?_
      refine jx_iald (pc := 73) C hs (by omega) (by decide) dX6_makes_73 ?_
      refine jx_iconst (pc := 74) C dX6_makes_74 nc_1 ?_
      refine jx_iadd (pc := 75) C dX6_makes_75 ?_
      refine jx_iast (pc := 76) C hs (by omega) (by decide) dX6_makes_76 ?_
      exact jn_vret (pc := 77) C hr (by
        refine jD_of rfl ?_ rfl rfl
        simp only [jst, va_up_s, va_up_u] at *
        first
          | exact congrArg (va_up I a) (if_pos (by first | exact ⟨i32_nle.mp c21, c37⟩)).symm
          | exact congrArg (va_up I a) (if_neg (fun h => by first | exact i32_nle.mpr h.1 c21 | exact c37 h.2)).symm) dX6_makes_77
    · refine jx_aload_n (pc := 40) C dX6_makes_40 rfl ?_
      refine jx_iload_n (pc := 41) C dX6_makes_41 rfl ?_
      refine jx_bipush (pc := 42) C dX6_makes_42 nb_6 ?_
      refine jx_iconst (pc := 44) C dX6_makes_44 nc_1 ?_
      refine jx_callDv (pc := 45) C (go_X6_66 C  (Nat.le_of_ble_eq_true rfl) dX6_makes_45) (t_X6_adds hs (by omega)) (by decide) (by decide) ⟨Nat.zero_le _, Nat.zero_le _⟩ ?_
      refine jx_aload_n (pc := 48) C dX6_makes_48 rfl ?_
      refine jx_bipush (pc := 49) C dX6_makes_49 nb_11 ?_
      refine jx_dup2_11 (pc := 51) C dX6_makes_51 rfl rfl ?_
      refine jx_iald (pc := 52) C hs (by omega) (by decide) dX6_makes_52 ?_
      refine jx_iconst (pc := 53) C dX6_makes_53 nc_1 ?_
      refine jx_iadd (pc := 54) C dX6_makes_54 ?_
      refine jx_iast (pc := 55) C hs (by omega) (by decide) dX6_makes_55 ?_
      refine jx_goto (pc := 56) C (tgt := 77) dX6_makes_56 (by decide) ?_
      exact jn_vret (pc := 77) C hr (by
        refine jD_of rfl ?_ rfl rfl
        simp only [jst, va_up_s, va_up_u] at *
        first
          | exact congrArg (va_up I a) (if_pos (by first | exact ⟨i32_nle.mp c21, c37⟩)).symm
          | exact congrArg (va_up I a) (if_neg (fun h => by first | exact i32_nle.mpr h.1 c21 | exact c37 h.2)).symm) dX6_makes_77
theorem t_X6_makes {l : Launch} {D : va_G} {cA : Nat → ClassId} {N0 : Nat} {Sh : jS} {I : jI} {P : jP} {L : jL} {a : Nat} (hs : Sh a = some (10, 210)) {o : Nat} (ho : o < 10) {w : Nat} (hw : w < 6) : jN l D cA N0 1 yX6_makes cX6_makes 3 none [.ref a, .int (nI w), .int (nI o)] Sh I P L (jD none (va_up I a (smake (I a) w o)) P L) := jN_of (by decide) (Nat.le_of_ble_eq_true rfl) (fun _ _ _ _ _ _ _ _ C hr => b_X6_makes C hr hs ho hw)
