set_option maxHeartbeats 4000000 in
theorem b_X5_counted {p : Program} {l : Launch} {e : Env} {s : State} {m : MethodId} {args : Array Value} {below : List Frame} {meth : Method} {c : Code} {D : va_G} {cA : Nat → ClassId} {N0 : Nat} {Sh : jS} {I : jI} {P : jP} {L : jL} (C : jC p (jRm 3 0 0) s m args meth c D cA N0 cX5_counted 2 RX5 3) (hr : meth.sig.returnType = (some .int)) {y : Nat} (S : cS Sh y) (T : cP P y) {f : sF} (M : cM I P y f) (V : sI f) {kq : Int32} (hq : I y 6 = kq) {k : Nat} (hk : k < 12) : jJ p l e (jRm 3 0 0) s m args below meth c D cA N0 2 (MQ below (jQn D cA N0 Sh (jD (some (.int (scounted f kq k))) I P L)) args s 0 0 (fun q => N0 ≤ q)) (fun _ => True) Sh I P L 0 0 0 [some (.ref y), some (.int (nI k))] [] := by
  obtain ⟨og, H, G⟩ := M
  by_cases h11 : k = 11
  · subst h11
    refine jx_iload_n (pc := 0) C dX5_counted_0 rfl ?_
    refine jx_bipush (pc := 1) C dX5_counted_1 nb_11 ?_
    refine jx_icmp_ne (pc := 3) C (tgt := 13) dX5_counted_3 (by decide) (fun c3 => (by rw [nI_eq (by omega) (by omega)] at c3; exfalso; omega)) (fun c3 => ?_)
    rw [nI_eq (by omega) (by omega)] at c3
    refine jx_aload_n (pc := 6) C dX5_counted_6 rfl ?_
    refine jx_getIv (pc := 7) C kf_X5_180 rfl S.obj hq dX5_counted_7 ?_
    refine jx_goto (pc := 10) C (tgt := 21) dX5_counted_10 (by decide) ?_
    exact jn_iret (pc := 21) C hr (jD_i rfl) dX5_counted_21
  · refine jx_iload_n (pc := 0) C dX5_counted_0 rfl ?_
    refine jx_bipush (pc := 1) C dX5_counted_1 nb_11 ?_
    refine jx_icmp_ne (pc := 3) C (tgt := 13) dX5_counted_3 (by decide) (fun c3 => ?_) (fun c3 => (by rw [nI_eq (by omega) (by omega)] at c3; exfalso; omega))
    rw [nI_eq (by omega) (by omega)] at c3
    refine jx_aload_n (pc := 13) C dX5_counted_13 rfl ?_
    refine jx_getP (pc := 14) C kf_X5_10 rfl S.obj T.hall dX5_counted_14 ?_
    refine jx_iload_n (pc := 17) C dX5_counted_17 rfl ?_
    refine jx_callD (pc := 18) C (go_X5_281 C S.h.hall (Nat.le_of_ble_eq_true rfl) dX5_counted_18) (t_X0_number S.h T.h G H V (by omega) (kept := kq)) (by decide) (by decide) ⟨Nat.zero_le _, Nat.zero_le _⟩ ?_
    exact jn_iret (pc := 21) C hr (jD_r) dX5_counted_21
theorem t_X5_counted {l : Launch} {D : va_G} {cA : Nat → ClassId} {N0 : Nat} {Sh : jS} {I : jI} {P : jP} {L : jL} {y : Nat} (S : cS Sh y) (T : cP P y) {f : sF} (M : cM I P y f) (V : sI f) {kq : Int32} (hq : I y 6 = kq) {k : Nat} (hk : k < 12) : jN l D cA N0 3 yX5_counted cX5_counted 2 (some .int) [.ref y, .int (nI k)] Sh I P L (jD (some (.int (scounted f kq k))) I P L) := jN_of (by decide) (Nat.le_of_ble_eq_true rfl) (fun _ _ _ _ _ _ _ _ C hr => b_X5_counted C hr S T M V hq hk)
def snum (f g : sF) : Prop := smany g = smany f ∧ ∀ o, g (90 + 12 * o + 0) = f (90 + 12 * o + 0)
theorem snum.tr {f g h : sF} (a : snum f g) (b : snum g h) : snum f h := ⟨b.1.trans a.1, fun o => (b.2 o).trans (a.2 o)⟩
