set_option maxHeartbeats 4000000 in
theorem lp_law_sw {p : Program} {l : Launch} {e : Env} {s : State} {m : MethodId} {args : Array Value} {below : List Frame} {meth : Method} {c : Code} {D : va_G} {cA : Nat → ClassId} {N0 : Nat} {Sh : jS} {Qf : State → Prop} (C : jC p room_1 s m args meth c D cA N0 cL_law 9 RL 10) (hnc : jNc s) (hst : l.stackTraces = false) {b Ls : Nat} {xs : Nat → Int32} (hX : va_X b Ls xs s s.heap) (hbl : b < s.heap.size) (hbN : b < N0) (hLs : Ls ≤ 3072) {y x o : Nat} (S : cS Sh y) (hS6 : mS Sh x) (hO : Sh o = some (11, 1)) (hyx : y + 366 ≤ x) (hend : ∀ (I : jI) (P : jP) (L : jL) (k n : Nat) (ls : List (Option Value)), k ≤ 601277 → n ≤ 7292274 → jJ p l e room_1 s m args below meth c D cA N0 9 Qf (fun _ => True) Sh I P L k n 1707 ls []) {I : jI} {P : jP} {L : jL} {k n i j : Nat} (hi : 6 * i + 6 ≤ Ls) (hk : k + 1 ≤ room_1.cells) (hn : n + 6 ≤ room_1.slots) (inv : lI i I P y x) (hj : j < 32) (hx : ∀ (I' : jI) (P' : jP) (L' : jL), lI (i + 1) I' P' y x → jJ p l e room_1 s m args below meth c D cA N0 9 Qf (fun _ => True) Sh I' P' L' (k + 1) (n + 6) 1701 [some (.ref b), some (.ref y), some (.ref x), some (.ref o), some (.int (nI (6 * i))), none, none, none, none] []) : jJ p l e room_1 s m args below meth c D cA N0 9 Qf (fun _ => True) Sh I P L k n 40 [some (.ref b), some (.ref y), some (.ref x), some (.ref o), some (.int (nI (6 * i))), none, none, none, none] [.int (nI j)] := by
  rcases (by omega : j = 0 ∨ j = 1 ∨ j = 2 ∨ j = 3 ∨ j = 4 ∨ j = 5 ∨ j = 6 ∨ j = 7 ∨ j = 8 ∨ j = 9 ∨ j = 10 ∨ j = 11 ∨ j = 12 ∨ j = 13 ∨ j = 14 ∨ j = 15 ∨ j = 16 ∨ j = 17 ∨ j = 18 ∨ j = 19 ∨ j = 20 ∨ j = 21 ∨ j = 22 ∨ j = 23 ∨ j = 24 ∨ j = 25 ∨ 26 ≤ j) with rfl | rfl | rfl | rfl | rfl | rfl | rfl | rfl | rfl | rfl | rfl | rfl | rfl | rfl | rfl | rfl | rfl | rfl | rfl | rfl | rfl | rfl | rfl | rfl | rfl | rfl | hge
  · exact jx_tableIn (pc := 40) C (off := 120) (tgt := 160) dL_law_40 (by decide) (by decide) rfl (by decide) (lp_law_0 C hnc hst hX hbl hbN hLs S hS6 hO hyx hi hk hn inv hx)
  · exact jx_tableIn (pc := 40) C (off := 212) (tgt := 252) dL_law_40 (by decide) (by decide) rfl (by decide) (lp_law_1 C hnc hst hX hbl hbN hLs S hS6 hO hyx hi hk hn inv hx)
  · exact jx_tableIn (pc := 40) C (off := 292) (tgt := 332) dL_law_40 (by decide) (by decide) rfl (by decide) (lp_law_2 C hnc hst hX hbl hbN hLs S hS6 hO hyx hi hk hn inv hx)
  · exact jx_tableIn (pc := 40) C (off := 360) (tgt := 400) dL_law_40 (by decide) (by decide) rfl (by decide) (lp_law_3 C hnc hst hX hbl hbN hLs S hS6 hO hyx hi hk hn inv hx)
  · exact jx_tableIn (pc := 40) C (off := 452) (tgt := 492) dL_law_40 (by decide) (by decide) rfl (by decide) (lp_law_4 C hnc hst hX hbl hbN hLs S hS6 hO hyx hi hk hn inv hx)
  · exact jx_tableIn (pc := 40) C (off := 556) (tgt := 596) dL_law_40 (by decide) (by decide) rfl (by decide) (lp_law_5 C hnc hst hX hbl hbN hLs S hS6 hO hyx hi hk hn inv hx)
  · exact jx_tableIn (pc := 40) C (off := 612) (tgt := 652) dL_law_40 (by decide) (by decide) rfl (by decide) (lp_law_6 C hnc hst hX hbl hbN hLs S hS6 hO hyx hi hk hn inv hx)
  · exact jx_tableIn (pc := 40) C (off := 680) (tgt := 720) dL_law_40 (by decide) (by decide) rfl (by decide) (lp_law_7 C hnc hst hX hbl hbN hLs S hS6 hO hyx hi hk hn inv hx)
  · exact jx_tableIn (pc := 40) C (off := 736) (tgt := 776) dL_law_40 (by decide) (by decide) rfl (by decide) (lp_law_8 C hnc hst hX hbl hbN hLs S hS6 hO hyx hi hk hn inv hx)
  · exact jx_tableIn (pc := 40) C (off := 792) (tgt := 832) dL_law_40 (by decide) (by decide) rfl (by decide) (lp_law_9 C hnc hst hX hbl hbN hLs S hS6 hO hyx hi hk hn inv hx)
  · exact jx_tableIn (pc := 40) C (off := 805) (tgt := 845) dL_law_40 (by decide) (by decide) rfl (by decide) (lp_law_10 C hnc hst hX hbl hbN hLs S hS6 hO hyx hi hk hn inv hx)
  · exact jx_tableIn (pc := 40) C (off := 818) (tgt := 858) dL_law_40 (by decide) (by decide) rfl (by decide) (lp_law_11 C hnc hst hX hbl hbN hLs S hS6 hO hyx hi hk hn inv hx)
  · exact jx_tableIn (pc := 40) C (off := 862) (tgt := 902) dL_law_40 (by decide) (by decide) rfl (by decide) (lp_law_12 C hnc hst hX hbl hbN hLs S hS6 hO hyx hi hk hn inv hx)
  · exact jx_tableIn (pc := 40) C (off := 906) (tgt := 946) dL_law_40 (by decide) (by decide) rfl (by decide) (lp_law_13 C hnc hst hX hbl hbN hLs S hS6 hO hyx hi hk hn inv hx)
  · exact jx_tableIn (pc := 40) C (off := 974) (tgt := 1014) dL_law_40 (by decide) (by decide) rfl (by decide) (lp_law_14 C hnc hst hX hbl hbN hLs S hS6 hO hyx hi hk hn inv hx)
  · exact jx_tableIn (pc := 40) C (off := 1042) (tgt := 1082) dL_law_40 (by decide) (by decide) rfl (by decide) (lp_law_15 C hnc hst hX hbl hbN hLs S hS6 hO hyx hi hk hn inv hx)
  · exact jx_tableIn (pc := 40) C (off := 1110) (tgt := 1150) dL_law_40 (by decide) (by decide) rfl (by decide) (lp_law_16 C hnc hst hX hbl hbN hLs S hS6 hO hyx hi hk hn inv hx)
  · exact jx_tableIn (pc := 40) C (off := 1178) (tgt := 1218) dL_law_40 (by decide) (by decide) rfl (by decide) (lp_law_17 C hnc hst hX hbl hbN hLs S hS6 hO hyx hi hk hn inv hx)
  · exact jx_tableIn (pc := 40) C (off := 1246) (tgt := 1286) dL_law_40 (by decide) (by decide) rfl (by decide) (lp_law_18 C hnc hst hX hbl hbN hLs S hS6 hO hyx hi hk hn inv hx)
  · exact jx_tableIn (pc := 40) C (off := 1302) (tgt := 1342) dL_law_40 (by decide) (by decide) rfl (by decide) (lp_law_19 C hnc hst hX hbl hbN hLs S hS6 hO hyx hi hk hn inv hx)
  · exact jx_tableIn (pc := 40) C (off := 1358) (tgt := 1398) dL_law_40 (by decide) (by decide) rfl (by decide) (lp_law_20 C hnc hst hX hbl hbN hLs S hS6 hO hyx hi hk hn inv hx)
  · exact jx_tableIn (pc := 40) C (off := 1426) (tgt := 1466) dL_law_40 (by decide) (by decide) rfl (by decide) (lp_law_21 C hnc hst hX hbl hbN hLs S hS6 hO hyx hi hk hn inv hx)
  · exact jx_tableIn (pc := 40) C (off := 1482) (tgt := 1522) dL_law_40 (by decide) (by decide) rfl (by decide) (lp_law_22 C hnc hst hX hbl hbN hLs S hS6 hO hyx hi hk hn inv hx)
  · exact jx_tableIn (pc := 40) C (off := 1538) (tgt := 1578) dL_law_40 (by decide) (by decide) rfl (by decide) (lp_law_23 C hnc hst hX hbl hbN hLs S hS6 hO hyx hi hk hn inv hx)
  · exact jx_tableIn (pc := 40) C (off := 1606) (tgt := 1646) dL_law_40 (by decide) (by decide) rfl (by decide) (lp_law_24 C hnc hst hX hbl hbN hLs S hS6 hO hyx hi hk hn inv hx)
  · exact jx_tableIn (pc := 40) C (off := 1647) (tgt := 1687) dL_law_40 (by decide) (by decide) rfl (by decide) (lp_law_25 C hnc hst hX hbl hbN hLs S hS6 hO hyx hi hk hn inv hx)
  · refine jx_tableOut (pc := 40) C (tgt := 1701) dL_law_40 (Or.inr (by rw [nI_toInt (by omega)]; omega)) (by decide) ?_
    obtain ⟨q, t, pst, ch, R, hP, h3, h5, hpa, htx, hb1, hb2⟩ := inv
    exact jx_roomy (by omega) (by omega) (hx _ _ _ ⟨q, t, pst, ch, R, hP, h3, h5, hpa, htx, sB_mono hb1 (by omega), fun z hz => sB_mono (hb2 z hz) (by omega)⟩)
set_option maxHeartbeats 4000000 in
theorem lp_law {p : Program} {l : Launch} {e : Env} {s : State} {m : MethodId} {args : Array Value} {below : List Frame} {meth : Method} {c : Code} {D : va_G} {cA : Nat → ClassId} {N0 : Nat} {Sh : jS} {Qf : State → Prop} (C : jC p room_1 s m args meth c D cA N0 cL_law 9 RL 10) (hnc : jNc s) (hst : l.stackTraces = false) {b Ls : Nat} {xs : Nat → Int32} (hX : va_X b Ls xs s s.heap) (hbl : b < s.heap.size) (hbN : b < N0) (hLs : Ls ≤ 3072) {y x o : Nat} (S : cS Sh y) (hS6 : mS Sh x) (hO : Sh o = some (11, 1)) (hyx : y + 366 ≤ x) (hend : ∀ (I : jI) (P : jP) (L : jL) (k n : Nat) (ls : List (Option Value)), k ≤ 601277 → n ≤ 7292274 → jJ p l e room_1 s m args below meth c D cA N0 9 Qf (fun _ => True) Sh I P L k n 1707 ls []) : ∀ d i, i + d = 513 → ∀ (I : jI) (P : jP) (L : jL), lI i I P y x → jJ p l e room_1 s m args below meth c D cA N0 9 Qf (fun _ => True) Sh I P L (374 + i) (4047 + 6 * i) 23 [some (.ref b), some (.ref y), some (.ref x), some (.ref o), some (.int (nI (6 * i))), none, none, none, none] [] := by
  intro d
  induction d with
  | zero =>
    intro i hid I P L inv
    have hi6 : (nI Ls - nI 6).toInt = (Ls : Int) - 6 := pk_sub_toInt (by omega) (by omega)
    have hti : (nI (6 * i)).toInt = ((6 * i : Nat) : Int) := nI_toInt (by omega)
    refine jx_iload (pc := 23) C dL_law_23 rfl ?_
    refine jx_aload_n (pc := 25) C dL_law_25 rfl ?_
    refine jx_slen (pc := 26) C hX hbl hbN dL_law_26 ?_
    refine jx_bipush (pc := 27) C dL_law_27 nb_6 ?_
    refine jx_isub (pc := 29) C dL_law_29 ?_
    refine jx_icmp_gt (pc := 30) C (tgt := 1707) dL_law_30 (by decide) (fun c30 => ?_) (fun c30 => (by exfalso; exact c30 ((i32_lt _ _).mpr (by rw [hi6, hti]; omega))))
    exact hend _ _ _ _ _ _ (by omega) (by omega)
  | succ d ih =>
    intro i hid I P L inv
    have hi6 : (nI Ls - nI 6).toInt = (Ls : Int) - 6 := pk_sub_toInt (by omega) (by omega)
    have hti : (nI (6 * i)).toInt = ((6 * i : Nat) : Int) := nI_toInt (by omega)
    refine jx_iload (pc := 23) C dL_law_23 rfl ?_
    refine jx_aload_n (pc := 25) C dL_law_25 rfl ?_
    refine jx_slen (pc := 26) C hX hbl hbN dL_law_26 ?_
    refine jx_bipush (pc := 27) C dL_law_27 nb_6 ?_
    refine jx_isub (pc := 29) C dL_law_29 ?_
    refine jx_icmp_gt (pc := 30) C (tgt := 1707) dL_law_30 (by decide) (fun c30 => ?_) (fun c30 => ?_)
    · exact hend _ _ _ _ _ _ (by omega) (by omega)
    · have hi : 6 * i + 6 ≤ Ls := by
        have h9 := (i32_le _ _).mp (i32_nlt.mp c30)
        rw [hi6, hti] at h9
        omega
      refine jx_aload_n (pc := 33) C dL_law_33 rfl ?_
      refine jx_iload (pc := 34) C dL_law_34 rfl ?_
      refine jx_sld (pc := 36) C hX hbl hbN (by omega) (by omega) dL_law_36 ?_
      refine jx_bipush (pc := 37) C dL_law_37 nb_31 ?_
      refine jx_iand (pc := 39) C dL_law_39 ?_
      obtain ⟨j, hj, ej⟩ := pk_andE (xs (6 * i)) (m := nI 31) 5 (by decide)
      rw [ej]
      refine lp_law_sw C hnc hst hX hbl hbN hLs S hS6 hO hyx hend hi (show 374 + i + 1 ≤ 601277 by omega) (show 4047 + 6 * i + 6 ≤ 7292274 by omega) inv hj (fun I' P' L' inv' => ?_)
      refine jx_iinc (pc := 1701) (v := nI (6 * (i + 1))) C dL_law_1701 rfl (by show nI (6 * i) + nI 6 = _; rw [nI_add]; exact congrArg nI (by omega)) (jset_4 jc_r) (by decide) ?_
      refine jx_goto (pc := 1704) C (tgt := 23) dL_law_1704 (by decide) ?_
      exact jx_roomy (by omega) (by omega) (ih (i + 1) (by omega) I' P' L' inv')
