/-! THE LAW'S START -/
theorem str_of {A : Array Value} {s : State} {k : Nat} {tx : String} (h1 : (Cond.stringRef RX5 k tx).before A s = true) (h2 : (Cond.exactly (.string RX5 k) "java/lang/String").before A s = true) : ∃ sa, vk_R RX5 k tx sa s := by
  obtain ⟨a, c9, cell9, k9, q1, -⟩ := Cond.exactly_spec h2
  exact ⟨a, vk_R.of h1 q1⟩
theorem law_str {s : State} {b : Nat} (hts : ∀ w ∈ lw_tbl, w.before #[Value.ref b] s = true) (hg : (Jvm.Cond.and given_1 narrow_1).before #[Value.ref b] s = true) : ∀ q ∈ jST, ∃ sa, vk_R RX5 q.1 q.2 sa s := List.forall_mem_cons.mpr ⟨str_of (hts _ (List.mem_of_getElem? (i := 360) (by decide +kernel))) (flat_of_before _ hg _ (List.mem_of_getElem? (i := 76) (by decide +kernel))), List.forall_mem_cons.mpr ⟨str_of (hts _ (List.mem_of_getElem? (i := 473) (by decide +kernel))) (flat_of_before _ hg _ (List.mem_of_getElem? (i := 234) (by decide +kernel))), List.forall_mem_cons.mpr ⟨str_of (hts _ (List.mem_of_getElem? (i := 342) (by decide +kernel))) (flat_of_before _ hg _ (List.mem_of_getElem? (i := 47) (by decide +kernel))), List.forall_mem_cons.mpr ⟨str_of (hts _ (List.mem_of_getElem? (i := 540) (by decide +kernel))) (flat_of_before _ hg _ (List.mem_of_getElem? (i := 355) (by decide +kernel))), List.forall_mem_cons.mpr ⟨str_of (hts _ (List.mem_of_getElem? (i := 541) (by decide +kernel))) (flat_of_before _ hg _ (List.mem_of_getElem? (i := 389) (by decide +kernel))), List.forall_mem_cons.mpr ⟨str_of (hts _ (List.mem_of_getElem? (i := 507) (by decide +kernel))) (flat_of_before _ hg _ (List.mem_of_getElem? (i := 258) (by decide +kernel))), List.forall_mem_cons.mpr ⟨str_of (hts _ (List.mem_of_getElem? (i := 551) (by decide +kernel))) (flat_of_before _ hg _ (List.mem_of_getElem? (i := 424) (by decide +kernel))), List.forall_mem_cons.mpr ⟨str_of (hts _ (List.mem_of_getElem? (i := 560) (by decide +kernel))) (flat_of_before _ hg _ (List.mem_of_getElem? (i := 469) (by decide +kernel))), List.forall_mem_cons.mpr ⟨str_of (hts _ (List.mem_of_getElem? (i := 508) (by decide +kernel))) (flat_of_before _ hg _ (List.mem_of_getElem? (i := 285) (by decide +kernel))), List.forall_mem_cons.mpr ⟨str_of (hts _ (List.mem_of_getElem? (i := 518) (by decide +kernel))) (flat_of_before _ hg _ (List.mem_of_getElem? (i := 325) (by decide +kernel))), List.forall_mem_cons.mpr ⟨str_of (hts _ (List.mem_of_getElem? (i := 565) (by decide +kernel))) (flat_of_before _ hg _ (List.mem_of_getElem? (i := 522) (by decide +kernel))), List.forall_mem_cons.mpr ⟨str_of (hts _ (List.mem_of_getElem? (i := 574) (by decide +kernel))) (flat_of_before _ hg _ (List.mem_of_getElem? (i := 555) (by decide +kernel))), List.forall_mem_cons.mpr ⟨str_of (hts _ (List.mem_of_getElem? (i := 577) (by decide +kernel))) (flat_of_before _ hg _ (List.mem_of_getElem? (i := 591) (by decide +kernel))), List.forall_mem_cons.mpr ⟨str_of (hts _ (List.mem_of_getElem? (i := 590) (by decide +kernel))) (flat_of_before _ hg _ (List.mem_of_getElem? (i := 671) (by decide +kernel))), List.forall_mem_cons.mpr ⟨str_of (hts _ (List.mem_of_getElem? (i := 591) (by decide +kernel))) (flat_of_before _ hg _ (List.mem_of_getElem? (i := 713) (by decide +kernel))), List.forall_mem_cons.mpr ⟨str_of (hts _ (List.mem_of_getElem? (i := 585) (by decide +kernel))) (flat_of_before _ hg _ (List.mem_of_getElem? (i := 631) (by decide +kernel))), List.forall_mem_cons.mpr ⟨str_of (hts _ (List.mem_of_getElem? (i := 395) (by decide +kernel))) (flat_of_before _ hg _ (List.mem_of_getElem? (i := 119) (by decide +kernel))), List.forall_mem_cons.mpr ⟨str_of (hts _ (List.mem_of_getElem? (i := 404) (by decide +kernel))) (flat_of_before _ hg _ (List.mem_of_getElem? (i := 143) (by decide +kernel))), List.forall_mem_cons.mpr ⟨str_of (hts _ (List.mem_of_getElem? (i := 431) (by decide +kernel))) (flat_of_before _ hg _ (List.mem_of_getElem? (i := 177) (by decide +kernel))), List.forall_mem_cons.mpr ⟨str_of (hts _ (List.mem_of_getElem? (i := 361) (by decide +kernel))) (flat_of_before _ hg _ (List.mem_of_getElem? (i := 96) (by decide +kernel))), List.forall_mem_cons.mpr ⟨str_of (hts _ (List.mem_of_getElem? (i := 271) (by decide +kernel))) (flat_of_before _ hg _ (List.mem_of_getElem? (i := 29) (by decide +kernel))), List.forall_mem_cons.mpr ⟨str_of (hts _ (List.mem_of_getElem? (i := 445) (by decide +kernel))) (flat_of_before _ hg _ (List.mem_of_getElem? (i := 200) (by decide +kernel))), fun _ h => absurd h List.not_mem_nil⟩⟩⟩⟩⟩⟩⟩⟩⟩⟩⟩⟩⟩⟩⟩⟩⟩⟩⟩⟩⟩⟩
theorem law_nest {s : State} {b : Nat} (hts : ∀ w ∈ lw_tbl, w.before #[Value.ref b] s = true) : ∀ w ∈ jNW, va_Nw (.methodLinkNest w.1 w.2.1 w.2.2.1 w.2.2.2) s := List.forall_mem_cons.mpr ⟨va_any rfl (hts _ (List.mem_of_getElem? (i := 45) (by decide +kernel))), List.forall_mem_cons.mpr ⟨va_any rfl (hts _ (List.mem_of_getElem? (i := 55) (by decide +kernel))), List.forall_mem_cons.mpr ⟨va_any rfl (hts _ (List.mem_of_getElem? (i := 60) (by decide +kernel))), List.forall_mem_cons.mpr ⟨va_any rfl (hts _ (List.mem_of_getElem? (i := 98) (by decide +kernel))), List.forall_mem_cons.mpr ⟨va_any rfl (hts _ (List.mem_of_getElem? (i := 185) (by decide +kernel))), fun _ h => absurd h List.not_mem_nil⟩⟩⟩⟩⟩
theorem law_MOST_VALUES {s : State} {b : Nat} (hts : ∀ w ∈ lw_tbl, w.before #[Value.ref b] s = true) (hg : (Jvm.Cond.and given_1 narrow_1).before #[Value.ref b] s = true) : ∃ t, jTab RX5 "MOST_VALUES" s.heap.size 4 jtMV t s s.heap := by
  have hA : ∀ a : Nat, a < s.heap.size → ¬ s.heap.size ≤ a := fun a h => Nat.not_le.mpr h
  obtain ⟨t, ht, hT⟩ := va_Tof (args := #[Value.ref b]) (s := s) (tm := .static RX5 "MOST_VALUES" "[I") (ty := .int) (N := 4) (f := fun j => .int (jtMV j)) (A := fun q => s.heap.size ≤ q) (by decide) (flat_of_before _ hg _ (List.mem_of_getElem? (i := 7) (by decide +kernel))) (va_eqt (flat_of_before _ hg _ (List.mem_of_getElem? (i := 8) (by decide +kernel)))) (fun j hj => by
    match j, hj with
    | 0, _ => exact va_eqt (flat_of_before _ hg _ (List.mem_of_getElem? (i := 9) (by decide +kernel)))
    | 1, _ => exact va_eqt (flat_of_before _ hg _ (List.mem_of_getElem? (i := 10) (by decide +kernel)))
    | 2, _ => exact va_eqt (flat_of_before _ hg _ (List.mem_of_getElem? (i := 11) (by decide +kernel)))
    | 3, _ => exact va_eqt (flat_of_before _ hg _ (List.mem_of_getElem? (i := 12) (by decide +kernel)))) hA
  exact ⟨t, va_Zref (hts _ (List.mem_of_getElem? (i := 576) (by decide +kernel))) (hts _ (List.mem_of_getElem? (i := 12) (by decide +kernel))) ht hA, hT⟩
theorem law_K {s : State} {b : Nat} (hts : ∀ w ∈ lw_tbl, w.before #[Value.ref b] s = true) : ∃ (D : va_G) (cA : Nat → ClassId), va_K D vwCl (jtys cA) s := by
  have hw : ∀ w ∈ jWS, w.before #[Value.ref b] s = true := fun w h => hts w (jWS_tbl h)
  have h0 : ∀ k, k < 6 → ∃ (cC : ClassId) (iS : Nat → Nat), u_Kn s (jR k) (jT k) (jn k) cC iS := by
    intro k hk
    match k, hk with
    | 0, _ => exact u_known (ws := jWS) (n := 13) hw (jin_ws (c := 0) (by decide)) (hts _ (List.mem_of_getElem? (i := 34) (by decide +kernel)))
    | 1, _ => exact u_known (ws := jWS) (n := 8) hw (jin_ws (c := 1) (by decide)) (hts _ (List.mem_of_getElem? (i := 97) (by decide +kernel)))
    | 2, _ => exact u_known (ws := jWS) (n := 4) hw (jin_ws (c := 2) (by decide)) (hts _ (List.mem_of_getElem? (i := 184) (by decide +kernel)))
    | 3, _ => exact u_known (ws := jWS) (n := 9) hw (jin_ws (c := 3) (by decide)) (hts _ (List.mem_of_getElem? (i := 54) (by decide +kernel)))
    | 4, _ => exact u_known (ws := jWS) (n := 1) hw (jin_ws (c := 4) (by decide)) (hts _ (List.mem_of_getElem? (i := 44) (by decide +kernel)))
    | 5, _ => exact u_known (ws := jWS) (n := 8) hw (jin_ws (c := 5) (by decide)) (hts _ (List.mem_of_getElem? (i := 26) (by decide +kernel)))
  have h1 : ∀ k : Nat, ∃ q : ClassId × (Nat → Nat), k < 6 → u_Kn s (jR k) (jT k) (jn k) q.1 q.2 := by
    intro k
    by_cases hk : k < 6
    · obtain ⟨cC, iS, h⟩ := h0 k hk
      exact ⟨(cC, iS), fun _ => h⟩
    · obtain ⟨cC, iS, h⟩ := h0 0 (by decide)
      exact ⟨(cC, iS), fun z => absurd z hk⟩
  obtain ⟨D0, hD⟩ := Classical.axiomOfChoice h1
  obtain ⟨a0, k0, q0, e01, e02, e03⟩ := Cond.arrayClass_spec (type := .int) (hts _ (List.mem_of_getElem? (i := 53) (by decide +kernel)))
  obtain ⟨q2, a2, k2, e21, -, e22, e23, e24⟩ := Cond.arrayOver_spec (n := RX3) (hts _ (List.mem_of_getElem? (i := 40) (by decide +kernel)))
  obtain ⟨q3, a3, k3, e31, -, e32, e33, e34⟩ := Cond.arrayOver_spec (n := RX1) (hts _ (List.mem_of_getElem? (i := 42) (by decide +kernel)))
  obtain ⟨q4, a4, k4, e41, -, e42, e43, e44⟩ := Cond.arrayOver_spec (n := RX0) (hts _ (List.mem_of_getElem? (i := 182) (by decide +kernel)))
  refine ⟨(fun k => (D0 k).1, fun k => (D0 k).2), fun k => if k = 0 then a0 else if k = 1 then a0 else if k = 2 then a2 else if k = 3 then a3 else a4, fun k q hq => ?_, fun k q hq => ?_⟩
  · have hk : k < 6 := (List.getElem?_eq_some_iff.mp hq).1
    rw [jcl hk] at hq
    cases hq
    exact hD k hk
  · match k, hq with
    | 0, hq => cases hq; exact ⟨fun n z => ⟨fun k h => (by cases h), k0, e02, q0, e03⟩, e01⟩
    | 1, hq => cases hq; exact ⟨fun n z => ⟨fun k h => (by cases h), k0, e02, q0, e03⟩, e01⟩
    | 2, hq => cases hq; exact ⟨fun n z => ⟨fun k h => (by cases h), k2, e22, q2, e23⟩, k2, q2, e22, e23, e21, e24⟩
    | 3, hq => cases hq; exact ⟨fun n z => ⟨fun k h => (by cases h), k3, e32, q3, e33⟩, k3, q3, e32, e33, e31, e34⟩
    | 4, hq => cases hq; exact ⟨fun n z => ⟨fun k h => (by cases h), k4, e42, q4, e43⟩, k4, q4, e42, e43, e41, e44⟩
    | k + 5, hq => cases hq
theorem law_jK {s : State} {b : Nat} (hts : ∀ w ∈ lw_tbl, w.before #[Value.ref b] s = true) (hg : (Jvm.Cond.and given_1 narrow_1).before #[Value.ref b] s = true) : ∃ (D : va_G) (cA : Nat → ClassId), jK D cA s.heap.size s s.heap := by
  obtain ⟨D, cA, hK⟩ := law_K hts
  have hA : ∀ a : Nat, a < s.heap.size → ¬ s.heap.size ≤ a := fun a h => Nat.not_le.mpr h
  exact ⟨D, cA, hK, law_nest hts, law_str hts hg, law_MOST_VALUES hts hg, trivial, trivial, vx_Zqof (hts _ (List.mem_of_getElem? (i := 257) (by decide +kernel))) (hts _ (List.mem_of_getElem? (i := 18) (by decide +kernel))) (flat_of_before _ hg _ (List.mem_of_getElem? (i := 4) (by decide +kernel))) hA, vx_Zqof (hts _ (List.mem_of_getElem? (i := 259) (by decide +kernel))) (hts _ (List.mem_of_getElem? (i := 18) (by decide +kernel))) (flat_of_before _ hg _ (List.mem_of_getElem? (i := 5) (by decide +kernel))) hA⟩
theorem law_nc {s : State} {b : Nat} (hts : ∀ w ∈ lw_tbl, w.before #[Value.ref b] s = true) (hg : (Jvm.Cond.and given_1 narrow_1).before #[Value.ref b] s = true) : jNc s :=
  ⟨⟨trivial, trivial, va_Nc.of (flat_of_before _ hg _ (List.mem_of_getElem? (i := 27) (by decide +kernel))), va_Nc.of (flat_of_before _ hg _ (List.mem_of_getElem? (i := 28) (by decide +kernel))), va_Nc.of (flat_of_before _ hg _ (List.mem_of_getElem? (i := 20) (by decide +kernel))), va_Nc.of (flat_of_before _ hg _ (List.mem_of_getElem? (i := 19) (by decide +kernel)))⟩, List.forall_mem_cons.mpr ⟨va_any rfl (hts _ (List.mem_of_getElem? (i := 234) (by decide +kernel))), List.forall_mem_cons.mpr ⟨va_any rfl (hts _ (List.mem_of_getElem? (i := 236) (by decide +kernel))), List.forall_mem_cons.mpr ⟨va_any rfl (hts _ (List.mem_of_getElem? (i := 238) (by decide +kernel))), List.forall_mem_cons.mpr ⟨va_any rfl (hts _ (List.mem_of_getElem? (i := 335) (by decide +kernel))), List.forall_mem_cons.mpr ⟨va_any rfl (hts _ (List.mem_of_getElem? (i := 232) (by decide +kernel))), List.forall_mem_cons.mpr ⟨va_any rfl (hts _ (List.mem_of_getElem? (i := 511) (by decide +kernel))), fun _ h => absurd h List.not_mem_nil⟩⟩⟩⟩⟩⟩⟩
theorem law_ao {s : State} {b : Nat} (hts : ∀ w ∈ lw_tbl, w.before #[Value.ref b] s = true) : jAO s := ⟨va_AO.of (hts _ (List.mem_of_getElem? (i := 40) (by decide +kernel))), va_AO.of (hts _ (List.mem_of_getElem? (i := 42) (by decide +kernel))), va_AO.of (hts _ (List.mem_of_getElem? (i := 182) (by decide +kernel)))⟩
set_option maxHeartbeats 4000000 in
theorem law_start {p : Program} {l : Launch} {e : Env} {s : State} {m : MethodId} {args : Array Value} {below : List Frame} {meth : Method} {c : Code} {D : va_G} {cA : Nat → ClassId} {Qf : State → Prop} (C : jC p room_1 s m args meth c D cA s.heap.size cL_law 12 RL 10) (hnc : jNc s) (hAO : jAO s) (hst : l.stackTraces = false) {b Ls : Nat} {xs : Nat → Int32} (hX : va_X b Ls xs s s.heap) (hbl : b < s.heap.size) (hLs : Ls ≤ 260) (hend : ∀ (Sh : jS) (I : jI) (P : jP) (L : jL) (k n : Nat) (ls : List (Option Value)), k ≤ 683511 → n ≤ 7051164 → jJ p l e room_1 s m args below meth c D cA s.heap.size 12 Qf (fun _ => True) Sh I P L k n 222 ls [.int (nI 1)]) : jJ p l e room_1 s m args below meth c D cA s.heap.size 12 Qf (fun q => q = s.heap.size) (fun _ => none) (fun _ => zr) (fun _ => nr) (fun _ _ => 0) 0 0 0 [some (.ref b), none, none, none, none, none, none, none, none, none, none, none] [] := by
  have hE : jEn b Ls xs s.heap.size s := ⟨hnc, hX, hbl, hbl⟩
  refine jx_newO (pc := 0) C (ci := 5) (by decide) (N := 8) rfl (jWS_in 25 (by decide +kernel) rfl) (jWS_in 26 (by decide +kernel) rfl) (jWS_in 12 (by decide +kernel) rfl) (fun _ z => z) ⟨by show _ ≤ 683511; omega, by show _ ≤ 7051164; omega⟩ dL_law_0 ?_
  refine jx_dup (pc := 3) C dL_law_3 rfl ?_
  refine jx_callC (pc := 4) C hAO (go_L_98 C (Nat.le_of_ble_eq_true rfl) dL_law_4) (t_X5_init (b := s.heap.size) shp_s va_up_s) (by decide) (by decide) (fun _ z => z) ⟨by show _ ≤ 683511; omega, by show _ ≤ 7051164; omega⟩ (fun v4 z4 S4v I4 P4 L4 q4 => ?_)
  obtain ⟨rfl, rfl, S4, R4, F4, eL4⟩ := q4
  subst eL4
  refine jx_sz (Z' := fun _ => True) (fun _ _ => trivial) ?_
  have hLd : nI Ls / nI 4 = nI (Ls / 4) := pk_div (by omega) (by decide) (by decide)
  have key : ∀ (T : Nat), T ≤ 36 → 4 * T ≤ Ls → jJ p l e room_1 s m args below meth c D cA s.heap.size 12 Qf (fun _ => True) S4v I4 P4 (fun _ _ => 0) (0 + 1 + 365) (0 + 8 + 2229) 28 [some (.ref b), some (.ref s.heap.size), some (.int (nI 1)), none, none, none, none, none, none, none, none, none] [.int (nI T)] := by
    intro T hT hTL
    refine jx_istore_n (pc := 28) C dL_law_28 (jset_3 jc_i) (by decide) ?_
    refine jx_iconst (pc := 29) C dL_law_29 nc_0 ?_
    refine jx_istore (pc := 30) C dL_law_30 (jset_4 jc_i) (by decide) ?_
    exact lp_law C hE hst S4 hT hTL hLs (hend S4v · · (fun _ _ => 0)) T 0 _ _ _ _ _ _ _ srow 0 (fun _ => srow) _ _ _ _ (Nat.zero_add T) (R4 (fun _ => srow) (fun _ => 0)) aT_0 (fun i hi => absurd hi (Nat.not_lt_zero i)) (Nat.le_refl _) (Nat.le_refl _)
  refine jx_astore_n (pc := 7) C dL_law_7 (jset_1 jc_r) (by decide) ?_
  refine jx_iconst (pc := 8) C dL_law_8 nc_1 ?_
  refine jx_istore_n (pc := 9) C dL_law_9 (jset_2 jc_r) (by decide) ?_
  refine jx_aload_n (pc := 10) C dL_law_10 rfl ?_
  refine jx_slen (pc := 11) C hX hbl hbl dL_law_11 ?_
  refine jx_iconst (pc := 12) C dL_law_12 nc_4 ?_
  refine jx_idiv (pc := 13) C dL_law_13 (nI_ne0 (by decide) (by decide)) ?_
  refine jx_top C (y := .int (nI (Ls / 4))) (congrArg Value.int hLd) ?_
  refine jx_bipush (pc := 14) C dL_law_14 nb_36 ?_
  refine jx_icmp_le (pc := 16) C (tgt := 24) dL_law_16 (by decide) (fun c16 => ?_) (fun c16 => ?_)
  · rw [nI_leI (by omega) (by omega)] at c16
    refine jx_aload_n (pc := 24) C dL_law_24 rfl ?_
    refine jx_slen (pc := 25) C hX hbl hbl dL_law_25 ?_
    refine jx_iconst (pc := 26) C dL_law_26 nc_4 ?_
    refine jx_idiv (pc := 27) C dL_law_27 (nI_ne0 (by decide) (by decide)) ?_
    refine jx_top C (y := .int (nI (Ls / 4))) (congrArg Value.int hLd) ?_
    exact key (Ls / 4) c16 (by omega)
  · rw [nI_leI (by omega) (by omega)] at c16
    refine jx_bipush (pc := 19) C dL_law_19 nb_36 ?_
    refine jx_goto (pc := 21) C (tgt := 28) dL_law_21 (by decide) ?_
    exact key 36 (Nat.le_refl _) (by omega)
