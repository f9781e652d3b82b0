/-! THE LAW'S START -/
theorem str_of {A : Array Value} {s : State} {k : Nat} {tx : String} (h1 : (Cond.stringRef RX5 k tx).before A s = true) (h2 : (Cond.exactly (.string RX5 k) "java/lang/String").before A s = true) : ∃ sa, vk_R RX5 k tx sa s := by
  obtain ⟨a, c9, cell9, k9, q1, -⟩ := Cond.exactly_spec h2
  exact ⟨a, vk_R.of h1 q1⟩
theorem law_str {s : State} {b : Nat} (hts : ∀ w ∈ lw_tbl, w.before #[Value.ref b] s = true) (hg : (Jvm.Cond.and given_1 narrow_1).before #[Value.ref b] s = true) : ∀ q ∈ jST, ∃ sa, vk_R RX5 q.1 q.2 sa s := List.forall_mem_cons.mpr ⟨str_of (hts _ (List.mem_of_getElem? (i := 591) (by decide +kernel))) (flat_of_before _ hg _ (List.mem_of_getElem? (i := 56) (by decide +kernel))), List.forall_mem_cons.mpr ⟨str_of (hts _ (List.mem_of_getElem? (i := 630) (by decide +kernel))) (flat_of_before _ hg _ (List.mem_of_getElem? (i := 74) (by decide +kernel))), List.forall_mem_cons.mpr ⟨str_of (hts _ (List.mem_of_getElem? (i := 653) (by decide +kernel))) (flat_of_before _ hg _ (List.mem_of_getElem? (i := 90) (by decide +kernel))), List.forall_mem_cons.mpr ⟨str_of (hts _ (List.mem_of_getElem? (i := 654) (by decide +kernel))) (flat_of_before _ hg _ (List.mem_of_getElem? (i := 118) (by decide +kernel))), List.forall_mem_cons.mpr ⟨str_of (hts _ (List.mem_of_getElem? (i := 664) (by decide +kernel))) (flat_of_before _ hg _ (List.mem_of_getElem? (i := 140) (by decide +kernel))), List.forall_mem_cons.mpr ⟨str_of (hts _ (List.mem_of_getElem? (i := 679) (by decide +kernel))) (flat_of_before _ hg _ (List.mem_of_getElem? (i := 162) (by decide +kernel))), List.forall_mem_cons.mpr ⟨str_of (hts _ (List.mem_of_getElem? (i := 681) (by decide +kernel))) (flat_of_before _ hg _ (List.mem_of_getElem? (i := 180) (by decide +kernel))), List.forall_mem_cons.mpr ⟨str_of (hts _ (List.mem_of_getElem? (i := 689) (by decide +kernel))) (flat_of_before _ hg _ (List.mem_of_getElem? (i := 211) (by decide +kernel))), List.forall_mem_cons.mpr ⟨str_of (hts _ (List.mem_of_getElem? (i := 697) (by decide +kernel))) (flat_of_before _ hg _ (List.mem_of_getElem? (i := 249) (by decide +kernel))), List.forall_mem_cons.mpr ⟨str_of (hts _ (List.mem_of_getElem? (i := 698) (by decide +kernel))) (flat_of_before _ hg _ (List.mem_of_getElem? (i := 279) (by decide +kernel))), List.forall_mem_cons.mpr ⟨str_of (hts _ (List.mem_of_getElem? (i := 719) (by decide +kernel))) (flat_of_before _ hg _ (List.mem_of_getElem? (i := 298) (by decide +kernel))), List.forall_mem_cons.mpr ⟨str_of (hts _ (List.mem_of_getElem? (i := 728) (by decide +kernel))) (flat_of_before _ hg _ (List.mem_of_getElem? (i := 315) (by decide +kernel))), List.forall_mem_cons.mpr ⟨str_of (hts _ (List.mem_of_getElem? (i := 729) (by decide +kernel))) (flat_of_before _ hg _ (List.mem_of_getElem? (i := 334) (by decide +kernel))), List.forall_mem_cons.mpr ⟨str_of (hts _ (List.mem_of_getElem? (i := 737) (by decide +kernel))) (flat_of_before _ hg _ (List.mem_of_getElem? (i := 356) (by decide +kernel))), List.forall_mem_cons.mpr ⟨str_of (hts _ (List.mem_of_getElem? (i := 738) (by decide +kernel))) (flat_of_before _ hg _ (List.mem_of_getElem? (i := 378) (by decide +kernel))), List.forall_mem_cons.mpr ⟨str_of (hts _ (List.mem_of_getElem? (i := 746) (by decide +kernel))) (flat_of_before _ hg _ (List.mem_of_getElem? (i := 396) (by decide +kernel))), List.forall_mem_cons.mpr ⟨str_of (hts _ (List.mem_of_getElem? (i := 747) (by decide +kernel))) (flat_of_before _ hg _ (List.mem_of_getElem? (i := 417) (by decide +kernel))), List.forall_mem_cons.mpr ⟨str_of (hts _ (List.mem_of_getElem? (i := 759) (by decide +kernel))) (flat_of_before _ hg _ (List.mem_of_getElem? (i := 439) (by decide +kernel))), List.forall_mem_cons.mpr ⟨str_of (hts _ (List.mem_of_getElem? (i := 775) (by decide +kernel))) (flat_of_before _ hg _ (List.mem_of_getElem? (i := 472) (by decide +kernel))), List.forall_mem_cons.mpr ⟨str_of (hts _ (List.mem_of_getElem? (i := 783) (by decide +kernel))) (flat_of_before _ hg _ (List.mem_of_getElem? (i := 493) (by decide +kernel))), List.forall_mem_cons.mpr ⟨str_of (hts _ (List.mem_of_getElem? (i := 798) (by decide +kernel))) (flat_of_before _ hg _ (List.mem_of_getElem? (i := 513) (by decide +kernel))), List.forall_mem_cons.mpr ⟨str_of (hts _ (List.mem_of_getElem? (i := 806) (by decide +kernel))) (flat_of_before _ hg _ (List.mem_of_getElem? (i := 542) (by decide +kernel))), List.forall_mem_cons.mpr ⟨str_of (hts _ (List.mem_of_getElem? (i := 814) (by decide +kernel))) (flat_of_before _ hg _ (List.mem_of_getElem? (i := 559) (by decide +kernel))), List.forall_mem_cons.mpr ⟨str_of (hts _ (List.mem_of_getElem? (i := 822) (by decide +kernel))) (flat_of_before _ hg _ (List.mem_of_getElem? (i := 579) (by decide +kernel))), List.forall_mem_cons.mpr ⟨str_of (hts _ (List.mem_of_getElem? (i := 837) (by decide +kernel))) (flat_of_before _ hg _ (List.mem_of_getElem? (i := 597) (by decide +kernel))), List.forall_mem_cons.mpr ⟨str_of (hts _ (List.mem_of_getElem? (i := 859) (by decide +kernel))) (flat_of_before _ hg _ (List.mem_of_getElem? (i := 631) (by decide +kernel))), fun _ h => absurd h List.not_mem_nil⟩⟩⟩⟩⟩⟩⟩⟩⟩⟩⟩⟩⟩⟩⟩⟩⟩⟩⟩⟩⟩⟩⟩⟩⟩⟩
theorem law_nest {s : State} {b : Nat} (hts : ∀ w ∈ lw_tbl, w.before #[Value.ref b] s = true) : ∀ w ∈ jNW, va_Nw (.methodLinkNest w.1 w.2.1 w.2.2.1 w.2.2.2) s := List.forall_mem_cons.mpr ⟨va_any rfl (hts _ (List.mem_of_getElem? (i := 87) (by decide +kernel))), List.forall_mem_cons.mpr ⟨va_any rfl (hts _ (List.mem_of_getElem? (i := 97) (by decide +kernel))), List.forall_mem_cons.mpr ⟨va_any rfl (hts _ (List.mem_of_getElem? (i := 102) (by decide +kernel))), List.forall_mem_cons.mpr ⟨va_any rfl (hts _ (List.mem_of_getElem? (i := 140) (by decide +kernel))), List.forall_mem_cons.mpr ⟨va_any rfl (hts _ (List.mem_of_getElem? (i := 231) (by decide +kernel))), List.forall_mem_cons.mpr ⟨va_any rfl (hts _ (List.mem_of_getElem? (i := 307) (by decide +kernel))), fun _ h => absurd h List.not_mem_nil⟩⟩⟩⟩⟩⟩
theorem law_MOST_VALUES {s : State} {b : Nat} (hts : ∀ w ∈ lw_tbl, w.before #[Value.ref b] s = true) (hg : (Jvm.Cond.and given_1 narrow_1).before #[Value.ref b] s = true) : ∃ t, jTab RX5 "MOST_VALUES" s.heap.size 4 jtMV t s s.heap := by
  have hA : ∀ a : Nat, a < s.heap.size → ¬ s.heap.size ≤ a := fun a h => Nat.not_le.mpr h
  obtain ⟨t, ht, hT⟩ := va_Tof (args := #[Value.ref b]) (s := s) (tm := .static RX5 "MOST_VALUES" "[I") (ty := .int) (N := 4) (f := fun j => .int (jtMV j)) (A := fun q => s.heap.size ≤ q) (by decide) (flat_of_before _ hg _ (List.mem_of_getElem? (i := 21) (by decide +kernel))) (va_eqt (flat_of_before _ hg _ (List.mem_of_getElem? (i := 22) (by decide +kernel)))) (fun j hj => by
    match j, hj with
    | 0, _ => exact va_eqt (flat_of_before _ hg _ (List.mem_of_getElem? (i := 23) (by decide +kernel)))
    | 1, _ => exact va_eqt (flat_of_before _ hg _ (List.mem_of_getElem? (i := 24) (by decide +kernel)))
    | 2, _ => exact va_eqt (flat_of_before _ hg _ (List.mem_of_getElem? (i := 25) (by decide +kernel)))
    | 3, _ => exact va_eqt (flat_of_before _ hg _ (List.mem_of_getElem? (i := 26) (by decide +kernel)))) hA
  exact ⟨t, va_Zref (hts _ (List.mem_of_getElem? (i := 533) (by decide +kernel))) (hts _ (List.mem_of_getElem? (i := 52) (by decide +kernel))) ht hA, hT⟩
theorem law_LEAST {s : State} {b : Nat} (hts : ∀ w ∈ lw_tbl, w.before #[Value.ref b] s = true) (hg : (Jvm.Cond.and given_1 narrow_1).before #[Value.ref b] s = true) : ∃ t, jTab RX2 "LEAST" s.heap.size 5 jtLE t s s.heap := by
  have hA : ∀ a : Nat, a < s.heap.size → ¬ s.heap.size ≤ a := fun a h => Nat.not_le.mpr h
  obtain ⟨t, ht, hT⟩ := va_Tof (args := #[Value.ref b]) (s := s) (tm := .static RX2 "LEAST" "[I") (ty := .int) (N := 5) (f := fun j => .int (jtLE j)) (A := fun q => s.heap.size ≤ q) (by decide) (flat_of_before _ hg _ (List.mem_of_getElem? (i := 5) (by decide +kernel))) (va_eqt (flat_of_before _ hg _ (List.mem_of_getElem? (i := 6) (by decide +kernel)))) (fun j hj => by
    match j, hj with
    | 0, _ => exact va_eqt (flat_of_before _ hg _ (List.mem_of_getElem? (i := 7) (by decide +kernel)))
    | 1, _ => exact va_eqt (flat_of_before _ hg _ (List.mem_of_getElem? (i := 8) (by decide +kernel)))
    | 2, _ => exact va_eqt (flat_of_before _ hg _ (List.mem_of_getElem? (i := 9) (by decide +kernel)))
    | 3, _ => exact va_eqt (flat_of_before _ hg _ (List.mem_of_getElem? (i := 10) (by decide +kernel)))
    | 4, _ => exact va_eqt (flat_of_before _ hg _ (List.mem_of_getElem? (i := 11) (by decide +kernel)))) hA
  exact ⟨t, va_Zref (hts _ (List.mem_of_getElem? (i := 311) (by decide +kernel))) (hts _ (List.mem_of_getElem? (i := 57) (by decide +kernel))) ht hA, hT⟩
theorem law_MOST {s : State} {b : Nat} (hts : ∀ w ∈ lw_tbl, w.before #[Value.ref b] s = true) (hg : (Jvm.Cond.and given_1 narrow_1).before #[Value.ref b] s = true) : ∃ t, jTab RX2 "MOST" s.heap.size 5 jtMO t s s.heap := by
  have hA : ∀ a : Nat, a < s.heap.size → ¬ s.heap.size ≤ a := fun a h => Nat.not_le.mpr h
  obtain ⟨t, ht, hT⟩ := va_Tof (args := #[Value.ref b]) (s := s) (tm := .static RX2 "MOST" "[I") (ty := .int) (N := 5) (f := fun j => .int (jtMO j)) (A := fun q => s.heap.size ≤ q) (by decide) (flat_of_before _ hg _ (List.mem_of_getElem? (i := 13) (by decide +kernel))) (va_eqt (flat_of_before _ hg _ (List.mem_of_getElem? (i := 14) (by decide +kernel)))) (fun j hj => by
    match j, hj with
    | 0, _ => exact va_eqt (flat_of_before _ hg _ (List.mem_of_getElem? (i := 15) (by decide +kernel)))
    | 1, _ => exact va_eqt (flat_of_before _ hg _ (List.mem_of_getElem? (i := 16) (by decide +kernel)))
    | 2, _ => exact va_eqt (flat_of_before _ hg _ (List.mem_of_getElem? (i := 17) (by decide +kernel)))
    | 3, _ => exact va_eqt (flat_of_before _ hg _ (List.mem_of_getElem? (i := 18) (by decide +kernel)))
    | 4, _ => exact va_eqt (flat_of_before _ hg _ (List.mem_of_getElem? (i := 19) (by decide +kernel)))) hA
  exact ⟨t, va_Zref (hts _ (List.mem_of_getElem? (i := 313) (by decide +kernel))) (hts _ (List.mem_of_getElem? (i := 57) (by decide +kernel))) ht hA, hT⟩
theorem law_K {s : State} {b : Nat} (hts : ∀ w ∈ lw_tbl, w.before #[Value.ref b] s = true) : ∃ (D : va_G) (cA : Nat → ClassId), va_K D vwCl (jtys cA) s := by
  have hw : ∀ w ∈ jWS, w.before #[Value.ref b] s = true := fun w h => hts w (jWS_tbl h)
  have h0 : ∀ k, k < 7 → ∃ (cC : ClassId) (iS : Nat → Nat), u_Kn s (jR k) (jT k) (jn k) cC iS := by
    intro k hk
    match k, hk with
    | 0, _ => exact u_known (ws := jWS) (n := 13) hw (jin_ws (c := 0) (by decide)) (hts _ (List.mem_of_getElem? (i := 76) (by decide +kernel)))
    | 1, _ => exact u_known (ws := jWS) (n := 8) hw (jin_ws (c := 1) (by decide)) (hts _ (List.mem_of_getElem? (i := 139) (by decide +kernel)))
    | 2, _ => exact u_known (ws := jWS) (n := 4) hw (jin_ws (c := 2) (by decide)) (hts _ (List.mem_of_getElem? (i := 230) (by decide +kernel)))
    | 3, _ => exact u_known (ws := jWS) (n := 9) hw (jin_ws (c := 3) (by decide)) (hts _ (List.mem_of_getElem? (i := 96) (by decide +kernel)))
    | 4, _ => exact u_known (ws := jWS) (n := 1) hw (jin_ws (c := 4) (by decide)) (hts _ (List.mem_of_getElem? (i := 86) (by decide +kernel)))
    | 5, _ => exact u_known (ws := jWS) (n := 8) hw (jin_ws (c := 5) (by decide)) (hts _ (List.mem_of_getElem? (i := 68) (by decide +kernel)))
    | 6, _ => exact u_known (ws := jWS) (n := 13) hw (jin_ws (c := 6) (by decide)) (hts _ (List.mem_of_getElem? (i := 861) (by decide +kernel)))
  have h1 : ∀ k : Nat, ∃ q : ClassId × (Nat → Nat), k < 7 → u_Kn s (jR k) (jT k) (jn k) q.1 q.2 := by
    intro k
    by_cases hk : k < 7
    · obtain ⟨cC, iS, h⟩ := h0 k hk
      exact ⟨(cC, iS), fun _ => h⟩
    · obtain ⟨cC, iS, h⟩ := h0 0 (by decide)
      exact ⟨(cC, iS), fun z => absurd z hk⟩
  obtain ⟨D0, hD⟩ := Classical.axiomOfChoice h1
  obtain ⟨a0, k0, q0, e01, e02, e03⟩ := Cond.arrayClass_spec (type := .int) (hts _ (List.mem_of_getElem? (i := 95) (by decide +kernel)))
  obtain ⟨a1, k1, q1, e11, e12, e13⟩ := Cond.arrayClass_spec (type := .long) (hts _ (List.mem_of_getElem? (i := 1181) (by decide +kernel)))
  obtain ⟨q2, a2, k2, e21, -, e22, e23, e24⟩ := Cond.arrayOver_spec (n := RX3) (hts _ (List.mem_of_getElem? (i := 82) (by decide +kernel)))
  obtain ⟨q3, a3, k3, e31, -, e32, e33, e34⟩ := Cond.arrayOver_spec (n := RX1) (hts _ (List.mem_of_getElem? (i := 84) (by decide +kernel)))
  obtain ⟨q4, a4, k4, e41, -, e42, e43, e44⟩ := Cond.arrayOver_spec (n := RX0) (hts _ (List.mem_of_getElem? (i := 228) (by decide +kernel)))
  refine ⟨(fun k => (D0 k).1, fun k => (D0 k).2), fun k => if k = 0 then a0 else if k = 1 then a1 else if k = 2 then a2 else if k = 3 then a3 else a4, fun k q hq => ?_, fun k q hq => ?_⟩
  · have hk : k < 7 := (List.getElem?_eq_some_iff.mp hq).1
    rw [jcl hk] at hq
    cases hq
    exact hD k hk
  · match k, hq with
    | 0, hq => cases hq; exact ⟨fun n z => ⟨fun k h => (by cases h), k0, e02, q0, e03⟩, e01⟩
    | 1, hq => cases hq; exact ⟨fun n z => ⟨fun k h => (by cases h), k1, e12, q1, e13⟩, e11⟩
    | 2, hq => cases hq; exact ⟨fun n z => ⟨fun k h => (by cases h), k2, e22, q2, e23⟩, k2, q2, e22, e23, e21, e24⟩
    | 3, hq => cases hq; exact ⟨fun n z => ⟨fun k h => (by cases h), k3, e32, q3, e33⟩, k3, q3, e32, e33, e31, e34⟩
    | 4, hq => cases hq; exact ⟨fun n z => ⟨fun k h => (by cases h), k4, e42, q4, e43⟩, k4, q4, e42, e43, e41, e44⟩
    | k + 5, hq => cases hq
theorem law_jK {s : State} {b : Nat} (hts : ∀ w ∈ lw_tbl, w.before #[Value.ref b] s = true) (hg : (Jvm.Cond.and given_1 narrow_1).before #[Value.ref b] s = true) : ∃ (D : va_G) (cA : Nat → ClassId), jK D cA s.heap.size s s.heap := by
  obtain ⟨D, cA, hK⟩ := law_K hts
  have hA : ∀ a : Nat, a < s.heap.size → ¬ s.heap.size ≤ a := fun a h => Nat.not_le.mpr h
  exact ⟨D, cA, hK, law_nest hts, law_str hts hg, law_MOST_VALUES hts hg, law_LEAST hts hg, law_MOST hts hg, vx_Zqof (hts _ (List.mem_of_getElem? (i := 577) (by decide +kernel))) (hts _ (List.mem_of_getElem? (i := 59) (by decide +kernel))) (flat_of_before _ hg _ (List.mem_of_getElem? (i := 27) (by decide +kernel))) hA, vx_Zqof (hts _ (List.mem_of_getElem? (i := 579) (by decide +kernel))) (hts _ (List.mem_of_getElem? (i := 59) (by decide +kernel))) (flat_of_before _ hg _ (List.mem_of_getElem? (i := 28) (by decide +kernel))) hA⟩
theorem law_nc {s : State} {b : Nat} (hts : ∀ w ∈ lw_tbl, w.before #[Value.ref b] s = true) (hg : (Jvm.Cond.and given_1 narrow_1).before #[Value.ref b] s = true) : jNc s :=
  ⟨⟨va_Nc.of (flat_of_before _ hg _ (List.mem_of_getElem? (i := 36) (by decide +kernel))), va_Nc.of (flat_of_before _ hg _ (List.mem_of_getElem? (i := 37) (by decide +kernel))), va_Nc.of (flat_of_before _ hg _ (List.mem_of_getElem? (i := 45) (by decide +kernel))), va_Nc.of (flat_of_before _ hg _ (List.mem_of_getElem? (i := 46) (by decide +kernel))), va_Nc.of (flat_of_before _ hg _ (List.mem_of_getElem? (i := 54) (by decide +kernel))), va_Nc.of (flat_of_before _ hg _ (List.mem_of_getElem? (i := 55) (by decide +kernel)))⟩, List.forall_mem_cons.mpr ⟨va_any rfl (hts _ (List.mem_of_getElem? (i := 554) (by decide +kernel))), List.forall_mem_cons.mpr ⟨va_any rfl (hts _ (List.mem_of_getElem? (i := 556) (by decide +kernel))), List.forall_mem_cons.mpr ⟨va_any rfl (hts _ (List.mem_of_getElem? (i := 558) (by decide +kernel))), List.forall_mem_cons.mpr ⟨va_any rfl (hts _ (List.mem_of_getElem? (i := 552) (by decide +kernel))), List.forall_mem_cons.mpr ⟨va_any rfl (hts _ (List.mem_of_getElem? (i := 623) (by decide +kernel))), List.forall_mem_cons.mpr ⟨va_any rfl (hts _ (List.mem_of_getElem? (i := 657) (by decide +kernel))), fun _ h => absurd h List.not_mem_nil⟩⟩⟩⟩⟩⟩⟩
theorem law_ao {s : State} {b : Nat} (hts : ∀ w ∈ lw_tbl, w.before #[Value.ref b] s = true) : jAO s := ⟨va_AO.of (hts _ (List.mem_of_getElem? (i := 82) (by decide +kernel))), va_AO.of (hts _ (List.mem_of_getElem? (i := 84) (by decide +kernel))), va_AO.of (hts _ (List.mem_of_getElem? (i := 228) (by decide +kernel)))⟩
theorem cP.mv {P P' : jP} {y : Nat} (T : cP P y) (G : ∀ b, y ≤ b → b < y + 366 → P' b = P b) : cP P' y := by
  obtain ⟨a1, a2, a3, a4, a5, a6, a7, a8, a9, a10⟩ := T
  exact ⟨by rw [G _ (by omega) (by omega)]; exact a1, by rw [G _ (by omega) (by omega)]; exact a2, by rw [G _ (by omega) (by omega)]; exact a3, by rw [G _ (by omega) (by omega)]; exact a4, by rw [G _ (by omega) (by omega)]; exact a5, by rw [G _ (by omega) (by omega)]; exact a6, by rw [G _ (by omega) (by omega)]; exact a7, a8.ag (fun b h1 h2 _ => G b (by omega) (by omega)), a9.ag (fun b h1 h2 _ => G b (by omega) (by omega)), fun i hi => (a10 i hi).ag (fun b h1 h2 _ => G b (by omega) (by omega))⟩
theorem cR.mv {I I' : jI} {P P' : jP} {y : Nat} {f : sF} {q : Nat} {pst : Nat → sF} {t : Nat} {ch : Nat → Nat} (R : cR I P y f q pst t ch) (F : ∀ b, y ≤ b → b < y + 366 → I' b = I b) (G : ∀ b, y ≤ b → b < y + 366 → P' b = P b) : cR I' P' y f q pst t ch :=
  ⟨R.T.mv G, R.M.ag R.V.m (fun b b1 b2 => F b (by omega) (by omega)) (G _ (by omega) (by omega)), R.V, R.U.ag (G _ (by omega) (by omega)), R.W.ag (fun i hi => (R.K i hi).m) (fun b b1 b2 => F b (by omega) b2) (fun b b1 b2 => G b (by omega) b2), R.K, (congrFun (F y (by omega) (by omega)) 6).trans R.hq, R.q6, R.B.ag (congrFun (F y (by omega) (by omega)) 7) (F _ (by omega) (by omega))⟩
theorem cS.mv {Sh Sh' : jS} {y : Nat} (S : cS Sh y) (F : ∀ a, y ≤ a → a < y + 366 → Sh' a = Sh a) : cS Sh' y := by
  obtain ⟨a1, a2, a3, a4, a5, a6, a7, a8, a9⟩ := S
  exact ⟨(F _ (by omega) (by omega)).trans a1, a2.ag (fun a h1 h2 => F a (by omega) (by omega)), a3.ag (fun a h1 h2 => F a (by omega) (by omega)), (F _ (by omega) (by omega)).trans a4, (F _ (by omega) (by omega)).trans a5, (F _ (by omega) (by omega)).trans a6, (F _ (by omega) (by omega)).trans a7, (F _ (by omega) (by omega)).trans a8, fun i hi => (a9 i hi).ag (fun a h1 h2 => F a (by omega) (by omega))⟩
theorem mS.mv {Sh Sh' : jS} {x : Nat} (S : mS Sh x) (F : ∀ a, x ≤ a → a < x + 7 → Sh' a = Sh a) : mS Sh' x := by
  obtain ⟨a1, a2, a3, a4, a5, a6, a7⟩ := S
  exact ⟨(F _ (by omega) (by omega)).trans a1, (F _ (by omega) (by omega)).trans a2, (F _ (by omega) (by omega)).trans a3, (F _ (by omega) (by omega)).trans a4, (F _ (by omega) (by omega)).trans a5, (F _ (by omega) (by omega)).trans a6, (F _ (by omega) (by omega)).trans a7⟩
set_option maxHeartbeats 4000000 in
theorem law_start {p : Program} {l : Launch} {e : Env} {s : State} {m : MethodId} {args : Array Value} {below : List Frame} {meth : Method} {c : Code} {D : va_G} {cA : Nat → ClassId} {Qf : State → Prop} (C : jC p room_1 s m args meth c D cA s.heap.size cL_law 9 RL 10) (hnc : jNc s) (hAO : jAO s) (hst : l.stackTraces = false) {b Ls : Nat} {xs : Nat → Int32} (hX : va_X b Ls xs s s.heap) (hbl : b < s.heap.size) (hLs : Ls ≤ 3072) (hend : ∀ (Sh : jS) (I : jI) (P : jP) (L : jL) (k n : Nat) (ls : List (Option Value)), k ≤ 601277 → n ≤ 7292274 → jJ p l e room_1 s m args below meth c D cA s.heap.size 9 Qf (fun _ => True) Sh I P L k n 1707 ls []) : jJ p l e room_1 s m args below meth c D cA s.heap.size 9 Qf (fun q => q = s.heap.size) (fun _ => none) (fun _ => zr) (fun _ => nr) (fun _ _ => 0) 0 0 0 [some (.ref b), none, none, none, none, none, none, none, none] [] := by
  refine jx_newO (pc := 0) C (ci := 5) (by decide) (N := 8) rfl (jWS_in 67 (by decide +kernel) rfl) (jWS_in 68 (by decide +kernel) rfl) (jWS_in 52 (by decide +kernel) rfl) (fun _ z => z) ⟨by show _ ≤ 601277; omega, by show _ ≤ 7292274; omega⟩ dL_law_0 ?_
  refine jx_dup (pc := 3) C dL_law_3 rfl ?_
  refine jx_callC (pc := 4) C hAO (go_L_87 C (Nat.le_of_ble_eq_true rfl) dL_law_4) (t_X5_init (b := s.heap.size) shp_s va_up_s) (by decide) (by decide) (fun _ z => z) ⟨by show _ ≤ 601277; omega, by show _ ≤ 7292274; omega⟩ (fun v4 z4 S4v I4 P4 L4 q4 => ?_)
  obtain ⟨rfl, rfl, S4, R4, F4, eL4⟩ := q4
  subst eL4
  refine jx_astore_n (pc := 7) C dL_law_7 (jset_1 jc_r) (by decide) ?_
  refine jx_newO (pc := 8) C (ci := 6) (by decide) (N := 13) rfl (jWS_in 860 (by decide +kernel) rfl) (jWS_in 861 (by decide +kernel) rfl) (jWS_in 58 (by decide +kernel) rfl) (fun _ z => z) ⟨by show _ ≤ 601277; omega, by show _ ≤ 7292274; omega⟩ dL_law_8 ?_
  refine jx_dup (pc := 11) C dL_law_11 rfl ?_
  refine jx_callC (pc := 12) C hAO (go_L_90 C (Nat.le_of_ble_eq_true rfl) dL_law_12) (t_X6_init (b := s.heap.size + 366) shp_s) (by decide) (by decide) (fun _ z => z) ⟨by show _ ≤ 601277; omega, by show _ ≤ 7292274; omega⟩ (fun v12 z12 S12 I12 P12 L12 q12 => ?_)
  obtain ⟨rfl, rfl, hS6, hP6, hI6, hz6, F12, eL12⟩ := q12
  subst eL12
  refine jx_astore_n (pc := 15) C dL_law_15 (jset_2 jc_r) (by decide) ?_
  refine jx_iconst (pc := 16) C dL_law_16 nc_1 ?_
  refine jx_newAL (pc := 17) C (fun _ z => z) (by decide) ⟨by show _ ≤ 601277; omega, by show _ ≤ 7292274; omega⟩ dL_law_17 ?_
  refine jx_astore_n (pc := 19) C dL_law_19 (jset_3 jc_r) (by decide) ?_
  refine jx_iconst (pc := 20) C dL_law_20 nc_0 ?_
  refine jx_istore (pc := 21) C dL_law_21 (jset_4 jc_r) (by decide) ?_
  have n12 : ∀ a, a < s.heap.size + 366 ∨ s.heap.size + 366 + 7 ≤ a → S12 a = S4v a ∧ I12 a = I4 a ∧ P12 a = P4 a := fun a ha => ⟨(F12 a ha).1.trans (shp_n (by omega)), (F12 a ha).2.1.trans (va_up_n (by omega)), (F12 a ha).2.2.trans (va_up_n (by omega))⟩
  have R5 : cR I12 P12 s.heap.size srow 0 (fun _ => srow) 0 (fun _ => 0) := (R4 (fun _ => srow) (fun _ => 0)).mv (fun a h1 h2 => (n12 a (by omega)).2.1) (fun a h1 h2 => (n12 a (by omega)).2.2)
  have R6 := R5.cong (g := I12 (s.heap.size + 366 + 1)) (pst' := fun _ => srow) (fun k _ => hI6 k) (fun i hi => absurd hi (Nat.not_lt_zero i))
  have hz : I12 (s.heap.size + 366) = zr := hz6.trans va_up_s
  have inv : lI 0 I12 P12 s.heap.size (s.heap.size + 366) := ⟨0, 0, fun _ => srow, fun _ => 0, R6, hP6, congrFun hz 3, congrFun hz 5, fun i hi => absurd hi (Nat.not_lt_zero i), fun j hj => absurd hj (Nat.not_lt_zero j), sB_cong (fun k _ => hI6 k) (by rw [smany_srow]; decide) sB_0, fun j hj => absurd hj (Nat.not_lt_zero j)⟩
  have S6 : cS (shp S12 (s.heap.size + 366 + 7) (11, 1)) s.heap.size := S4.mv (fun a h1 h2 => (shp_n (by omega)).trans (n12 a (by omega)).1)
  have S7 : mS (shp S12 (s.heap.size + 366 + 7) (11, 1)) (s.heap.size + 366) := hS6.mv (fun a h1 h2 => shp_n (by omega))
  exact jx_sz (fun _ _ => trivial) (jx_roomy (by omega) (by omega) (lp_law C hnc hst hX hbl hbl hLs S6 S7 shp_s (Nat.le_refl _) (hend _) 513 0 rfl _ _ _ inv))
