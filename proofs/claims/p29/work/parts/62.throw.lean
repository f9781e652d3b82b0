/-! THROWS: contracts of methods that may throw, the throw itself, calls that catch -/
def eI : String := "java/lang/IndexOutOfBoundsException"
def eA : String := "java/lang/IllegalArgumentException"
def eS : String := "java/lang/IllegalStateException"
def eN : List String := ["java/lang/RuntimeException", "java/lang/Exception"]
def eW (x : String) : MethodName := ⟨x, "<init>", "(Ljava/lang/String;)V"⟩
/-- the words of a throw that go by themselves -/
def jXL : List Cond := [.declares (eW "java/lang/RuntimeException"), .declares (eW "java/lang/Exception"), .declares (eW "java/lang/Throwable"), .castable eI eI, .castable eA eA, .castable eS eS]
def jtw : List Cond → List Nat → Bool
  | [], _ => true
  | _ :: _, [] => false
  | w :: ws, i :: is => (vx_ot w && ((decide (lw_tbl[i]? = some w) && goodWord w) || decide (w ∈ jXL))) && jtw ws is
theorem jtw_ok : ∀ {ws : List Cond} {is : List Nat}, jtw ws is = true → ∀ w ∈ ws, vx_ot w = true ∧ (w ∈ jWS ∨ w ∈ jXL) := by
  intro ws
  induction ws with
  | nil => intro is _ w hw; cases hw
  | cons w0 ws ih =>
    intro is h w hw
    cases is with
    | nil => cases h
    | cons i is =>
      unfold jtw at h
      simp only [Bool.and_eq_true, Bool.or_eq_true, decide_eq_true_eq] at h
      rcases List.mem_cons.mp hw with rfl | hw
      · exact ⟨h.1.1, h.1.2.elim (fun z => Or.inl (jWS_in i z.1 z.2)) Or.inr⟩
      · exact ih h.2 w hw
/-- the three exceptions are no kin; the words of a throw that go by themselves -/
def jNc (U : State) : Prop := (True ∧ True ∧ va_Nc eI eA U ∧ va_Nc eS eA U ∧ va_Nc eI eS U ∧ va_Nc eA eS U) ∧ ∀ w ∈ jXL, va_Nw w U
theorem jXL_ot : ∀ w ∈ jXL, w.onTables = true := by
  intro w h
  simp only [jXL, List.mem_cons, List.not_mem_nil, or_false] at h
  rcases h with rfl | rfl | rfl | rfl | rfl | rfl <;> rfl
theorem jNc.warm {u U : State} (hW : u.WarmedH U.vm) (h : jNc u) : jNc U := by
  refine ⟨⟨trivial, trivial, h.1.2.2.1.moved hW.alike, h.1.2.2.2.1.moved hW.alike, h.1.2.2.2.2.1.moved hW.alike, h.1.2.2.2.2.2.moved hW.alike⟩, fun w hw => ?_⟩
  have hz := h.2 w hw
  simp only [jXL, List.mem_cons, List.not_mem_nil, or_false] at hw
  rcases hw with rfl | rfl | rfl | rfl | rfl | rfl
  · exact va_Nw.warmD hW hz
  · exact va_Nw.warmD hW hz
  · exact va_Nw.warmD hW hz
  · exact va_tabs rfl (rfl : (u.setVm U.vm).vm = U.vm) (by rw [Cond.castable_setVm hW.alike]; exact hz)
  · exact va_tabs rfl (rfl : (u.setVm U.vm).vm = U.vm) (by rw [Cond.castable_setVm hW.alike]; exact hz)
  · exact va_tabs rfl (rfl : (u.setVm U.vm).vm = U.vm) (by rw [Cond.castable_setVm hW.alike]; exact hz)
theorem jNc.same {u U : State} (hvm : u.vm = U.vm) (h : jNc u) : jNc U := by
  have hA : u.vm.Alike U.vm := by rw [← hvm]; exact Vm.Alike.refl u.vm
  exact ⟨⟨trivial, trivial, h.1.2.2.1.moved hA, h.1.2.2.2.1.moved hA, h.1.2.2.2.2.1.moved hA, h.1.2.2.2.2.2.moved hA⟩, fun w hw => va_tabs (jXL_ot w hw) hvm (h.2 w hw)⟩
theorem jNc.use {U : State} {args : Array Value} {w : Cond} (h : jNc U) (hw : w ∈ jXL) : w.before args U = true := va_tabs (jXL_ot w hw) rfl (h.2 w hw)
/-- a method's end by an exception -/
def jXC (D : va_G) (cA : Nat → ClassId) (N0 : Nat) (Sh : jS) (QX : String → jI → jP → jL → Prop) : String → State → State → Prop := fun E st t => (∃ (I : jI) (P : jP) (L : jL), QX E I P L ∧ jW D cA N0 Sh I P L t.heap) ∧ va_F (fun q => N0 ≤ q) st t
/-- a contract of a method that may throw -/
def jXM (l : Launch) (D : va_G) (cA : Nat → ClassId) (N0 lv : Nat) (y : MethodName) (cc : ByteArray) (maxL : Nat) (ret : Option FieldType) (av : List Value) (Sh : jS) (I : jI) (P : jP) (L : jL) (Q : Option Value → jI → jP → jL → Prop) (QX : String → jI → jP → jL → Prop) : Prop :=
  vx_Met l y (Cond.code y cc maxL ret :: jWS) (jRm lv 1 6) (fun a U => jPx D cA N0 av (fun _ => True) Sh I P L a U ∧ jNc U) (jQn D cA N0 Sh Q) (jXC D cA N0 Sh QX) 1 6 (fun q => N0 ≤ q)
section THROWS
variable {p : Program} {l : Launch} {e : Env} {R : Room} {s : State} {m : MethodId} {args : Array Value} {below : List Frame} {meth : Method} {c : Code} {D : va_G} {cA : Nat → ClassId} {N0 : Nat} {cc : ByteArray} {nL : Nat} {own : String} {lv : Nat} {Qf : State → Prop} {Z : Nat → Prop} {Sh : jS} {I : jI} {P : jP} {L : jL} {k n pc : Nat} {ls : List (Option Value)} {st : List Value}
theorem jx_roomy {k' n' : Nat} (h1 : k ≤ k') (h2 : n ≤ n') (kk : jJ p l e R s m args below meth c D cA N0 nL Qf Z Sh I P L k' n' pc ls st) : jJ p l e R s m args below meth c D cA N0 nL Qf Z Sh I P L k n pc ls st :=
  fun H locs arr hW hZ hS hl T hT X => kk H locs arr hW hZ hS hl T hT (stand_widen X h1 h2)
/-- an end without an exception -/
theorem jx_end {Qc : Array Value → State → Outcome → State → Prop} {XC : String → State → State → Prop} {mc ms : Nat} {free : Addr → Prop} (kk : jJ p l e R s m args below meth c D cA N0 nL (MQ below Qc args s mc ms free) Z Sh I P L k n pc ls st) : jJ p l e R s m args below meth c D cA N0 nL (vx_MQ below Qc XC args s mc ms free) Z Sh I P L k n pc ls st :=
  fun H locs arr hW hZ hS hl => vx_ret (kk H locs arr hW hZ hS hl)
theorem jXM_of {y : MethodName} {ret : Option FieldType} {av : List Value} {Q : Option Value → jI → jP → jL → Prop} {QX : String → jI → jP → jL → Prop} (hy : plainName y.cls = true) (hlen : (lg_sl av).length ≤ nL)
    (body : ∀ (p : Program) (e : Env) (s : State) (m : MethodId) (args : Array Value) (below : List Frame) (meth : Method) (c : Code), jC p (jRm lv 1 6) s m args meth c D cA N0 cc nL y.cls lv → jNc s → meth.sig.returnType = ret → (∀ x ∈ c.exceptionTable.toList, False) → jJ p l e (jRm lv 1 6) s m args below meth c D cA N0 nL (vx_MQ below (jQn D cA N0 Sh Q) (jXC D cA N0 Sh QX) args s 1 6 (fun q => N0 ≤ q)) (fun _ => True) Sh I P L 0 0 0 (jpad nL (jin av)) []) :
    jXM l D cA N0 lv y cc nL ret av Sh I P L Q QX := by
  refine vx_ofW (cc := cc) (maxL := nL) (ret := ret) hy rfl ?_
  intro p e s m args below meth c s₁ B hml htb hv
  obtain ⟨⟨rfl, hW, hZ, hK, hN⟩, hnc⟩ := hv
  have hts := atoms_spec (ws := Cond.code y cc nL ret :: jWS) B.pre
  have C : jC p (jRm lv 1 6) s m av.toArray meth c D cA N0 cc nL y.cls lv := ⟨B.exec, B.bytes, hml, findClass_of_methodNamed B.named, fun w hw => hts w (List.mem_cons_of_mem _ hw), B.notSynchronized, hK, Nat.le_refl _, Nat.le_refl _, hN⟩
  have hl := lv_entry av (n := nL) hlen
  rw [lg_entry_eq]
  refine body p e s m av.toArray below meth c C hnc B.returns htb s.heap [] _ hW hZ va_S.rf ?_
  exact ⟨hl.1, hl.2.1, fun i v hi => hl.2.2 (i, v) (by have h := jin_args av 0 i v (jpad_of hi); rwa [Nat.zero_add] at h)⟩
theorem jtw_I : jtw (Cond.classLink RX5 41 eI :: Cond.initialized eI :: vx_atS RX5 45 eI eN) [333, 22, 18, 252, 261, 265, 268, 270, 253, 254, 31, 32, 255, 260, 266, 286, 242, 287, 244, 288, 246, 256, 258, 248, 282, 283, 285, 248, 344, 345, 346, 276, 234, 276, 277, 278, 279, 236, 279, 280, 281, 282, 238, 343, 334, 335, 336, 264, 337, 338, 339, 340, 251, 250, 341] = true := by decide +kernel
/-- throw new I(text) -/
theorem jx_thI (C : jC p (jRm lv 1 6) s m args meth c D cA N0 cc nL RX5 lv) (hnc : jNc s) (hst : l.stackTraces = false) (hlv : 7 ≤ lv) (htb : ∀ x ∈ c.exceptionTable.toList, False) {is : Nat} {text : String} (hin : (is, text) ∈ jST) {Qc : Array Value → State → Outcome → State → Prop} {QX : String → jI → jP → jL → Prop} (hq : QX eI I P L)
    (d0 : decode cc pc = .ok (.new 41, 3)) (d3 : decode cc (pc + 3) = .ok (.dup, 1)) (d4 : decode cc (pc + 4) = .ok (.ldc is, 2)) (d6 : decode cc (pc + 6) = .ok (.invokespecial 45, 3)) (d9 : decode cc (pc + 9) = .ok (.athrow, 1)) :
    jJ p l e (jRm lv 1 6) s m args below meth c D cA N0 nL (vx_MQ below Qc (jXC D cA N0 Sh QX) args s 1 6 (fun q => N0 ≤ q)) Z Sh I P L 0 0 pc ls [] := by
  intro H locs arr hW hZ hS hl
  obtain ⟨hx, hb, hml, hown, hts, hlk, hK, hf, hloc, hN⟩ := C
  obtain ⟨sa, hsa⟩ := hK.2.2.1 _ hin
  have hw := jtw_ok jtw_I
  have ha : ∀ w ∈ (Cond.classLink RX5 41 eI :: Cond.initialized eI :: vx_atS RX5 45 eI eN), w.before args s = true := fun w h => (hw w h).2.elim (hts w) (fun z => hnc.use z)
  refine vx_throwS (A := fun q => N0 ≤ q) hx hb hst (own := RX5) (cls := eI) (text := text) (names := eN) (ik := 41) (is := is) (ic := 45) (sa := sa) hown (by decide +kernel) (by decide +kernel) (ha _ List.mem_cons_self) (ha _ (List.mem_cons_of_mem _ List.mem_cons_self)) hsa (fun w h => ha w (List.mem_cons_of_mem _ (List.mem_cons_of_mem _ h))) (fun w h => (hw w h).1) hK.2.2.2.2.2.2.1 hK.2.2.2.2.2.2.2 hS (hl.1.trans hml.symm) d0 d3 d4 d6 d9 (fun x h => (htb x h).elim) (by show 2 + 3 < lv; omega) (by show 0 + (13 * (2 + 1) + 43) ≤ 40 * lv; omega) (Nat.le_refl 1) (Nat.le_refl 6) hlk ?_ hS.2.2 (Nat.le_refl 1) (Nat.le_refl 6)
  intro t hal hz hk
  exact ⟨⟨I, P, L, hq, hW.kept hk⟩, Nat.le_trans hS.1 hz, fun q h1 h2 => by rw [hk q (Nat.lt_of_lt_of_le h1 hS.1)]; exact hS.2.1 q h1 h2⟩
theorem jtw_A : jtw (Cond.classLink RX5 51 eA :: Cond.initialized eA :: vx_atS RX5 55 eA eN) [230, 21, 18, 252, 261, 265, 268, 270, 253, 254, 31, 32, 255, 260, 266, 286, 242, 287, 244, 288, 246, 256, 258, 248, 282, 283, 285, 248, 273, 274, 275, 276, 234, 276, 277, 278, 279, 236, 279, 280, 281, 282, 238, 272, 231, 232, 239, 240, 241, 243, 245, 247, 251, 250, 249] = true := by decide +kernel
/-- throw new A(text) -/
theorem jx_thA (C : jC p (jRm lv 1 6) s m args meth c D cA N0 cc nL RX5 lv) (hnc : jNc s) (hst : l.stackTraces = false) (hlv : 7 ≤ lv) (htb : ∀ x ∈ c.exceptionTable.toList, False) {is : Nat} {text : String} (hin : (is, text) ∈ jST) {Qc : Array Value → State → Outcome → State → Prop} {QX : String → jI → jP → jL → Prop} (hq : QX eA I P L)
    (d0 : decode cc pc = .ok (.new 51, 3)) (d3 : decode cc (pc + 3) = .ok (.dup, 1)) (d4 : decode cc (pc + 4) = .ok (.ldc is, 2)) (d6 : decode cc (pc + 6) = .ok (.invokespecial 55, 3)) (d9 : decode cc (pc + 9) = .ok (.athrow, 1)) :
    jJ p l e (jRm lv 1 6) s m args below meth c D cA N0 nL (vx_MQ below Qc (jXC D cA N0 Sh QX) args s 1 6 (fun q => N0 ≤ q)) Z Sh I P L 0 0 pc ls [] := by
  intro H locs arr hW hZ hS hl
  obtain ⟨hx, hb, hml, hown, hts, hlk, hK, hf, hloc, hN⟩ := C
  obtain ⟨sa, hsa⟩ := hK.2.2.1 _ hin
  have hw := jtw_ok jtw_A
  have ha : ∀ w ∈ (Cond.classLink RX5 51 eA :: Cond.initialized eA :: vx_atS RX5 55 eA eN), w.before args s = true := fun w h => (hw w h).2.elim (hts w) (fun z => hnc.use z)
  refine vx_throwS (A := fun q => N0 ≤ q) hx hb hst (own := RX5) (cls := eA) (text := text) (names := eN) (ik := 51) (is := is) (ic := 55) (sa := sa) hown (by decide +kernel) (by decide +kernel) (ha _ List.mem_cons_self) (ha _ (List.mem_cons_of_mem _ List.mem_cons_self)) hsa (fun w h => ha w (List.mem_cons_of_mem _ (List.mem_cons_of_mem _ h))) (fun w h => (hw w h).1) hK.2.2.2.2.2.2.1 hK.2.2.2.2.2.2.2 hS (hl.1.trans hml.symm) d0 d3 d4 d6 d9 (fun x h => (htb x h).elim) (by show 2 + 3 < lv; omega) (by show 0 + (13 * (2 + 1) + 43) ≤ 40 * lv; omega) (Nat.le_refl 1) (Nat.le_refl 6) hlk ?_ hS.2.2 (Nat.le_refl 1) (Nat.le_refl 6)
  intro t hal hz hk
  exact ⟨⟨I, P, L, hq, hW.kept hk⟩, Nat.le_trans hS.1 hz, fun q h1 h2 => by rw [hk q (Nat.lt_of_lt_of_le h1 hS.1)]; exact hS.2.1 q h1 h2⟩
theorem jtw_S : jtw (Cond.classLink RX5 89 eS :: Cond.initialized eS :: vx_atS RX5 93 eS eN) [509, 23, 18, 252, 261, 265, 268, 270, 253, 254, 31, 32, 255, 260, 266, 286, 242, 287, 244, 288, 246, 256, 258, 248, 282, 283, 285, 248, 520, 521, 522, 276, 234, 276, 277, 278, 279, 236, 279, 280, 281, 282, 238, 519, 510, 511, 512, 263, 513, 514, 515, 516, 251, 250, 517] = true := by decide +kernel
/-- throw new S(text) -/
theorem jx_thS (C : jC p (jRm lv 1 6) s m args meth c D cA N0 cc nL RX5 lv) (hnc : jNc s) (hst : l.stackTraces = false) (hlv : 7 ≤ lv) (htb : ∀ x ∈ c.exceptionTable.toList, False) {is : Nat} {text : String} (hin : (is, text) ∈ jST) {Qc : Array Value → State → Outcome → State → Prop} {QX : String → jI → jP → jL → Prop} (hq : QX eS I P L)
    (d0 : decode cc pc = .ok (.new 89, 3)) (d3 : decode cc (pc + 3) = .ok (.dup, 1)) (d4 : decode cc (pc + 4) = .ok (.ldc is, 2)) (d6 : decode cc (pc + 6) = .ok (.invokespecial 93, 3)) (d9 : decode cc (pc + 9) = .ok (.athrow, 1)) :
    jJ p l e (jRm lv 1 6) s m args below meth c D cA N0 nL (vx_MQ below Qc (jXC D cA N0 Sh QX) args s 1 6 (fun q => N0 ≤ q)) Z Sh I P L 0 0 pc ls [] := by
  intro H locs arr hW hZ hS hl
  obtain ⟨hx, hb, hml, hown, hts, hlk, hK, hf, hloc, hN⟩ := C
  obtain ⟨sa, hsa⟩ := hK.2.2.1 _ hin
  have hw := jtw_ok jtw_S
  have ha : ∀ w ∈ (Cond.classLink RX5 89 eS :: Cond.initialized eS :: vx_atS RX5 93 eS eN), w.before args s = true := fun w h => (hw w h).2.elim (hts w) (fun z => hnc.use z)
  refine vx_throwS (A := fun q => N0 ≤ q) hx hb hst (own := RX5) (cls := eS) (text := text) (names := eN) (ik := 89) (is := is) (ic := 93) (sa := sa) hown (by decide +kernel) (by decide +kernel) (ha _ List.mem_cons_self) (ha _ (List.mem_cons_of_mem _ List.mem_cons_self)) hsa (fun w h => ha w (List.mem_cons_of_mem _ (List.mem_cons_of_mem _ h))) (fun w h => (hw w h).1) hK.2.2.2.2.2.2.1 hK.2.2.2.2.2.2.2 hS (hl.1.trans hml.symm) d0 d3 d4 d6 d9 (fun x h => (htb x h).elim) (by show 2 + 3 < lv; omega) (by show 0 + (13 * (2 + 1) + 43) ≤ 40 * lv; omega) (Nat.le_refl 1) (Nat.le_refl 6) hlk ?_ hS.2.2 (Nat.le_refl 1) (Nat.le_refl 6)
  intro t hal hz hk
  exact ⟨⟨I, P, L, hq, hW.kept hk⟩, Nat.le_trans hS.1 hz, fun q h1 h2 => by rw [hk q (Nat.lt_of_lt_of_le h1 hS.1)]; exact hS.2.1 q h1 h2⟩
/-- thrown over the frame -/
def jTJ (p : Program) (l : Launch) (e : Env) (R : Room) (s : State) (m : MethodId) (args : Array Value) (below : List Frame) (meth : Method) (c : Code) (D : va_G) (cA : Nat → ClassId) (N0 nL : Nat) (Qf : State → Prop) (Sh : jS) (I : jI) (P : jP) (L : jL) (k n pc : Nat) (ls : List (Option Value)) (rest : List Value) (E : String) : Prop :=
  ∀ (H : Heap) (locs : List Loc) (arr : Array Slot) (q : Addr) (ce : Cell), jW D cA N0 Sh I P L H → va_S (fun q => N0 ≤ q) s.heap H locs → jl arr nL ls → H[q]? = some ce → ce.vm = .none → s.vm.findClass E = some ce.cls → vx_W p l e R s m args below meth c H locs k n Qf (F0 m pc arr rest) q
theorem jx_callX (C : jC p R s m args meth c D cA N0 cc nL own lv) (hnc : jNc s) {y : MethodName} {bytes : ByteArray} {maxL lv' idx b n0 na : Nat} {ret : Option FieldType} {As rest : List Value} {Q : Option Value → jI → jP → jL → Prop} {QX : String → jI → jP → jL → Prop} (hy : jyOK y na) (hcl : y.cls = RX5) (hw : Cond.code y bytes maxL ret ∈ jWS) (w1 : Cond.methodLink own idx y ∈ jWS) (w2 : Cond.instanceMethod y ∈ jWS) (w3 : Cond.selects y.cls y y ∈ jWS) (w4 : Cond.initialized y.cls ∈ jWS) (hsh : Sh b = some (5, n0)) (hn : As.length = na) (hcat : (rest.map fun v => v.category).sum ≤ 8) (d : decode cc pc = .ok (.invokevirtual idx, 3))
    (hM : jXM l D cA N0 lv' y bytes maxL ret (.ref b :: As) Sh I P L Q QX) (hlv : lv' + 1 ≤ lv) (hmx : maxL ≤ 21) (hkn : k + 1 ≤ R.cells ∧ n + 6 ≤ R.slots)
    (kx : ∀ (E : String) (I' : jI) (P' : jP) (L' : jL), QX E I' P' L' → jTJ p l e R s m args below meth c D cA N0 nL Qf Sh I' P' L' (k + 1) (n + 6) pc ls rest E)
    (kk : ∀ (v : Option Value) (I' : jI) (P' : jP) (L' : jL), Q v I' P' L' → jJ p l e R s m args below meth c D cA N0 nL Qf (fun _ => True) Sh I' P' L' (k + 1) (n + 6) (pc + 3) ls (v.toList ++ rest)) : jJ p l e R s m args below meth c D cA N0 nL Qf Z Sh I P L k n pc ls (As.reverse ++ .ref b :: rest) := by
  intro H locs arr hW hZ hS hl
  obtain ⟨hx, hb, hml, hown, hts, hlk, hK, hRf, hRl, hN⟩ := C
  have hrecv : ∃ cellB : Cell, H[b]? = some cellB ∧ cellB.vm.isStatics = false ∧ s.vm.findClass y.cls = some cellB.cls := by
    obtain ⟨cell, g1, g2, g3, -⟩ := hW.obj (by decide : 5 < 6) hsh
    exact ⟨cell, g1, by rw [g3]; rfl, by rw [g2, hcl]; exact (hK.1.1 5 _ (jcl (by decide))).2.1⟩
  have hr := vx_runV (H := H) (locs := locs) (cells := k) (slots := n) (g := F0 m pc arr (As.reverse ++ .ref b :: rest)) (rest := rest) (below := below) (l := l) (e := e) (p := p) (R := R) (meth := meth) (C := y.cls) ⟨hx, hb, hml, hown, hts⟩ hM ⟨callB_of na hts (jWS_goodIn hw) rfl rfl rfl (hts _ w4) (hts _ w1) hy ⟨by show lv' + 1 ≤ R.frames; omega, by show 8 + (maxL + 11) + 40 * lv' ≤ R.locals; omega⟩, hts _ w2, hts _ w3⟩
    ⟨fun a U g mk q => ⟨jPx_blind a U g mk q.1, q.2.same (u := U) (U := U.calling g mk a) rfl⟩, hrecv, fun U hU hWm => ⟨⟨rfl, by rw [hU]; exact hW, trivial, by rw [hU]; exact hK.warm hWm hS.2.1, by rw [hU]; exact Nat.le_trans hN hS.1⟩, hnc.warm hWm⟩⟩ rfl hn hl.1 rfl (lv_room hcat) d hkn
  intro T hT X
  rcases hr T hT X with ⟨v, st₀, t, T', L1, h0, X', hL, e1, e2, ⟨⟨v2, Sh', I', P', L', hv, ⟨rfl, hq⟩, hW'⟩, hz, hk⟩, stp⟩ | ⟨q, st₀, t, T', L1, E, ce, h0, X', hL, e1, e2, ⟨⟨I', P', L', hq, hW'⟩, hz, hk⟩, hce, hcv, hcl2, stp⟩
  · cases hv
    rw [h0] at hz hk
    obtain ⟨t2, a1, b1⟩ := kk v I' P' L' hq T'.heap (locs ++ L1) arr (by rw [e1]; exact hW') trivial
      ⟨Nat.le_trans hS.1 (by rw [e1]; exact hz), fun q h1 h2 => by rw [e1, hk q (Nat.lt_of_lt_of_le h1 hS.1) h2]; exact hS.2.1 q h1 h2, fun q hq => by
        rcases List.mem_append.mp hq with h | h
        · exact hS.2.2 q h
        · exact hL q h⟩ hl T' rfl X'
    exact ⟨t2, stp t2 a1, b1⟩
  · rw [h0] at hz hk
    obtain ⟨t2, a1, b1⟩ := kx E I' P' L' hq T'.heap (locs ++ L1) arr q ce (by rw [e1]; exact hW')
      ⟨Nat.le_trans hS.1 (by rw [e1]; exact hz), fun q h1 h2 => by rw [e1, hk q (Nat.lt_of_lt_of_le h1 hS.1) h2]; exact hS.2.1 q h1 h2, fun q hq => by
        rcases List.mem_append.mp hq with h | h
        · exact hS.2.2 q h
        · exact hL q h⟩ hl (by rw [e1]; exact hce) hcv hcl2 T' rfl X'
    exact ⟨t2, stp.trans a1, b1⟩
/-- caught here -/
theorem jx_catch (C : jC p R s m args meth c D cA N0 cc nL own lv) {E : String} (pre : List ExceptionTableEntry) (x : ExceptionTableEntry) (suf : List ExceptionTableEntry) (hsplit : c.exceptionTable.toList = pre ++ x :: suf)
    (hpass : ∀ z ∈ pre, covers z pc = false ∨ (z.catchType ≠ 0 ∧ ∃ nm : String, (Cond.classLink own z.catchType nm).before args s = true ∧ va_Nc E nm s)) (hx : covers x pc = true) (h0 : x.catchType ≠ 0) (hnc : jNc s) (hlink : Cond.classLink own x.catchType E ∈ jWS) (hcast : Cond.castable E E ∈ jXL) {rest : List Value}
    (kk : ∀ q : Nat, jJ p l e R s m args below meth c D cA N0 nL Qf (fun _ => True) Sh I P L k n x.handlerPc ls [.ref q]) : jTJ p l e R s m args below meth c D cA N0 nL Qf Sh I P L k n pc ls rest E :=
  fun H locs arr q ce hW hS hl hce hcv hcl => vx_catch C.2.2.2.1 pre x suf hsplit hpass hx h0 (C.2.2.2.2.1 _ hlink) (hnc.use hcast) hce hcv hcl (kk q H locs arr hW trivial hS hl)
/-- wrappers: methods with handlers that throw nothing -/
def jWM (l : Launch) (D : va_G) (cA : Nat → ClassId) (N0 lv : Nat) (y : MethodName) (cc : ByteArray) (maxL : Nat) (ret : Option FieldType) (hh : List (Nat × Nat × Nat × Nat)) (av : List Value) (Sh : jS) (I : jI) (P : jP) (L : jL) (Q : Option Value → jI → jP → jL → Prop) : Prop :=
  vx_Met l y (Cond.codeWith y cc maxL ret hh :: jWS) (jRm lv 1 6) (fun a U => jPx D cA N0 av (fun _ => True) Sh I P L a U ∧ jNc U) (jQn D cA N0 Sh Q) (fun _ _ _ => False) 1 6 (fun q => N0 ≤ q)
theorem jWM_of {y : MethodName} {ret : Option FieldType} {hh : List (Nat × Nat × Nat × Nat)} {av : List Value} {Q : Option Value → jI → jP → jL → Prop} (hy : plainName y.cls = true) (hlen : (lg_sl av).length ≤ nL)
    (body : ∀ (p : Program) (e : Env) (s : State) (m : MethodId) (args : Array Value) (below : List Frame) (meth : Method) (c : Code), jC p (jRm lv 1 6) s m args meth c D cA N0 cc nL y.cls lv → jNc s → meth.sig.returnType = ret → c.exceptionTable.toList = tableOf hh → jJ p l e (jRm lv 1 6) s m args below meth c D cA N0 nL (MQ below (jQn D cA N0 Sh Q) args s 1 6 (fun q => N0 ≤ q)) (fun _ => True) Sh I P L 0 0 0 (jpad nL (jin av)) []) :
    jWM l D cA N0 lv y cc nL ret hh av Sh I P L Q := by
  refine vx_ofWH (cc := cc) (maxL := nL) (ret := ret) (hh := hh) hy rfl ?_
  intro p e s m args below meth c s₁ B hml hv
  obtain ⟨⟨rfl, hW, hZ, hK, hN⟩, hnc⟩ := hv
  have hts := atoms_spec (ws := Cond.codeWith y cc nL ret hh :: jWS) B.pre
  have C : jC p (jRm lv 1 6) s m av.toArray meth c D cA N0 cc nL y.cls lv := ⟨B.exec, B.bytes, hml, findClass_of_methodNamed B.named, fun w hw => hts w (List.mem_cons_of_mem _ hw), B.notSynchronized, hK, Nat.le_refl _, Nat.le_refl _, hN⟩
  have hl := lv_entry av (n := nL) hlen
  rw [lg_entry_eq]
  refine vx_ret (body p e s m av.toArray below meth c C hnc B.returns (vx_table (x := y) B (hts _ List.mem_cons_self)) s.heap [] _ hW hZ va_S.rf ?_)
  exact ⟨hl.1, hl.2.1, fun i v hi => hl.2.2 (i, v) (by have h := jin_args av 0 i v (jpad_of hi); rwa [Nat.zero_add] at h)⟩
theorem jx_callW (C : jC p R s m args meth c D cA N0 cc nL own lv) (hnc : jNc s) {y : MethodName} {bytes : ByteArray} {maxL lv' idx na : Nat} {ret : Option FieldType} {hh : List (Nat × Nat × Nat × Nat)} {As rest : List Value} {Q : Option Value → jI → jP → jL → Prop} (hy : jyOK y na) (hw : Cond.codeWith y bytes maxL ret hh ∈ jWS) (w1 : Cond.methodLink own idx y ∈ jWS) (w2 : Cond.static y ∈ jWS) (w4 : Cond.initialized y.cls ∈ jWS) (hn : As.length = na) (hcat : (rest.map fun v => v.category).sum ≤ 8) (d : decode cc pc = .ok (.invokestatic idx, 3))
    (hM : jWM l D cA N0 lv' y bytes maxL ret hh As Sh I P L Q) (hlv : lv' + 1 ≤ R.frames) (hlo : 8 + (maxL + 11) + 40 * lv' ≤ R.locals) (hkn : k + 1 ≤ R.cells ∧ n + 6 ≤ R.slots)
    (kk : ∀ (v : Option Value) (I' : jI) (P' : jP) (L' : jL), Q v I' P' L' → jJ p l e R s m args below meth c D cA N0 nL Qf (fun _ => True) Sh I' P' L' (k + 1) (n + 6) (pc + 3) ls (v.toList ++ rest)) : jJ p l e R s m args below meth c D cA N0 nL Qf Z Sh I P L k n pc ls (As.reverse ++ rest) := by
  intro H locs arr hW hZ hS hl
  obtain ⟨hx, hb, hml, hown, hts, hlk, hK, hRf, hRl, hN⟩ := C
  have hgi : GoodIn jWS (va_wsS own idx y (Cond.codeWith y bytes maxL ret hh :: jWS)) := by
    intro w h
    have h1 : w ∈ jWS := by
      simp only [va_wsS, List.mem_append, List.mem_cons, List.not_mem_nil, or_false] at h
      rcases h with (rfl | rfl | rfl) | rfl | h <;> assumption
    exact ⟨h1, good_of_word (jWS_good h1)⟩
  have hr := vx_runSX (H := H) (locs := locs) (cells := k) (slots := n) (g := F0 m pc arr (As.reverse ++ rest)) (rest := rest) (below := below) (l := l) (e := e) (p := p) (R := R) (meth := meth) (hh := hh) ⟨hx, hb, hml, hown, hts⟩ hM (vx_cwSW na hts hgi rfl rfl rfl hy ⟨hlv, hlo⟩)
    ⟨fun a U g mk q => ⟨jPx_blind a U g mk q.1, q.2.same (u := U) (U := U.calling g mk a) rfl⟩, fun U hU hWm => ⟨⟨rfl, by rw [hU]; exact hW, trivial, by rw [hU]; exact hK.warm hWm hS.2.1, by rw [hU]; exact Nat.le_trans hN hS.1⟩, hnc.warm hWm⟩⟩ rfl hn hl.1 rfl (lv_room hcat) d hkn
  intro T hT X
  rcases hr T hT X with ⟨v, st₀, t, T', L1, h0, X', hL, e1, e2, ⟨⟨v2, Sh', I', P', L', hv, ⟨rfl, hq⟩, hW'⟩, hz, hk⟩, stp⟩ | ⟨q, st₀, t, T', L1, E, ce, h0, X', hL, e1, e2, hF, -⟩
  · cases hv
    rw [h0] at hz hk
    obtain ⟨t2, a1, b1⟩ := kk v I' P' L' hq T'.heap (locs ++ L1) arr (by rw [e1]; exact hW') trivial
      ⟨Nat.le_trans hS.1 (by rw [e1]; exact hz), fun q h1 h2 => by rw [e1, hk q (Nat.lt_of_lt_of_le h1 hS.1) h2]; exact hS.2.1 q h1 h2, fun q hq => by
        rcases List.mem_append.mp hq with h | h
        · exact hS.2.2 q h
        · exact hL q h⟩ hl T' rfl X'
    exact ⟨t2, stp t2 a1, b1⟩
  · exact hF.elim
end THROWS
