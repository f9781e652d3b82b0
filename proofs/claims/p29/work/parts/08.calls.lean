/-- a method's end: its answer, the size of the heap, the memory -/
def jQx (D : va_G) (cA : Nat → ClassId) (N0 : Nat) (Q : Option Value → Nat → jS → jI → jP → jL → Prop) : Array Value → State → Outcome → State → Prop := fun _ st o t => (∃ (v : Option Value) (Sh : jS) (I : jI) (P : jP) (L : jL), o = .returned v ∧ Q v t.heap.size Sh I P L ∧ jW D cA N0 Sh I P L t.heap) ∧ va_F (fun q => N0 ≤ q) st t
/-- a method's start -/
def jPx (D : va_G) (cA : Nat → ClassId) (N0 : Nat) (av : List Value) (Z : Nat → Prop) (Sh : jS) (I : jI) (P : jP) (L : jL) : Array Value → State → Prop := va_Pc av (fun U => jW D cA N0 Sh I P L U.heap ∧ Z U.heap.size ∧ jK D cA N0 U U.heap ∧ N0 ≤ U.heap.size)
def jRm (lv mc ms : Nat) : Room := { frames := lv, cells := mc, slots := ms, locals := 40 * lv }
/-- a method's contract -/
def jM (l : Launch) (D : va_G) (cA : Nat → ClassId) (N0 lv mc ms : Nat) (y : MethodName) (cc : ByteArray) (maxL : Nat) (ret : Option FieldType) (av : List Value) (Z : Nat → Prop) (Sh : jS) (I : jI) (P : jP) (L : jL) (Q : Option Value → Nat → jS → jI → jP → jL → Prop) : Prop :=
  Met l y (Cond.code y cc maxL ret :: jWS) (jRm lv mc ms) (jPx D cA N0 av Z Sh I P L) (jQx D cA N0 Q) mc ms (fun q => N0 ≤ q)
theorem jPx_blind {D : va_G} {cA : Nat → ClassId} {N0 : Nat} {av : List Value} {Z : Nat → Prop} {Sh : jS} {I : jI} {P : jP} {L : jL} : FrameBlind (jPx D cA N0 av Z Sh I P L) := fun a U g mk q => ⟨q.1, q.2.1, q.2.2.1, q.2.2.2.1.calling, q.2.2.2.2⟩
def jpad (nL : Nat) (ls : List (Option Value)) : List (Option Value) := ls ++ List.replicate (nL - ls.length) none
theorem jpad_of {nL i : Nat} {v : Value} {ls : List (Option Value)} (h : (jpad nL ls)[i]? = some (some v)) : ls[i]? = some (some v) := by
  unfold jpad at h
  by_cases hi : i < ls.length
  · rwa [List.getElem?_append_left hi] at h
  · rw [List.getElem?_append_right (by omega)] at h
    have := List.getElem?_eq_some_iff.mp h
    obtain ⟨h1, h2⟩ := this
    rw [List.getElem_replicate] at h2
    cases h2
section JM
variable {p : Program} {l : Launch} {e : Env} {R : Room} {s : State} {m : MethodId} {args : Array Value} {below : List Frame} {meth : Method} {c : Code} {D : va_G} {cA : Nat → ClassId} {N0 : Nat} {cc : ByteArray} {nL : Nat} {own : String} {lv : Nat} {Qf : State → Prop} {Z : Nat → Prop} {Sh : jS} {I : jI} {P : jP} {L : jL} {k n pc : Nat} {ls : List (Option Value)} {st : List Value}
theorem jM_of {y : MethodName} {ret : Option FieldType} {mc ms : Nat} {av : List Value} {Q : Option Value → Nat → jS → jI → jP → jL → Prop} (hy : plainName y.cls = true) (hlen : (lg_sl av).length ≤ nL)
    (body : ∀ (p : Program) (e : Env) (s : State) (m : MethodId) (args : Array Value) (below : List Frame) (meth : Method) (c : Code), jC p (jRm lv mc ms) s m args meth c D cA N0 cc nL y.cls lv → meth.sig.returnType = ret → meth.name = y.name → jJ p l e (jRm lv mc ms) s m args below meth c D cA N0 nL (MQ below (jQx D cA N0 Q) args s mc ms (fun q => N0 ≤ q)) Z Sh I P L 0 0 0 (jpad nL (jin av)) []) :
    jM l D cA N0 lv mc ms y cc nL ret av Z Sh I P L Q := by
  refine Met.ofW (cc := cc) (maxL := nL) (ret := ret) hy rfl ?_
  intro p e s m args below meth c s₁ B hml hv
  obtain ⟨rfl, hW, hZ, hK, hN⟩ := hv
  have hts := atoms_spec (ws := Cond.code y cc nL ret :: jWS) B.pre
  have C : jC p (jRm lv mc ms) s m av.toArray meth c D cA N0 cc nL y.cls lv := ⟨B.exec, B.bytes, hml, findClass_of_methodNamed B.named, fun w hw => hts w (List.mem_cons_of_mem _ hw), B.notSynchronized, hK, Nat.le_refl _, Nat.le_refl _, hN⟩
  have hl := lv_entry av (n := nL) hlen
  rw [lg_entry_eq]
  refine body p e s m av.toArray below meth c C B.returns (name_of_methodNamed B.named B.method).1 s.heap [] _ hW hZ va_S.rf ?_
  exact ⟨hl.1, hl.2.1, fun i v hi => hl.2.2 (i, v) (by have h := jin_args av 0 i v (jpad_of hi); rwa [Nat.zero_add] at h)⟩
/-- the instruction at pc calls y with av -/
def jGo (p : Program) (l : Launch) (e : Env) (R : Room) (s : State) (m : MethodId) (args : Array Value) (below : List Frame) (meth : Method) (c : Code) (D : va_G) (cA : Nat → ClassId) (N0 nL : Nat) (Sh : jS) (y : MethodName) (bytes : ByteArray) (maxL : Nat) (ret : Option FieldType) (pc : Nat) (av rest st : List Value) : Prop :=
  ∀ (H : Heap) (locs : List Loc) (k n : Nat) (arr : Array Slot) (I : jI) (P : jP) (L : jL) (rm : Room) (mc ms : Nat) (Pc : Array Value → State → Prop) (Qc : Array Value → State → Outcome → State → Prop) (free : Addr → Prop),
    jW D cA N0 Sh I P L H → arr.size = nL → Met l y (Cond.code y bytes maxL ret :: jWS) rm Pc Qc mc ms free → rm.cells = mc → rm.slots = ms → rm.frames + 1 ≤ R.frames → 8 + (maxL + 11) + rm.locals ≤ R.locals → FrameBlind Pc → (∀ U : State, U.heap = H → s.WarmedH U.vm → Pc av.toArray U) → k + mc ≤ R.cells ∧ n + ms ≤ R.slots →
    va_Run p l e R s m args below meth c H locs k n mc ms (F0 m pc arr st) rest (Qc av.toArray) free
theorem jWS_goodIn {y : MethodName} {bytes : ByteArray} {maxL : Nat} {ret : Option FieldType} (hw : Cond.code y bytes maxL ret ∈ jWS) : GoodIn jWS (Cond.code y bytes maxL ret :: jWS) := by
  intro w h
  have h1 : w ∈ jWS := (List.mem_cons.mp h).elim (fun e => by rw [e]; exact hw) id
  exact ⟨h1, good_of_word (jWS_good h1)⟩
def jyOK (y : MethodName) (na : Nat) : Prop := y.cls ≠ "java/lang/invoke/MethodHandle" ∧ y.cls ≠ "java/lang/invoke/VarHandle" ∧ (parseMethodDescriptor y.desc).map (fun d => d.parameters.length) = some na
theorem jgo_V (C : jC p R s m args meth c D cA N0 cc nL own lv) {y : MethodName} {bytes : ByteArray} {maxL idx b ci n0 na : Nat} {ret : Option FieldType} {As rest : List Value} (hy : jyOK y na) (hci : ci < 6) (hcl : y.cls = jR ci) (hw : Cond.code y bytes maxL ret ∈ jWS) (w1 : Cond.methodLink own idx y ∈ jWS) (w2 : Cond.instanceMethod y ∈ jWS) (w3 : Cond.selects y.cls y y ∈ jWS) (w4 : Cond.initialized y.cls ∈ jWS) (hsh : Sh b = some (ci, n0)) (hn : As.length = na) (hcat : (rest.map fun v => v.category).sum ≤ 8) (d : decode cc pc = .ok (.invokevirtual idx, 3)) :
    jGo p l e R s m args below meth c D cA N0 nL Sh y bytes maxL ret pc (.ref b :: As) rest (As.reverse ++ .ref b :: rest) := by
  intro H locs k n arr I P L rm mc ms Pc Qc free hW harr hM hrc hrs hfr hlo hbl hPc hkn
  obtain ⟨hx, hb, hml, hown, hts, hlk, hK, -⟩ := C
  have hrecv : ∃ cellB : Cell, H[b]? = some cellB ∧ cellB.vm.isStatics = false ∧ s.vm.findClass y.cls = some cellB.cls := by
    obtain ⟨cell, g1, g2, g3, -⟩ := hW.obj hci hsh
    exact ⟨cell, g1, by rw [g3]; rfl, by rw [g2, hcl]; exact (hK.1.1 ci _ (jcl hci)).2.1⟩
  exact va_runV (C := y.cls) ⟨hx, hb, hml, hown, hts⟩ hM ⟨callB_of na hts (jWS_goodIn hw) rfl hrc hrs (hts _ w4) (hts _ w1) hy ⟨hfr, hlo⟩, hts _ w2, hts _ w3⟩ ⟨hbl, hrecv, hPc⟩ rfl hn harr rfl (lv_room hcat) d hkn
theorem jgo_S (C : jC p R s m args meth c D cA N0 cc nL own lv) {y : MethodName} {bytes : ByteArray} {maxL idx na : Nat} {ret : Option FieldType} {As rest : List Value} (hy : jyOK y na) (hw : Cond.code y bytes maxL ret ∈ jWS) (w1 : Cond.methodLink own idx y ∈ jWS) (w2 : Cond.static y ∈ jWS) (w4 : Cond.initialized y.cls ∈ jWS) (hn : As.length = na) (hcat : (rest.map fun v => v.category).sum ≤ 8) (d : decode cc pc = .ok (.invokestatic idx, 3)) :
    jGo p l e R s m args below meth c D cA N0 nL Sh y bytes maxL ret pc As rest (As.reverse ++ rest) := by
  intro H locs k n arr I P L rm mc ms Pc Qc free hW harr hM hrc hrs hfr hlo hbl hPc hkn
  obtain ⟨hx, hb, hml, hown, hts, hlk, hK, -⟩ := C
  exact va_runS ⟨hx, hb, hml, hown, hts⟩ hM ⟨callB_of na hts (jWS_goodIn hw) rfl hrc hrs (hts _ w4) (hts _ w1) hy ⟨hfr, hlo⟩, hts _ w2⟩ ⟨hbl, hPc⟩ rfl hn harr rfl (lv_room hcat) d hkn
theorem jgo_I (C : jC p R s m args meth c D cA N0 cc nL own lv) {y : MethodName} {bytes : ByteArray} {maxL idx b na : Nat} {As rest : List Value} (hy : jyOK y na) (hinit : y.name = "<init>") (hw : Cond.code y bytes maxL none ∈ jWS) (w1 : Cond.methodLink own idx y ∈ jWS) (w2 : Cond.instanceMethod y ∈ jWS) (w4 : Cond.initialized y.cls ∈ jWS) (hn : As.length = na) (hcat : (rest.map fun v => v.category).sum ≤ 8) (d : decode cc pc = .ok (.invokespecial idx, 3)) :
    jGo p l e R s m args below meth c D cA N0 nL Sh y bytes maxL none pc (.ref b :: As) rest (As.reverse ++ .ref b :: rest) := by
  intro H locs k n arr I P L rm mc ms Pc Qc free hW harr hM hrc hrs hfr hlo hbl hPc hkn
  obtain ⟨hx, hb, hml, hown, hts, hlk, hK, -⟩ := C
  exact va_runI ⟨hx, hb, hml, hown, hts⟩ hM ⟨callB_of na hts (jWS_goodIn hw) rfl hrc hrs (hts _ w4) (hts _ w1) hy ⟨hfr, hlo⟩, hinit, hts _ w2⟩ ⟨hbl, hPc⟩ rfl hn harr rfl (lv_room hcat) d hkn
theorem jgo_SN (C : jC p R s m args meth c D cA N0 cc nL own lv) {y : MethodName} {bytes : ByteArray} {maxL idx na : Nat} {host : String} {ret : Option FieldType} {As rest : List Value} (hy : jyOK y na) (hw : Cond.code y bytes maxL ret ∈ jWS) (w1 : (own, idx, y, host) ∈ jNW) (w2 : Cond.static y ∈ jWS) (w4 : Cond.initialized y.cls ∈ jWS) (hn : As.length = na) (hcat : (rest.map fun v => v.category).sum ≤ 8) (d : decode cc pc = .ok (.invokestatic idx, 3)) :
    jGo p l e R s m args below meth c D cA N0 nL Sh y bytes maxL ret pc As rest (As.reverse ++ rest) := by
  intro H locs k n arr I P L rm mc ms Pc Qc free hW harr hM hrc hrs hfr hlo hbl hPc hkn
  obtain ⟨hx, hb, hml, hown, hts, hlk, hK, -⟩ := C
  exact va_runSN (host := host) ⟨hx, hb, hml, hown, hts⟩ hM ⟨va_cnB na hts (jWS_goodIn hw) rfl hrc hrs (hK.2.1 _ w1) (hts _ w4) hy ⟨hfr, hlo⟩, hts _ w2, trivial⟩ ⟨hbl, hPc⟩ rfl hn harr rfl (lv_room hcat) d hkn
theorem jgo_IN (C : jC p R s m args meth c D cA N0 cc nL own lv) {y : MethodName} {bytes : ByteArray} {maxL idx b na : Nat} {host : String} {As rest : List Value} (hy : jyOK y na) (hinit : y.name = "<init>") (hw : Cond.code y bytes maxL none ∈ jWS) (w1 : (own, idx, y, host) ∈ jNW) (w2 : Cond.instanceMethod y ∈ jWS) (w4 : Cond.initialized y.cls ∈ jWS) (hn : As.length = na) (hcat : (rest.map fun v => v.category).sum ≤ 8) (d : decode cc pc = .ok (.invokespecial idx, 3)) :
    jGo p l e R s m args below meth c D cA N0 nL Sh y bytes maxL none pc (.ref b :: As) rest (As.reverse ++ .ref b :: rest) := by
  intro H locs k n arr I P L rm mc ms Pc Qc free hW harr hM hrc hrs hfr hlo hbl hPc hkn
  obtain ⟨hx, hb, hml, hown, hts, hlk, hK, -⟩ := C
  exact va_runIN (host := host) ⟨hx, hb, hml, hown, hts⟩ hM ⟨va_cnB na hts (jWS_goodIn hw) rfl hrc hrs (hK.2.1 _ w1) (hts _ w4) hy ⟨hfr, hlo⟩, hinit, hts _ w2⟩ ⟨hbl, hPc⟩ rfl hn harr rfl (lv_room hcat) d hkn
/-- a call, by its contract -/
theorem jx_call (C : jC p R s m args meth c D cA N0 cc nL own lv) {y : MethodName} {bytes : ByteArray} {maxL lv' mc ms : Nat} {ret : Option FieldType} {av rest : List Value} {Z' : Nat → Prop} {Q : Option Value → Nat → jS → jI → jP → jL → Prop} (hgo : jGo p l e R s m args below meth c D cA N0 nL Sh y bytes maxL ret pc av rest st) (hM : jM l D cA N0 lv' mc ms y bytes maxL ret av Z' Sh I P L Q) (hlv : lv' + 1 ≤ lv) (hmx : maxL ≤ 21) (hZ' : ∀ q, Z q → Z' q) (hkn : k + mc ≤ R.cells ∧ n + ms ≤ R.slots)
    (kk : ∀ (v : Option Value) (z : Nat) (Sh' : jS) (I' : jI) (P' : jP) (L' : jL), Q v z Sh' I' P' L' → jJ p l e R s m args below meth c D cA N0 nL Qf (fun q => q = z) Sh' I' P' L' (k + mc) (n + ms) (pc + 3) ls (v.toList ++ rest)) : jJ p l e R s m args below meth c D cA N0 nL Qf Z Sh I P L k n pc ls st := by
  intro H locs arr hW hZ hS hl
  have hK := C.2.2.2.2.2.2.1
  have hRf := C.2.2.2.2.2.2.2.1
  have hRl := C.2.2.2.2.2.2.2.2.1
  have hN := C.2.2.2.2.2.2.2.2.2
  have hr := hgo H locs k n arr I P L (jRm lv' mc ms) mc ms _ _ _ hW hl.1 hM rfl rfl (Nat.le_trans hlv hRf) (by show 8 + (maxL + 11) + 40 * lv' ≤ R.locals; omega) jPx_blind (fun U hU hWm => ⟨rfl, by rw [hU]; exact hW, by rw [hU]; exact hZ' _ hZ, by rw [hU]; exact hK.warm hWm hS.2.1, by rw [hU]; exact Nat.le_trans hN hS.1⟩) hkn
  intro T hT X
  obtain ⟨v, st₀, t, T', L1, h0, X', hL, e1, e2, ⟨⟨v2, Sh', I', P', L', hv, hq, hW'⟩, hz, hk⟩, st⟩ := hr T hT X
  cases hv
  rw [h0] at hz hk
  obtain ⟨t2, a1, b1⟩ := kk v t.heap.size Sh' I' P' L' hq T'.heap (locs ++ L1) arr (by rw [e1]; exact hW') (by rw [e1])
    ⟨Nat.le_trans hS.1 (by rw [e1]; exact hz), fun q h1 h2 => by rw [e1, hk q (Nat.lt_of_lt_of_le h1 hS.1) h2]; exact hS.2.1 q h1 h2, fun q hq => by
      rcases List.mem_append.mp hq with h | h
      · exact hS.2.2 q h
      · exact hL q h⟩ hl T' rfl X'
  exact ⟨t2, st t2 a1, b1⟩
theorem jx_ret (C : jC p R s m args meth c D cA N0 cc nL own lv) {Q : Option Value → Nat → jS → jI → jP → jL → Prop} {v : Option Value} {H : Heap} {locs : List Loc} (hq : ∀ z, Z z → Q v z Sh I P L) (hW : jW D cA N0 Sh I P L H) (hZ : Z H.size) (hS : va_S (fun q => N0 ≤ q) s.heap H locs) (t : State) (ht : t.heap = H) : jQx D cA N0 Q args s (.returned v) t :=
  ⟨⟨v, Sh, I, P, L, rfl, by rw [ht]; exact hq _ hZ, by rw [ht]; exact hW⟩, hS.F ht⟩
theorem jx_iret (C : jC p R s m args meth c D cA N0 cc nL own lv) {Q : Option Value → Nat → jS → jI → jP → jL → Prop} {v : Int32} (hr : meth.sig.returnType = some .int) (hq : ∀ z, Z z → Q (some (.int v)) z Sh I P L) (d : decode cc pc = .ok (.ireturn, 1)) : jJ p l e R s m args below meth c D cA N0 nL (MQ below (jQx D cA N0 Q) args s k n (fun q => N0 ≤ q)) Z Sh I P L k n pc ls [.int v] :=
  fun H locs arr hW hZ hS hl => W.iret C.1 C.2.1 hr (fun t ht _ => jx_ret C hq hW hZ hS t ht) hS.2.2 d C.2.2.2.2.2.1
theorem jx_zret (C : jC p R s m args meth c D cA N0 cc nL own lv) {Q : Option Value → Nat → jS → jI → jP → jL → Prop} {v : Int32} {ty : FieldType} (hr : meth.sig.returnType = some ty) (hn : narrow ty (.int v) = .int v) (hq : ∀ z, Z z → Q (some (.int v)) z Sh I P L) (d : decode cc pc = .ok (.ireturn, 1)) : jJ p l e R s m args below meth c D cA N0 nL (MQ below (jQx D cA N0 Q) args s k n (fun q => N0 ≤ q)) Z Sh I P L k n pc ls [.int v] :=
  fun H locs arr hW hZ hS hl => W.zret C.1 C.2.1 hr hn (fun t ht _ => jx_ret C hq hW hZ hS t ht) hS.2.2 d C.2.2.2.2.2.1
theorem jx_vret (C : jC p R s m args meth c D cA N0 cc nL own lv) {Q : Option Value → Nat → jS → jI → jP → jL → Prop} (hr : meth.sig.returnType = none) (hq : ∀ z, Z z → Q none z Sh I P L) (d : decode cc pc = .ok (.return_, 1)) : jJ p l e R s m args below meth c D cA N0 nL (MQ below (jQx D cA N0 Q) args s k n (fun q => N0 ≤ q)) Z Sh I P L k n pc ls [] :=
  fun H locs arr hW hZ hS hl => W.vret C.1 C.2.1 hr (fun t ht _ => jx_ret C hq hW hZ hS t ht) hS.2.2 d C.2.2.2.2.2.1
theorem jx_lret (C : jC p R s m args meth c D cA N0 cc nL own lv) {Q : Option Value → Nat → jS → jI → jP → jL → Prop} {v : Int64} (hr : meth.sig.returnType = some .long) (hq : ∀ z, Z z → Q (some (.long v)) z Sh I P L) (d : decode cc pc = .ok (.lreturn, 1)) : jJ p l e R s m args below meth c D cA N0 nL (MQ below (jQx D cA N0 Q) args s k n (fun q => N0 ≤ q)) Z Sh I P L k n pc ls [.long v] :=
  fun H locs arr hW hZ hS hl => W.lret C.1 C.2.1 hr (fun t ht _ => jx_ret C hq hW hZ hS t ht) hS.2.2 d C.2.2.2.2.2.1
theorem jx_dret (C : jC p R s m args meth c D cA N0 cc nL own lv) {Q : Option Value → Nat → jS → jI → jP → jL → Prop} {v : UInt64} (hr : meth.sig.returnType = some .double) (hq : ∀ z, Z z → Q (some (.double v)) z Sh I P L) (d : decode cc pc = .ok (.dreturn, 1)) : jJ p l e R s m args below meth c D cA N0 nL (MQ below (jQx D cA N0 Q) args s k n (fun q => N0 ≤ q)) Z Sh I P L k n pc ls [.double v] :=
  fun H locs arr hW hZ hS hl => W.dret C.1 C.2.1 hr (fun t ht _ => jx_ret C hq hW hZ hS t ht) hS.2.2 d C.2.2.2.2.2.1
theorem jx_aret (C : jC p R s m args meth c D cA N0 cc nL own lv) {Q : Option Value → Nat → jS → jI → jP → jL → Prop} {v : Value} {rt : FieldType} (hr : meth.sig.returnType = some rt) (hrt : (∃ n, rt = .object n) ∨ ∃ t, rt = .array t) (hv : v = .null ∨ ∃ a, v = .ref a) (hq : ∀ z, Z z → Q (some v) z Sh I P L) (d : decode cc pc = .ok (.areturn, 1)) : jJ p l e R s m args below meth c D cA N0 nL (MQ below (jQx D cA N0 Q) args s k n (fun q => N0 ≤ q)) Z Sh I P L k n pc ls [v] :=
  fun H locs arr hW hZ hS hl => W.aret C.1 C.2.1 hr hrt hv (fun t ht _ => jx_ret C hq hW hZ hS t ht) hS.2.2 d C.2.2.2.2.2.1
/-- contracts of methods that make nothing, by what they answer -/
def jN (l : Launch) (D : va_G) (cA : Nat → ClassId) (N0 lv : Nat) (y : MethodName) (cc : ByteArray) (maxL : Nat) (ret : Option FieldType) (av : List Value) (Sh : jS) (I : jI) (P : jP) (L : jL) (Q : Option Value → jI → jP → jL → Prop) : Prop :=
  jM l D cA N0 lv 0 0 y cc maxL ret av (fun _ => True) Sh I P L (fun v _ Sh' I' P' L' => Sh' = Sh ∧ Q v I' P' L')
def jNi (Q : Int32 → jI → jP → jL → Prop) : Option Value → jI → jP → jL → Prop := fun v I P L => ∃ r, v = some (.int r) ∧ Q r I P L
def jNl (Q : Int64 → jI → jP → jL → Prop) : Option Value → jI → jP → jL → Prop := fun v I P L => ∃ r, v = some (.long r) ∧ Q r I P L
def jNd (Q : UInt64 → jI → jP → jL → Prop) : Option Value → jI → jP → jL → Prop := fun v I P L => ∃ r, v = some (.double r) ∧ Q r I P L
def jNa (Q : Value → jI → jP → jL → Prop) : Option Value → jI → jP → jL → Prop := fun v I P L => ∃ r, v = some r ∧ Q r I P L
def jNv (Q : jI → jP → jL → Prop) : Option Value → jI → jP → jL → Prop := fun v I P L => v = none ∧ Q I P L
theorem jx_calli (C : jC p R s m args meth c D cA N0 cc nL own lv) {y : MethodName} {bytes : ByteArray} {maxL lv' : Nat} {ret : Option FieldType} {av rest : List Value} {Q : Int32 → jI → jP → jL → Prop} (hgo : jGo p l e R s m args below meth c D cA N0 nL Sh y bytes maxL ret pc av rest st) (hM : jN l D cA N0 lv' y bytes maxL ret av Sh I P L (jNi Q)) (hlv : lv' + 1 ≤ lv) (hmx : maxL ≤ 21) (hkn : k ≤ R.cells ∧ n ≤ R.slots)
    (kk : ∀ (r : Int32) (I' : jI) (P' : jP) (L' : jL), Q r I' P' L' → jJ p l e R s m args below meth c D cA N0 nL Qf (fun _ => True) Sh I' P' L' k n (pc + 3) ls (.int r :: rest)) : jJ p l e R s m args below meth c D cA N0 nL Qf Z Sh I P L k n pc ls st := by
  refine jx_call C hgo hM hlv hmx (fun _ _ => trivial) hkn ?_
  intro v z Sh' I' P' L' hQ
  obtain ⟨rfl, hQ⟩ := hQ
  obtain ⟨r, rfl, hq⟩ := hQ
  exact jx_sz (fun _ _ => trivial) (kk r I' P' L' hq)
theorem jx_calll (C : jC p R s m args meth c D cA N0 cc nL own lv) {y : MethodName} {bytes : ByteArray} {maxL lv' : Nat} {ret : Option FieldType} {av rest : List Value} {Q : Int64 → jI → jP → jL → Prop} (hgo : jGo p l e R s m args below meth c D cA N0 nL Sh y bytes maxL ret pc av rest st) (hM : jN l D cA N0 lv' y bytes maxL ret av Sh I P L (jNl Q)) (hlv : lv' + 1 ≤ lv) (hmx : maxL ≤ 21) (hkn : k ≤ R.cells ∧ n ≤ R.slots)
    (kk : ∀ (r : Int64) (I' : jI) (P' : jP) (L' : jL), Q r I' P' L' → jJ p l e R s m args below meth c D cA N0 nL Qf (fun _ => True) Sh I' P' L' k n (pc + 3) ls (.long r :: rest)) : jJ p l e R s m args below meth c D cA N0 nL Qf Z Sh I P L k n pc ls st := by
  refine jx_call C hgo hM hlv hmx (fun _ _ => trivial) hkn ?_
  intro v z Sh' I' P' L' hQ
  obtain ⟨rfl, hQ⟩ := hQ
  obtain ⟨r, rfl, hq⟩ := hQ
  exact jx_sz (fun _ _ => trivial) (kk r I' P' L' hq)
theorem jx_calld (C : jC p R s m args meth c D cA N0 cc nL own lv) {y : MethodName} {bytes : ByteArray} {maxL lv' : Nat} {ret : Option FieldType} {av rest : List Value} {Q : UInt64 → jI → jP → jL → Prop} (hgo : jGo p l e R s m args below meth c D cA N0 nL Sh y bytes maxL ret pc av rest st) (hM : jN l D cA N0 lv' y bytes maxL ret av Sh I P L (jNd Q)) (hlv : lv' + 1 ≤ lv) (hmx : maxL ≤ 21) (hkn : k ≤ R.cells ∧ n ≤ R.slots)
    (kk : ∀ (r : UInt64) (I' : jI) (P' : jP) (L' : jL), Q r I' P' L' → jJ p l e R s m args below meth c D cA N0 nL Qf (fun _ => True) Sh I' P' L' k n (pc + 3) ls (.double r :: rest)) : jJ p l e R s m args below meth c D cA N0 nL Qf Z Sh I P L k n pc ls st := by
  refine jx_call C hgo hM hlv hmx (fun _ _ => trivial) hkn ?_
  intro v z Sh' I' P' L' hQ
  obtain ⟨rfl, hQ⟩ := hQ
  obtain ⟨r, rfl, hq⟩ := hQ
  exact jx_sz (fun _ _ => trivial) (kk r I' P' L' hq)
theorem jx_calla (C : jC p R s m args meth c D cA N0 cc nL own lv) {y : MethodName} {bytes : ByteArray} {maxL lv' : Nat} {ret : Option FieldType} {av rest : List Value} {Q : Value → jI → jP → jL → Prop} (hgo : jGo p l e R s m args below meth c D cA N0 nL Sh y bytes maxL ret pc av rest st) (hM : jN l D cA N0 lv' y bytes maxL ret av Sh I P L (jNa Q)) (hlv : lv' + 1 ≤ lv) (hmx : maxL ≤ 21) (hkn : k ≤ R.cells ∧ n ≤ R.slots)
    (kk : ∀ (r : Value) (I' : jI) (P' : jP) (L' : jL), Q r I' P' L' → jJ p l e R s m args below meth c D cA N0 nL Qf (fun _ => True) Sh I' P' L' k n (pc + 3) ls (r :: rest)) : jJ p l e R s m args below meth c D cA N0 nL Qf Z Sh I P L k n pc ls st := by
  refine jx_call C hgo hM hlv hmx (fun _ _ => trivial) hkn ?_
  intro v z Sh' I' P' L' hQ
  obtain ⟨rfl, hQ⟩ := hQ
  obtain ⟨r, rfl, hq⟩ := hQ
  exact jx_sz (fun _ _ => trivial) (kk r I' P' L' hq)
theorem jx_callv (C : jC p R s m args meth c D cA N0 cc nL own lv) {y : MethodName} {bytes : ByteArray} {maxL lv' : Nat} {ret : Option FieldType} {av rest : List Value} {Q : jI → jP → jL → Prop} (hgo : jGo p l e R s m args below meth c D cA N0 nL Sh y bytes maxL ret pc av rest st) (hM : jN l D cA N0 lv' y bytes maxL ret av Sh I P L (jNv Q)) (hlv : lv' + 1 ≤ lv) (hmx : maxL ≤ 21) (hkn : k ≤ R.cells ∧ n ≤ R.slots)
    (kk : ∀ (I' : jI) (P' : jP) (L' : jL), Q I' P' L' → jJ p l e R s m args below meth c D cA N0 nL Qf (fun _ => True) Sh I' P' L' k n (pc + 3) ls (rest)) : jJ p l e R s m args below meth c D cA N0 nL Qf Z Sh I P L k n pc ls st := by
  refine jx_call C hgo hM hlv hmx (fun _ _ => trivial) hkn ?_
  intro v z Sh' I' P' L' hQ
  obtain ⟨rfl, hQ⟩ := hQ
  obtain ⟨rfl, hq⟩ := hQ
  exact jx_sz (fun _ _ => trivial) (kk I' P' L' hq)
end JM
