/-! NEW CELLS: rows, contracts of constructors -/
abbrev zr : Nat → Int32 := fun _ => nI 0
abbrev nr : Nat → Option Nat := fun _ => none
def shp (Sh : jS) (h : Nat) (q : Nat × Nat) : jS := fun a => if a = h then some q else Sh a
theorem shp_s {Sh : jS} {h : Nat} {q : Nat × Nat} : shp Sh h q h = some q := if_pos rfl
theorem shp_n {Sh : jS} {h a : Nat} {q : Nat × Nat} (ha : a ≠ h) : shp Sh h q a = Sh a := if_neg ha
theorem nI_nneg {n : Nat} (h : n < 2 ^ 31) : ¬ nI n < 0 := i32_nlt.mpr (show nI 0 ≤ nI n from (nI_leI (by decide) h).mpr (Nat.zero_le n))
def jAO (U : State) : Prop := va_AO RX3 U ∧ va_AO RX1 U ∧ va_AO RX0 U
theorem jAO.moved {u U : State} (hvm : u.vm.Alike U.vm) (h : jAO u) : jAO U := ⟨h.1.moved hvm, h.2.1.moved hvm, h.2.2.moved hvm⟩
theorem jAO.same {u U : State} (hvm : u.vm = U.vm) (h : jAO u) : jAO U := h.moved (by rw [← hvm]; exact Vm.Alike.refl u.vm)
theorem jW.grow {D : va_G} {cA : Nat → ClassId} {N0 h : Nat} {Sh : jS} {I I' : jI} {P P' : jP} {L L' : jL} {H H1 : Heap} {q : Nat × Nat} (hW : jW D cA N0 Sh I P L H) (hh : H.size = h) (hN : N0 ≤ h) (he : va_at D vwCl (h, jent cA (I' h) (P' h) (L' h) q) H1) (ho : ∀ a : Nat, a < h → H1[a]? = H[a]?) (hI : ∀ a, a ≠ h → I' a = I a) (hP : ∀ a, a ≠ h → P' a = P a) (hL : ∀ a, a ≠ h → L' a = L a) : jW D cA N0 (shp Sh h q) I' P' L' H1 := by
  intro a r hr
  by_cases ha : a = h
  · subst ha
    rw [shp_s] at hr
    cases hr
    exact ⟨hN, he⟩
  · rw [shp_n ha] at hr
    have hlt := hW.lt hr
    rw [hI a ha, hP a ha, hL a ha]
    exact ⟨(hW a r hr).1, (hW a r hr).2.kept (ho a (by omega))⟩
theorem jfv_new0 : ∀ k, k < 13 → defaultValue (tyX0 k) = jfv 0 zr nr k := by
  intro k hk
  rcases (by omega : k = 0 ∨ k = 1 ∨ k = 2 ∨ k = 3 ∨ k = 4 ∨ k = 5 ∨ k = 6 ∨ k = 7 ∨ k = 8 ∨ k = 9 ∨ k = 10 ∨ k = 11 ∨ k = 12) with rfl | rfl | rfl | rfl | rfl | rfl | rfl | rfl | rfl | rfl | rfl | rfl | rfl <;> rfl
theorem jfv_new1 : ∀ k, k < 8 → defaultValue (tyX1 k) = jfv 1 zr nr k := by
  intro k hk
  rcases (by omega : k = 0 ∨ k = 1 ∨ k = 2 ∨ k = 3 ∨ k = 4 ∨ k = 5 ∨ k = 6 ∨ k = 7) with rfl | rfl | rfl | rfl | rfl | rfl | rfl | rfl <;> rfl
theorem jfv_new2 : ∀ k, k < 4 → defaultValue (tyX2 k) = jfv 2 zr nr k := by
  intro k hk
  rcases (by omega : k = 0 ∨ k = 1 ∨ k = 2 ∨ k = 3) with rfl | rfl | rfl | rfl <;> rfl
theorem jfv_new3 : ∀ k, k < 9 → defaultValue (tyX3 k) = jfv 3 zr nr k := by
  intro k hk
  rcases (by omega : k = 0 ∨ k = 1 ∨ k = 2 ∨ k = 3 ∨ k = 4 ∨ k = 5 ∨ k = 6 ∨ k = 7 ∨ k = 8) with rfl | rfl | rfl | rfl | rfl | rfl | rfl | rfl | rfl <;> rfl
theorem jfv_new4 : ∀ k, k < 1 → defaultValue (tyX4 k) = jfv 4 zr nr k := by
  intro k hk
  rcases (by omega : k = 0) with rfl
  rfl
theorem jfv_new5 : ∀ k, k < 8 → defaultValue (tyX5 k) = jfv 5 zr nr k := by
  intro k hk
  rcases (by omega : k = 0 ∨ k = 1 ∨ k = 2 ∨ k = 3 ∨ k = 4 ∨ k = 5 ∨ k = 6 ∨ k = 7) with rfl | rfl | rfl | rfl | rfl | rfl | rfl | rfl <;> rfl
theorem jfv_new {c : Nat} (h : c < 6) : ∀ k, k < jn c → defaultValue (jty c k) = jfv c zr nr k := by
  match c, h with
  | 0, _ => exact jfv_new0
  | 1, _ => exact jfv_new1
  | 2, _ => exact jfv_new2
  | 3, _ => exact jfv_new3
  | 4, _ => exact jfv_new4
  | 5, _ => exact jfv_new5
/-- a constructor's contract -/
def jIC (l : Launch) (D : va_G) (cA : Nat → ClassId) (N0 lv mc ms : Nat) (y : MethodName) (cc : ByteArray) (maxL : Nat) (av : List Value) (h : Nat) (Sh : jS) (I : jI) (P : jP) (L : jL) (Q : Option Value → Nat → jS → jI → jP → jL → Prop) : Prop :=
  Met l y (Cond.code y cc maxL none :: jWS) (jRm lv mc ms) (fun a U => jPx D cA N0 av (fun q => q = h) Sh I P L a U ∧ jAO U) (jQx D cA N0 Q) mc ms (fun q => N0 ≤ q)
section ALLOCS
variable {p : Program} {l : Launch} {e : Env} {R : Room} {s : State} {m : MethodId} {args : Array Value} {below : List Frame} {meth : Method} {c : Code} {D : va_G} {cA : Nat → ClassId} {N0 : Nat} {cc : ByteArray} {nL : Nat} {own : String} {lv : Nat} {Qf : State → Prop} {Z : Nat → Prop} {Sh : jS} {I : jI} {P : jP} {L : jL} {k n pc : Nat} {ls : List (Option Value)} {st : List Value}
theorem jIC_of {y : MethodName} {h mc ms : Nat} {av : List Value} {Q : Option Value → Nat → jS → jI → jP → jL → Prop} (hy : plainName y.cls = true) (hlen : (lg_sl av).length ≤ nL)
    (body : ∀ (p : Program) (e : Env) (s : State) (m : MethodId) (args : Array Value) (below : List Frame) (meth : Method) (c : Code), jC p (jRm lv mc ms) s m args meth c D cA N0 cc nL y.cls lv → jAO s → meth.sig.returnType = none → meth.name = y.name → jJ p l e (jRm lv mc ms) s m args below meth c D cA N0 nL (MQ below (jQx D cA N0 Q) args s mc ms (fun q => N0 ≤ q)) (fun q => q = h) Sh I P L 0 0 0 (jpad nL (jin av)) []) :
    jIC l D cA N0 lv mc ms y cc nL av h Sh I P L Q := by
  refine Met.ofW (cc := cc) (maxL := nL) (ret := none) hy rfl ?_
  intro p e s m args below meth c s₁ B hml hv
  obtain ⟨⟨rfl, hW, hZ, hK, hN⟩, hAO⟩ := hv
  have hts := atoms_spec (ws := Cond.code y cc nL none :: jWS) B.pre
  have C : jC p (jRm lv mc ms) s m av.toArray meth c D cA N0 cc nL y.cls lv := ⟨B.exec, B.bytes, hml, findClass_of_methodNamed B.named, fun w hw => hts w (List.mem_cons_of_mem _ hw), B.notSynchronized, hK, Nat.le_refl _, Nat.le_refl _, hN⟩
  have hl := lv_entry av (n := nL) hlen
  rw [lg_entry_eq]
  refine body p e s m av.toArray below meth c C hAO B.returns (name_of_methodNamed B.named B.method).1 s.heap [] _ hW hZ va_S.rf ?_
  exact ⟨hl.1, hl.2.1, fun i v hi => hl.2.2 (i, v) (by have h := jin_args av 0 i v (jpad_of hi); rwa [Nat.zero_add] at h)⟩
theorem jx_newO (C : jC p R s m args meth c D cA N0 cc nL own lv) {ci idx h N : Nat} (hci : ci < 6) (hjn : jn ci = N) (w1 : Cond.classLink own idx (jR ci) ∈ jWS) (w2 : Cond.instantiable (jR ci) N ∈ jWS) (w3 : Cond.initialized (jR ci) ∈ jWS) (hZ : ∀ q, Z q → q = h) (hkn : k + 1 ≤ R.cells ∧ n + N ≤ R.slots) (d : decode cc pc = .ok (.new idx, 3)) (kk : jJ p l e R s m args below meth c D cA N0 nL Qf (fun q => q = h + 1) (shp Sh h (ci, 0)) (va_up I h zr) (va_up P h nr) L (k + 1) (n + N) (pc + 3) ls (.ref h :: st)) : jJ p l e R s m args below meth c D cA N0 nL Qf Z Sh I P L k n pc ls st := by
  intro H locs arr hW hz hS hl
  obtain ⟨hx, hb, hml, hown, hts, hlk, hK, hRf, hRl, hN⟩ := C
  have hKn := hK.1.1 ci _ (jcl hci)
  have hsz := hZ _ hz
  subst hjn
  refine W.newcK hx hb hown (hts _ w1) (hts _ w2) (hts _ w3) rfl d hkn.1 hkn.2 hKn.2.1 hsz fun H1 kC hkC e1 z1 o1 => ?_
  refine kk H1 locs arr (hW.grow hsz (by rw [← hsz]; exact Nat.le_trans hN hS.1) ?_ o1 (fun a ha => va_up_n ha) (fun a ha => va_up_n ha) (fun _ _ => rfl)) z1 ⟨Nat.le_trans hS.1 (by omega), fun x h1 h2 => (o1 x (by have := hS.1; omega)).trans (hS.2.1 x h1 h2), hS.2.2⟩ hl
  rw [va_up_s, va_up_s, jent_c hci]
  exact ⟨_, jcl hci, (u_born (jty ci) hts (jin_ws hci) hKn hkC e1 (jtyok hci)).to (fun j hj => by rw [jmapV hj]; exact jfv_new hci j hj)⟩
theorem jx_newAI (C : jC p R s m args meth c D cA N0 cc nL own lv) {h N : Nat} (hZ : ∀ q, Z q → q = h) (hN9 : N < 2000) (hkn : k + 1 ≤ R.cells ∧ n + N ≤ R.slots) (d : decode cc pc = .ok (.newarray .int, 2)) (kk : jJ p l e R s m args below meth c D cA N0 nL Qf (fun q => q = h + 1) (shp Sh h (10, N)) (va_up I h zr) P L (k + 1) (n + N) (pc + 2) ls (.ref h :: st)) : jJ p l e R s m args below meth c D cA N0 nL Qf Z Sh I P L k n pc ls (.int (nI N) :: st) := by
  intro H locs arr hW hz hS hl
  obtain ⟨hx, hb, hml, hown, hts, hlk, hK, hRf, hRl, hN⟩ := C
  have hsz := hZ _ hz
  refine va_newaK hx hb (atype := .int) (hts _ (jWS_in 53 (by decide +kernel) rfl)) rfl d rfl (nI_nneg (by omega)) (nI_clamp (by omega)) (by show N * 4 ≤ 536870912; omega) hkn.1 hkn.2 hsz fun H1 cA1 e1 z1 o1 hAr hNm => ?_
  have hcA : cA1 = cA 0 := Option.some.inj (hNm.symm.trans (hK.1.2 0 _ rfl).2)
  refine kk H1 locs arr (hW.grow hsz (by rw [← hsz]; exact Nat.le_trans hN hS.1) ?_ o1 (fun a ha => va_up_n ha) (fun _ _ => rfl) (fun _ _ => rfl)) z1 ⟨Nat.le_trans hS.1 (by omega), fun x h1 h2 => (o1 x (by have := hS.1; omega)).trans (hS.2.1 x h1 h2), hS.2.2⟩ hl
  rw [va_up_s]
  show H1[h]? = some (vp_cell (cA 0) (N, .inl zr))
  rw [e1, hcA, vp_cell_i]
  rfl
theorem jx_newQ12 (C : jC p R s m args meth c D cA N0 cc nL own lv) (hAO : jAO s) {idx h N : Nat} (w1 : Cond.classLink own idx RX3 ∈ jWS) (hZ : ∀ q, Z q → q = h) (hN9 : N < 2000) (hkn : k + 1 ≤ R.cells ∧ n + N ≤ R.slots) (d : decode cc pc = .ok (.anewarray idx, 3)) (kk : jJ p l e R s m args below meth c D cA N0 nL Qf (fun q => q = h + 1) (shp Sh h (12, N)) I (va_up P h nr) L (k + 1) (n + N) (pc + 3) ls (.ref h :: st)) : jJ p l e R s m args below meth c D cA N0 nL Qf Z Sh I P L k n pc ls (.int (nI N) :: st) := by
  intro H locs arr hW hz hS hl
  obtain ⟨hx, hb, hml, hown, hts, hlk, hK, hRf, hRl, hN⟩ := C
  have hsz := hZ _ hz
  have hcl : (nI N).toNatClampNeg = N := nI_clamp (by omega)
  refine W.anew (C := RX3) hx hb hown (hts _ w1) (va_AO.use hAO.1) rfl d rfl (nI_nneg (by omega)) (by rw [hcl]; omega) hkn.1 (by rw [hcl]; exact hkn.2) fun cA1 kA comp f1 f2 f3 f4 => ?_
  rw [hcl]
  generalize hH1 : H.push ({ cls := cA1, slots := Array.replicate N .null, vm := .none } : Cell) = H1
  have z1 : H1.size = H.size + 1 := by rw [← hH1, Array.size_push]
  have e1 : H1[H.size]? = some (arrV cA1 N (fun _ => .null)) := by rw [← hH1, Array.getElem?_push_size, ← arrV_new]
  have o1 : ∀ q : Nat, q < H.size → H1[q]? = H[q]? := fun q hq => by rw [← hH1, Array.getElem?_push, if_neg (Nat.ne_of_lt hq)]
  obtain ⟨kA2, comp2, g1, g2, g3, g4⟩ := (hK.1.2 2 _ rfl).2
  have hcA : cA1 = cA 2 := Option.some.inj (f1.symm.trans g4)
  rw [hsz] at z1 e1 o1 ⊢
  refine kk H1 locs arr (hW.grow hsz (by rw [← hsz]; exact Nat.le_trans hN hS.1) ?_ o1 (fun _ _ => rfl) (fun a ha => va_up_n ha) (fun _ _ => rfl)) z1 ⟨Nat.le_trans hS.1 (by omega), fun x h1 h2 => (o1 x (by have := hS.1; omega)).trans (hS.2.1 x h1 h2), hS.2.2⟩ hl
  rw [va_up_s]
  show H1[h]? = some (vp_cell (cA 2) (N, .inr (.inr (.inr (.inr nr)))))
  rw [e1, hcA, vp_cell_q]
  rfl
theorem jx_newQ13 (C : jC p R s m args meth c D cA N0 cc nL own lv) (hAO : jAO s) {idx h N : Nat} (w1 : Cond.classLink own idx RX1 ∈ jWS) (hZ : ∀ q, Z q → q = h) (hN9 : N < 2000) (hkn : k + 1 ≤ R.cells ∧ n + N ≤ R.slots) (d : decode cc pc = .ok (.anewarray idx, 3)) (kk : jJ p l e R s m args below meth c D cA N0 nL Qf (fun q => q = h + 1) (shp Sh h (13, N)) I (va_up P h nr) L (k + 1) (n + N) (pc + 3) ls (.ref h :: st)) : jJ p l e R s m args below meth c D cA N0 nL Qf Z Sh I P L k n pc ls (.int (nI N) :: st) := by
  intro H locs arr hW hz hS hl
  obtain ⟨hx, hb, hml, hown, hts, hlk, hK, hRf, hRl, hN⟩ := C
  have hsz := hZ _ hz
  have hcl : (nI N).toNatClampNeg = N := nI_clamp (by omega)
  refine W.anew (C := RX1) hx hb hown (hts _ w1) (va_AO.use hAO.2.1) rfl d rfl (nI_nneg (by omega)) (by rw [hcl]; omega) hkn.1 (by rw [hcl]; exact hkn.2) fun cA1 kA comp f1 f2 f3 f4 => ?_
  rw [hcl]
  generalize hH1 : H.push ({ cls := cA1, slots := Array.replicate N .null, vm := .none } : Cell) = H1
  have z1 : H1.size = H.size + 1 := by rw [← hH1, Array.size_push]
  have e1 : H1[H.size]? = some (arrV cA1 N (fun _ => .null)) := by rw [← hH1, Array.getElem?_push_size, ← arrV_new]
  have o1 : ∀ q : Nat, q < H.size → H1[q]? = H[q]? := fun q hq => by rw [← hH1, Array.getElem?_push, if_neg (Nat.ne_of_lt hq)]
  obtain ⟨kA2, comp2, g1, g2, g3, g4⟩ := (hK.1.2 3 _ rfl).2
  have hcA : cA1 = cA 3 := Option.some.inj (f1.symm.trans g4)
  rw [hsz] at z1 e1 o1 ⊢
  refine kk H1 locs arr (hW.grow hsz (by rw [← hsz]; exact Nat.le_trans hN hS.1) ?_ o1 (fun _ _ => rfl) (fun a ha => va_up_n ha) (fun _ _ => rfl)) z1 ⟨Nat.le_trans hS.1 (by omega), fun x h1 h2 => (o1 x (by have := hS.1; omega)).trans (hS.2.1 x h1 h2), hS.2.2⟩ hl
  rw [va_up_s]
  show H1[h]? = some (vp_cell (cA 3) (N, .inr (.inr (.inr (.inr nr)))))
  rw [e1, hcA, vp_cell_q]
  rfl
theorem jx_newQ14 (C : jC p R s m args meth c D cA N0 cc nL own lv) (hAO : jAO s) {idx h N : Nat} (w1 : Cond.classLink own idx RX0 ∈ jWS) (hZ : ∀ q, Z q → q = h) (hN9 : N < 2000) (hkn : k + 1 ≤ R.cells ∧ n + N ≤ R.slots) (d : decode cc pc = .ok (.anewarray idx, 3)) (kk : jJ p l e R s m args below meth c D cA N0 nL Qf (fun q => q = h + 1) (shp Sh h (14, N)) I (va_up P h nr) L (k + 1) (n + N) (pc + 3) ls (.ref h :: st)) : jJ p l e R s m args below meth c D cA N0 nL Qf Z Sh I P L k n pc ls (.int (nI N) :: st) := by
  intro H locs arr hW hz hS hl
  obtain ⟨hx, hb, hml, hown, hts, hlk, hK, hRf, hRl, hN⟩ := C
  have hsz := hZ _ hz
  have hcl : (nI N).toNatClampNeg = N := nI_clamp (by omega)
  refine W.anew (C := RX0) hx hb hown (hts _ w1) (va_AO.use hAO.2.2) rfl d rfl (nI_nneg (by omega)) (by rw [hcl]; omega) hkn.1 (by rw [hcl]; exact hkn.2) fun cA1 kA comp f1 f2 f3 f4 => ?_
  rw [hcl]
  generalize hH1 : H.push ({ cls := cA1, slots := Array.replicate N .null, vm := .none } : Cell) = H1
  have z1 : H1.size = H.size + 1 := by rw [← hH1, Array.size_push]
  have e1 : H1[H.size]? = some (arrV cA1 N (fun _ => .null)) := by rw [← hH1, Array.getElem?_push_size, ← arrV_new]
  have o1 : ∀ q : Nat, q < H.size → H1[q]? = H[q]? := fun q hq => by rw [← hH1, Array.getElem?_push, if_neg (Nat.ne_of_lt hq)]
  obtain ⟨kA2, comp2, g1, g2, g3, g4⟩ := (hK.1.2 4 _ rfl).2
  have hcA : cA1 = cA 4 := Option.some.inj (f1.symm.trans g4)
  rw [hsz] at z1 e1 o1 ⊢
  refine kk H1 locs arr (hW.grow hsz (by rw [← hsz]; exact Nat.le_trans hN hS.1) ?_ o1 (fun _ _ => rfl) (fun a ha => va_up_n ha) (fun _ _ => rfl)) z1 ⟨Nat.le_trans hS.1 (by omega), fun x h1 h2 => (o1 x (by have := hS.1; omega)).trans (hS.2.1 x h1 h2), hS.2.2⟩ hl
  rw [va_up_s]
  show H1[h]? = some (vp_cell (cA 4) (N, .inr (.inr (.inr (.inr nr)))))
  rw [e1, hcA, vp_cell_q]
  rfl
theorem jx_objInit (C : jC p R s m args meth c D cA N0 cc nL own lv) {idx a : Nat} (w1 : Cond.methodLink own idx Lib.objectInit ∈ jWS) (w2 : Cond.instanceMethod Lib.objectInit ∈ jWS) (w3 : Cond.code Lib.objectInit ⟨#[0xb1]⟩ 1 none ∈ jWS) (hlv : 1 ≤ lv) (hcat : (st.map fun v => v.category).sum ≤ 8) (d : decode cc pc = .ok (.invokespecial idx, 3)) (kk : jJ p l e R s m args below meth c D cA N0 nL Qf Z Sh I P L k n (pc + 3) ls st) : jJ p l e R s m args below meth c D cA N0 nL Qf Z Sh I P L k n pc ls (.ref a :: st) := by
  intro H locs arr hW hz hS hl
  obtain ⟨hx, hb, hml, hown, hts, hlk, hK, hRf, hRl, hN⟩ := C
  exact W.objInit hx hb hown (hts _ w1) (hts _ w2) (hts _ w3) rfl (hl.1.trans hml.symm) rfl d (Nat.le_trans hlv hRf) (by show 2 * 0 + (st.map fun v => v.category).sum + 12 ≤ R.locals; omega) (kk H locs arr hW hz hS hl)
theorem jx_callC (C : jC p R s m args meth c D cA N0 cc nL own lv) (hAO : jAO s) {y : MethodName} {bytes : ByteArray} {maxL lv' mc ms h : Nat} {av rest : List Value} {Q : Option Value → Nat → jS → jI → jP → jL → Prop} (hgo : jGo p l e R s m args below meth c D cA N0 nL Sh y bytes maxL none pc av rest st) (hM : jIC l D cA N0 lv' mc ms y bytes maxL av h Sh I P L Q) (hlv : lv' + 1 ≤ lv) (hmx : maxL ≤ 21) (hZ' : ∀ q, Z q → q = h) (hkn : k + mc ≤ R.cells ∧ n + ms ≤ R.slots)
    (kk : ∀ (v : Option Value) (z : Nat) (Sh' : jS) (I' : jI) (P' : jP) (L' : jL), Q v z Sh' I' P' L' → jJ p l e R s m args below meth c D cA N0 nL Qf (fun q => q = z) Sh' I' P' L' (k + mc) (n + ms) (pc + 3) ls (v.toList ++ rest)) : jJ p l e R s m args below meth c D cA N0 nL Qf Z Sh I P L k n pc ls st := by
  intro H locs arr hW hZ hS hl
  have hK := C.2.2.2.2.2.2.1
  have hRf := C.2.2.2.2.2.2.2.1
  have hRl := C.2.2.2.2.2.2.2.2.1
  have hN := C.2.2.2.2.2.2.2.2.2
  have hr := hgo H locs k n arr I P L (jRm lv' mc ms) mc ms _ _ _ hW hl.1 hM rfl rfl (Nat.le_trans hlv hRf) (by show 8 + (maxL + 11) + 40 * lv' ≤ R.locals; omega) (fun a U g mk q => ⟨jPx_blind a U g mk q.1, q.2.same (u := U) (U := U.calling g mk a) rfl⟩) (fun U hU hWm => ⟨⟨rfl, by rw [hU]; exact hW, by rw [hU]; exact hZ' _ hZ, by rw [hU]; exact hK.warm hWm hS.2.1, by rw [hU]; exact Nat.le_trans hN hS.1⟩, hAO.moved hWm.alike⟩) hkn
  intro T hT X
  obtain ⟨v, st₀, t, T', L1, h0, X', hL, e1, e2, ⟨⟨v2, Sh', I', P', L', hv, hq, hW'⟩, hz, hk⟩, stp⟩ := hr T hT X
  cases hv
  rw [h0] at hz hk
  obtain ⟨t2, a1, b1⟩ := kk v t.heap.size Sh' I' P' L' hq T'.heap (locs ++ L1) arr (by rw [e1]; exact hW') (by rw [e1])
    ⟨Nat.le_trans hS.1 (by rw [e1]; exact hz), fun q h1 h2 => by rw [e1, hk q (Nat.lt_of_lt_of_le h1 hS.1) h2]; exact hS.2.1 q h1 h2, fun q hq => by
      rcases List.mem_append.mp hq with h | h
      · exact hS.2.2 q h
      · exact hL q h⟩ hl T' rfl X'
  exact ⟨t2, stp t2 a1, b1⟩
end ALLOCS
set_option maxHeartbeats 8000000 in
theorem b_X4_init {p : Program} {l : Launch} {e : Env} {s : State} {m : MethodId} {args : Array Value} {below : List Frame} {meth : Method} {c : Code} {D : va_G} {cA : Nat → ClassId} {N0 : Nat} {Sh : jS} {I : jI} {P : jP} {L : jL} (C : jC p (jRm 1 1 4) s m args meth c D cA N0 cX4_init 1 RX4 1) (hAO : jAO s) (hr : meth.sig.returnType = none) (hmn : meth.name = "<init>") {b h : Nat} (hb : Sh b = some (4, 0)) (hbh : b < h) : jJ p l e (jRm 1 1 4) s m args below meth c D cA N0 1 (MQ below (jQx D cA N0 (fun v z Sh' I' P' L' => v = none ∧ z = h + 1 ∧ Sh' = shp Sh h (10, 4) ∧ I' = va_up I h zr ∧ P' = jstP P b 0 (some h) ∧ L' = L)) args s 1 4 (fun q => N0 ≤ q)) (fun q => q = h) Sh I P L 0 0 0 [some (.ref b)] [] := by
  refine jx_aload_n (pc := 0) C dX4_init_0 rfl ?_
  refine jx_objInit (pc := 1) C (jWS_in 48 (by decide +kernel) rfl) (jWS_in 31 (by decide +kernel) rfl) (jWS_in 32 (by decide +kernel) rfl) (by decide) (by decide) dX4_init_1 ?_
  refine jx_aload_n (pc := 4) C dX4_init_4 rfl ?_
  refine jx_iconst (pc := 5) C dX4_init_5 nc_4 ?_
  refine jx_newAI (pc := 6) C (fun _ z => z) (by decide) ⟨by show _ ≤ 1; omega, by show _ ≤ 4; omega⟩ dX4_init_6 ?_
  refine jx_putF (pc := 8) C (C0 := "") kf_X4_9 rfl rfl hmn rfl rfl rfl ((shp_n (by omega)).trans hb) dX4_init_8 ?_
  exact jx_roomy (show _ ≤ 1 by omega) (show _ ≤ 4 by omega) (jx_vret (pc := 11) C hr (fun z hz => ⟨rfl, hz, rfl, rfl, rfl, rfl⟩) dX4_init_11)
theorem t_X4_init {l : Launch} {D : va_G} {cA : Nat → ClassId} {N0 : Nat} {Sh : jS} {I : jI} {P : jP} {L : jL} {b h : Nat} (hb : Sh b = some (4, 0)) (hbh : b < h) : jIC l D cA N0 1 1 4 yX4_init cX4_init 1 [.ref b] (h) Sh I P L (fun v z Sh' I' P' L' => v = none ∧ z = h + 1 ∧ Sh' = shp Sh h (10, 4) ∧ I' = va_up I h zr ∧ P' = jstP P b 0 (some h) ∧ L' = L) := jIC_of (by decide) (Nat.le_of_ble_eq_true rfl) (fun _ _ _ _ _ _ _ _ C hAO hr hmn => b_X4_init C hAO hr hmn hb hbh)
set_option maxHeartbeats 8000000 in
theorem b_X1_init {p : Program} {l : Launch} {e : Env} {s : State} {m : MethodId} {args : Array Value} {below : List Frame} {meth : Method} {c : Code} {D : va_G} {cA : Nat → ClassId} {N0 : Nat} {Sh : jS} {I : jI} {P : jP} {L : jL} (C : jC p (jRm 1 1 6) s m args meth c D cA N0 cX1_init 1 RX1 1) (hAO : jAO s) (hr : meth.sig.returnType = none) (hmn : meth.name = "<init>") {b h : Nat} (hb : Sh b = some (1, 0)) (hbh : b < h) : jJ p l e (jRm 1 1 6) s m args below meth c D cA N0 1 (MQ below (jQx D cA N0 (fun v z Sh' I' P' L' => v = none ∧ z = h + 1 ∧ Sh' = shp Sh h (10, 6) ∧ I' = va_up I h zr ∧ P' = jstP P b 0 (some h) ∧ L' = L)) args s 1 6 (fun q => N0 ≤ q)) (fun q => q = h) Sh I P L 0 0 0 [some (.ref b)] [] := by
  refine jx_aload_n (pc := 0) C dX1_init_0 rfl ?_
  refine jx_objInit (pc := 1) C (jWS_in 101 (by decide +kernel) rfl) (jWS_in 31 (by decide +kernel) rfl) (jWS_in 32 (by decide +kernel) rfl) (by decide) (by decide) dX1_init_1 ?_
  refine jx_aload_n (pc := 4) C dX1_init_4 rfl ?_
  refine jx_bipush (pc := 5) C dX1_init_5 nb_6 ?_
  refine jx_newAI (pc := 7) C (fun _ z => z) (by decide) ⟨by show _ ≤ 1; omega, by show _ ≤ 6; omega⟩ dX1_init_7 ?_
  refine jx_putF (pc := 9) C (C0 := "") kf_X1_9 rfl rfl hmn rfl rfl rfl ((shp_n (by omega)).trans hb) dX1_init_9 ?_
  exact jx_roomy (show _ ≤ 1 by omega) (show _ ≤ 6 by omega) (jx_vret (pc := 12) C hr (fun z hz => ⟨rfl, hz, rfl, rfl, rfl, rfl⟩) dX1_init_12)
theorem t_X1_init {l : Launch} {D : va_G} {cA : Nat → ClassId} {N0 : Nat} {Sh : jS} {I : jI} {P : jP} {L : jL} {b h : Nat} (hb : Sh b = some (1, 0)) (hbh : b < h) : jIC l D cA N0 1 1 6 yX1_init cX1_init 1 [.ref b] (h) Sh I P L (fun v z Sh' I' P' L' => v = none ∧ z = h + 1 ∧ Sh' = shp Sh h (10, 6) ∧ I' = va_up I h zr ∧ P' = jstP P b 0 (some h) ∧ L' = L) := jIC_of (by decide) (Nat.le_of_ble_eq_true rfl) (fun _ _ _ _ _ _ _ _ C hAO hr hmn => b_X1_init C hAO hr hmn hb hbh)
set_option maxHeartbeats 8000000 in
theorem b_X2_init {p : Program} {l : Launch} {e : Env} {s : State} {m : MethodId} {args : Array Value} {below : List Frame} {meth : Method} {c : Code} {D : va_G} {cA : Nat → ClassId} {N0 : Nat} {Sh : jS} {I : jI} {P : jP} {L : jL} (C : jC p (jRm 1 1 5) s m args meth c D cA N0 cX2_init 1 RX2 1) (hAO : jAO s) (hr : meth.sig.returnType = none) (hmn : meth.name = "<init>") {b h : Nat} (hb : Sh b = some (2, 0)) (hbh : b < h) : jJ p l e (jRm 1 1 5) s m args below meth c D cA N0 1 (MQ below (jQx D cA N0 (fun v z Sh' I' P' L' => v = none ∧ z = h + 1 ∧ Sh' = shp Sh h (10, 5) ∧ I' = va_up I h zr ∧ P' = jstP P b 0 (some h) ∧ L' = L)) args s 1 5 (fun q => N0 ≤ q)) (fun q => q = h) Sh I P L 0 0 0 [some (.ref b)] [] := by
  refine jx_aload_n (pc := 0) C dX2_init_0 rfl ?_
  refine jx_objInit (pc := 1) C (jWS_in 188 (by decide +kernel) rfl) (jWS_in 31 (by decide +kernel) rfl) (jWS_in 32 (by decide +kernel) rfl) (by decide) (by decide) dX2_init_1 ?_
  refine jx_aload_n (pc := 4) C dX2_init_4 rfl ?_
  refine jx_iconst (pc := 5) C dX2_init_5 nc_5 ?_
  refine jx_newAI (pc := 6) C (fun _ z => z) (by decide) ⟨by show _ ≤ 1; omega, by show _ ≤ 5; omega⟩ dX2_init_6 ?_
  refine jx_putF (pc := 8) C (C0 := "") kf_X2_9 rfl rfl hmn rfl rfl rfl ((shp_n (by omega)).trans hb) dX2_init_8 ?_
  exact jx_roomy (show _ ≤ 1 by omega) (show _ ≤ 5 by omega) (jx_vret (pc := 11) C hr (fun z hz => ⟨rfl, hz, rfl, rfl, rfl, rfl⟩) dX2_init_11)
theorem t_X2_init {l : Launch} {D : va_G} {cA : Nat → ClassId} {N0 : Nat} {Sh : jS} {I : jI} {P : jP} {L : jL} {b h : Nat} (hb : Sh b = some (2, 0)) (hbh : b < h) : jIC l D cA N0 1 1 5 yX2_init cX2_init 1 [.ref b] (h) Sh I P L (fun v z Sh' I' P' L' => v = none ∧ z = h + 1 ∧ Sh' = shp Sh h (10, 5) ∧ I' = va_up I h zr ∧ P' = jstP P b 0 (some h) ∧ L' = L) := jIC_of (by decide) (Nat.le_of_ble_eq_true rfl) (fun _ _ _ _ _ _ _ _ C hAO hr hmn => b_X2_init C hAO hr hmn hb hbh)
set_option maxHeartbeats 8000000 in
theorem b_X3_init {p : Program} {l : Launch} {e : Env} {s : State} {m : MethodId} {args : Array Value} {below : List Frame} {meth : Method} {c : Code} {D : va_G} {cA : Nat → ClassId} {N0 : Nat} {Sh : jS} {I : jI} {P : jP} {L : jL} (C : jC p (jRm 2 2 5) s m args meth c D cA N0 cX3_init 1 RX3 2) (hAO : jAO s) (hr : meth.sig.returnType = none) (hmn : meth.name = "<init>") {b h : Nat} (hb : Sh b = some (3, 0)) (hbh : b < h) : jJ p l e (jRm 2 2 5) s m args below meth c D cA N0 1 (MQ below (jQx D cA N0 (fun v z Sh' I' P' L' => v = none ∧ z = h + 2 ∧ Sh' = shp (shp Sh h (4, 0)) (h + 1) (10, 4) ∧ I' = va_up (va_up I h zr) (h + 1) zr ∧ P' = jstP (jstP (va_up P h nr) h 0 (some (h + 1))) b 0 (some h) ∧ L' = L)) args s 2 5 (fun q => N0 ≤ q)) (fun q => q = h) Sh I P L 0 0 0 [some (.ref b)] [] := by
  refine jx_aload_n (pc := 0) C dX3_init_0 rfl ?_
  refine jx_objInit (pc := 1) C (jWS_in 58 (by decide +kernel) rfl) (jWS_in 31 (by decide +kernel) rfl) (jWS_in 32 (by decide +kernel) rfl) (by decide) (by decide) dX3_init_1 ?_
  refine jx_aload_n (pc := 4) C dX3_init_4 rfl ?_
  refine jx_newO (pc := 5) C (ci := 4) (by decide) (N := 1) rfl (jWS_in 59 (by decide +kernel) rfl) (jWS_in 44 (by decide +kernel) rfl) (jWS_in 14 (by decide +kernel) rfl) (fun _ z => z) ⟨by show _ ≤ 2; omega, by show _ ≤ 5; omega⟩ dX3_init_5 ?_
  refine jx_dup (pc := 8) C dX3_init_8 rfl ?_
  refine jx_callC (pc := 9) C hAO (go_X3_11 C (Nat.le_of_ble_eq_true rfl) dX3_init_9) (t_X4_init (b := h) (h := h + 1) shp_s (by omega)) (by decide) (by decide) (fun _ z => z) ⟨by show _ ≤ 2; omega, by show _ ≤ 5; omega⟩ (fun v9 z9 S9 I9 P9 L9 q9 => ?_)
  obtain ⟨rfl, rfl, rfl, rfl, rfl, eL⟩ := q9
  subst eL
  refine jx_putF (pc := 12) C (C0 := "") kf_X3_12 rfl rfl hmn rfl rfl rfl ((shp_n (by omega)).trans ((shp_n (by omega)).trans hb)) dX3_init_12 ?_
  exact jx_roomy (show _ ≤ 2 by omega) (show _ ≤ 5 by omega) (jx_vret (pc := 15) C hr (fun z hz => ⟨rfl, hz, rfl, rfl, rfl, rfl⟩) dX3_init_15)
theorem t_X3_init {l : Launch} {D : va_G} {cA : Nat → ClassId} {N0 : Nat} {Sh : jS} {I : jI} {P : jP} {L : jL} {b h : Nat} (hb : Sh b = some (3, 0)) (hbh : b < h) : jIC l D cA N0 2 2 5 yX3_init cX3_init 1 [.ref b] (h) Sh I P L (fun v z Sh' I' P' L' => v = none ∧ z = h + 2 ∧ Sh' = shp (shp Sh h (4, 0)) (h + 1) (10, 4) ∧ I' = va_up (va_up I h zr) (h + 1) zr ∧ P' = jstP (jstP (va_up P h nr) h 0 (some (h + 1))) b 0 (some h) ∧ L' = L) := jIC_of (by decide) (Nat.le_of_ble_eq_true rfl) (fun _ _ _ _ _ _ _ _ C hAO hr hmn => b_X3_init C hAO hr hmn hb hbh)
