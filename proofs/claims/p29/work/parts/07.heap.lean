theorem jws_r {ws : List Cond} (ps : List Nat) (hp : ws = ps.filterMap (fun i => lw_tbl[i]?)) (h : ws.all goodWord = true) : ∀ w ∈ ws, w ∈ jWS := by
  intro w hw
  have h1 := List.all_eq_true.mp h w hw
  rw [hp] at hw
  obtain ⟨i, -, hi⟩ := List.mem_filterMap.mp hw
  exact jWS_in i hi h1
theorem jin_ws0 : ∀ w ∈ u_ws RX0 TX0 13, w ∈ jWS := jws_r [155, 157, 159, 161, 163, 165, 167, 169, 171, 173, 175, 177, 179] (by decide +kernel) (by decide +kernel)
theorem jin_ws1 : ∀ w ∈ u_ws RX1 TX1 8, w ∈ jWS := jws_r [119, 121, 123, 125, 127, 129, 131, 133] (by decide +kernel) (by decide +kernel)
theorem jin_ws2 : ∀ w ∈ u_ws RX2 TX2 4, w ∈ jWS := jws_r [190, 192, 194, 196] (by decide +kernel) (by decide +kernel)
theorem jin_ws3 : ∀ w ∈ u_ws RX3 TX3 9, w ∈ jWS := jws_r [78, 80, 82, 84, 86, 88, 90, 92, 94] (by decide +kernel) (by decide +kernel)
theorem jin_ws4 : ∀ w ∈ u_ws RX4 TX4 1, w ∈ jWS := jws_r [50] (by decide +kernel) (by decide +kernel)
theorem jin_ws5 : ∀ w ∈ u_ws RX5 TX5 8, w ∈ jWS := jws_r [206, 208, 210, 212, 214, 216, 218, 220] (by decide +kernel) (by decide +kernel)
theorem jin_ws {c : Nat} (h : c < 6) : ∀ w ∈ u_ws (jR c) (jT c) (jn c), w ∈ jWS := by
  match c, h with
  | 0, _ => exact jin_ws0
  | 1, _ => exact jin_ws1
  | 2, _ => exact jin_ws2
  | 3, _ => exact jin_ws3
  | 4, _ => exact jin_ws4
  | 5, _ => exact jin_ws5
/-- one slot of the memory written -/
def jst (I : jI) (a k : Nat) (x : Int32) : jI := va_up I a (upd (I a) k x)
def jstP (P : jP) (a k : Nat) (x : Option Nat) : jP := va_up P a (va_up (P a) k x)
def jstL (L : jL) (a k : Nat) (x : Int64) : jL := va_up L a (vp_updL (L a) k x)
theorem jst_ne {I : jI} {a k b : Nat} {x : Int32} (h : b ≠ a) : jst I a k x b = I b := by simp [jst, va_up, h]
theorem jstP_ne {P : jP} {a k b : Nat} {x : Option Nat} (h : b ≠ a) : jstP P a k x b = P b := by simp [jstP, va_up, h]
theorem jstL_ne {L : jL} {a k b : Nat} {x : Int64} (h : b ≠ a) : jstL L a k x b = L b := by simp [jstL, va_up, h]
theorem jst_eq {I : jI} {a k : Nat} {x : Int32} : jst I a k x a = upd (I a) k x := by simp [jst, va_up]
theorem jstP_eq {P : jP} {a k : Nat} {x : Option Nat} : jstP P a k x a = va_up (P a) k x := by simp [jstP, va_up]
theorem jstL_eq {L : jL} {a k : Nat} {x : Int64} : jstL L a k x a = vp_updL (L a) k x := by simp [jstL, va_up]
theorem jW.at {D : va_G} {cA : Nat → ClassId} {N0 : Nat} {Sh : jS} {I : jI} {P : jP} {L : jL} {H : Heap} {a : Nat} {q : Nat × Nat} (h : jW D cA N0 Sh I P L H) (hs : Sh a = some q) : va_P D vwCl [(a, jent cA (I a) (P a) (L a) q)] H := by
  intro k x hx
  have hz : k < 1 := (List.getElem?_eq_some_iff.mp hx).1
  rw [show k = 0 by omega] at hx
  cases hx
  exact (h a q hs).2
theorem jmapV {f : Nat → Value} {n k : Nat} (hk : k < n) : vp_V ((List.range n).map f) k = f k := by
  simp [vp_V, List.getD, hk]
theorem jW.obj {D : va_G} {cA : Nat → ClassId} {N0 : Nat} {Sh : jS} {I : jI} {P : jP} {L : jL} {H : Heap} {a c n : Nat} (h : jW D cA N0 Sh I P L H) (hc : c < 6) (hs : Sh a = some (c, n)) : t_OB a (D.1 c) (jn c) (D.2 c) H (jfv c (I a) (P a)) := by
  have h1 := (h a _ hs).2
  rw [jent_c hc] at h1
  obtain ⟨r, e1, e2⟩ := h1
  have hr : r = (jR c, jT c, jn c) := Option.some.inj (e1.symm.trans (jcl hc))
  subst hr
  exact e2.to (fun j hj => jmapV hj)
theorem jW.lt {D : va_G} {cA : Nat → ClassId} {N0 : Nat} {Sh : jS} {I : jI} {P : jP} {L : jL} {H : Heap} {a : Nat} {q : Nat × Nat} (h : jW D cA N0 Sh I P L H) (hs : Sh a = some q) : a < H.size := (h a q hs).2.lt
/-- other cells stay, the cell a is as the new rows say -/
theorem jW.put {D : va_G} {cA : Nat → ClassId} {N0 : Nat} {Sh : jS} {I I' : jI} {P P' : jP} {L L' : jL} {H H' : Heap} {a : Nat} {q : Nat × Nat} (h : jW D cA N0 Sh I P L H) (hs : Sh a = some q) (he : va_at D vwCl (a, jent cA (I' a) (P' a) (L' a) q) H') (ho : ∀ b : Nat, b ≠ a → H'[b]? = H[b]?) (hI : ∀ b, b ≠ a → I' b = I b) (hP : ∀ b, b ≠ a → P' b = P b) (hL : ∀ b, b ≠ a → L' b = L b) : jW D cA N0 Sh I' P' L' H' := by
  intro b r hb
  refine ⟨(h b r hb).1, ?_⟩
  by_cases hba : b = a
  · subst hba
    cases hs.symm.trans hb
    exact he
  · rw [hI b hba, hP b hba, hL b hba]
    exact (h b r hb).2.kept (ho b hba)
theorem jW.kept {D : va_G} {cA : Nat → ClassId} {N0 : Nat} {Sh : jS} {I : jI} {P : jP} {L : jL} {H H' : Heap} (h : jW D cA N0 Sh I P L H) (ho : ∀ b : Nat, b < H.size → H'[b]? = H[b]?) : jW D cA N0 Sh I P L H' := fun b r hb => ⟨(h b r hb).1, (h b r hb).2.kept (ho b (h.lt hb))⟩
/-- a field of a class, as javac links it -/
def jfOK (own : String) (idx ci k : Nat) : Prop := ci < 6 ∧ k < jn ci ∧ Cond.fieldLink own idx (jT ci k).1 (jT ci k).2.1 (jT ci k).2.2.1 ∈ jWS
section JH
variable {p : Program} {l : Launch} {e : Env} {R : Room} {s : State} {m : MethodId} {args : Array Value} {below : List Frame} {meth : Method} {c : Code} {D : va_G} {cA : Nat → ClassId} {N0 : Nat} {cc : ByteArray} {nL : Nat} {own : String} {lv : Nat} {Qf : State → Prop} {Z : Nat → Prop} {Sh : jS} {I : jI} {P : jP} {L : jL} {k n pc : Nat} {ls : List (Option Value)} {st : List Value}
theorem jx_get (C : jC p R s m args meth c D cA N0 cc nL own lv) {a ci n0 idx k0 : Nat} (hf : jfOK own idx ci k0) (hsh : Sh a = some (ci, n0)) {v : Value} (hv : jfv ci (I a) (P a) k0 = v) (d : decode cc pc = .ok (.getfield idx, 3)) (kk : jJ p l e R s m args below meth c D cA N0 nL Qf Z Sh I P L k n (pc + 3) ls (v :: st)) : jJ p l e R s m args below meth c D cA N0 nL Qf Z Sh I P L k n pc ls (.ref a :: st) := by
  intro H locs arr hW hZ hS hl
  obtain ⟨hx, hb, hml, hown, hts, hlk, hK, -⟩ := C
  obtain ⟨hc, hk, hlink⟩ := hf
  have hP := hW.at hsh
  rw [jent_c hc] at hP
  refine va_get (D := D) (ci := ci) (v := v) hx hb hts (jin_ws hc) hown hK.1 hP 0 rfl (jcl hc) k0 hk (hts _ hlink) (fun _ h => h) ?_ d (kk H locs arr hW hZ hS hl)
  rw [List.getElem?_map, List.getElem?_range hk, ← hv]
  rfl
theorem jx_getI (C : jC p R s m args meth c D cA N0 cc nL own lv) {a ci n0 idx k0 : Nat} (hf : jfOK own idx ci k0) (hty : jisI (jty ci k0) = true) (hsh : Sh a = some (ci, n0)) (d : decode cc pc = .ok (.getfield idx, 3)) (kk : jJ p l e R s m args below meth c D cA N0 nL Qf Z Sh I P L k n (pc + 3) ls (.int (I a k0) :: st)) : jJ p l e R s m args below meth c D cA N0 nL Qf Z Sh I P L k n pc ls (.ref a :: st) :=
  jx_get C hf hsh (if_pos hty) d kk
theorem jx_getP (C : jC p R s m args meth c D cA N0 cc nL own lv) {a ci n0 idx k0 r : Nat} (hf : jfOK own idx ci k0) (hty : jisI (jty ci k0) = false) (hsh : Sh a = some (ci, n0)) (hp : P a k0 = some r) (d : decode cc pc = .ok (.getfield idx, 3)) (kk : jJ p l e R s m args below meth c D cA N0 nL Qf Z Sh I P L k n (pc + 3) ls (.ref r :: st)) : jJ p l e R s m args below meth c D cA N0 nL Qf Z Sh I P L k n pc ls (.ref a :: st) :=
  jx_get C hf hsh ((if_neg (by rw [hty]; decide)).trans (by rw [hp]; rfl)) d kk
theorem jx_putI (C : jC p R s m args meth c D cA N0 cc nL own lv) {a ci n0 idx k0 : Nat} {x : Int32} (hf : jfOK own idx ci k0) (hty : jisI (jty ci k0) = true) (hfin : (jT ci k0).2.2.2 = false) (hn : narrow (jty ci k0) (.int x) = .int x) (hfit : fits (jty ci k0) (.int x) = true) (hsh : Sh a = some (ci, n0)) (d : decode cc pc = .ok (.putfield idx, 3)) (kk : jJ p l e R s m args below meth c D cA N0 nL Qf Z Sh (jst I a k0 x) P L k n (pc + 3) ls st) : jJ p l e R s m args below meth c D cA N0 nL Qf Z Sh I P L k n pc ls (.int x :: .ref a :: st) := by
  intro H locs arr hW hZ hS hl
  obtain ⟨hx, hb, hml, hown, hts, hlk, hK, -⟩ := C
  obtain ⟨hc, hk, hlink⟩ := hf
  obtain ⟨cell, q1, q2, q3, q4⟩ := hW.obj hc hsh
  have hap := va_apart (own := own) hts (jin_ws hc) (jty ci) (jtyok hc) (jnm hc) hK.1 (jcl hc)
  obtain ⟨hS1, hfc, kC, hkC, hkind⟩ := hK.1.1 ci _ (jcl hc)
  obtain ⟨cf, kf, fi, f, hi, hsl⟩ := hS1 k0 hk
  have hlay := hts _ (jin_ws hc _ (u_in_lay hk))
  unfold u_lay at hlay
  rw [if_neg (by rw [hfin]; decide)] at hlay
  have hst := (u_facts hfc hkC (u_lays hts (jin_ws hc) hk) hi).1
  have h6 := u_store hfc hkC hkind hlay hi (jtyok hc k0 hk) hn hfit
  refine W.putK hx hb (f := f) ⟨hown, hts _ hlink, ⟨_, _, _, hi⟩, hst⟩ (by rw [q2]; exact h6) q1 q3 (by rw [hsl]; exact k2_hasslot (q4 k0 hk)) rfl rfl d fun H' e1 e2 e3 => ?_
  rw [hsl] at e1 ⊢
  refine kk H' _ arr (hW.put hsh ?_ e3 (fun b hb => jst_ne hb) (fun b hb => rfl) (fun b hb => rfl)) (by rw [e2]; exact hZ) (hS.put e2 e3 (hW a _ hsh).1) hl
  rw [jent_c hc]
  refine ⟨_, jcl hc, t_OB.to (V := updV (jfv ci (I a) (P a)) k0 (.int x)) ⟨_, e1, q2, q3, t_set q4 hap hk (.int x)⟩ (fun j hj => ?_)⟩
  rw [jmapV hj, jst_eq]
  unfold updV jfv upd
  by_cases hjk : j = k0
  · subst hjk
    simp [hty]
  · simp [hjk]
theorem jx_putF (C : jC p R s m args meth c D cA N0 cc nL own lv) {a ci n0 idx k0 r : Nat} {C0 : String} (hf : jfOK own idx ci k0) (hty : jisI (jty ci k0) = false) (hfin : (jT ci k0).2.2.2 = true) (hin2 : meth.name = "<init>") (hdecl : (jT ci k0).1 = own) (hn : narrow (jty ci k0) (.ref r) = .ref r) (hfit : fits (jty ci k0) (.ref r) = true) (hsh : Sh a = some (ci, n0)) (d : decode cc pc = .ok (.putfield idx, 3)) (kk : jJ p l e R s m args below meth c D cA N0 nL Qf Z Sh I (jstP P a k0 (some r)) L k n (pc + 3) ls st) : jJ p l e R s m args below meth c D cA N0 nL Qf Z Sh I P L k n pc ls (.ref r :: .ref a :: st) := by
  intro H locs arr hW hZ hS hl
  obtain ⟨hx, hb, hml, hown, hts, hlk, hK, -⟩ := C
  obtain ⟨hc, hk, hlink⟩ := hf
  obtain ⟨cell, q1, q2, q3, q4⟩ := hW.obj hc hsh
  have hap := va_apart (own := own) hts (jin_ws hc) (jty ci) (jtyok hc) (jnm hc) hK.1 (jcl hc)
  obtain ⟨hS1, hfc, kC, hkC, hkind⟩ := hK.1.1 ci _ (jcl hc)
  obtain ⟨cf, kf, fi, f, hi, hsl⟩ := hS1 k0 hk
  have hlay := hts _ (jin_ws hc _ (u_in_lay hk))
  unfold u_lay at hlay
  rw [if_pos hfin] at hlay
  have hst := (u_facts hfc hkC (u_lays hts (jin_ws hc) hk) hi).1
  have hcf : m.cls = cf := by
    obtain ⟨_, _, c', _, _, _, -, -, hf', -, -, -, hown2, -⟩ := Cond.laysFinal_spec hlay
    have e1 : c' = cf := by have := hi.symm.trans hf'; simp at this; exact this.1.symm
    rw [hdecl] at hown2
    rw [← e1]; exact Option.some.inj (hown.symm.trans hown2)
  have h6 := u_fits hfc hkC hkind (Or.inr hlay) hi (jtyok hc k0 hk) hn hfit
  refine W.putFinK hx hb hown (hts _ hlink) hi hst hcf hin2 (by rw [q2]; exact h6) q1 q3 (by rw [hsl]; exact k2_hasslot (q4 k0 hk)) rfl rfl d fun H' e1 e2 e3 => ?_
  rw [hsl] at e1 ⊢
  refine kk H' _ arr (hW.put hsh ?_ e3 (fun b hb => rfl) (fun b hb => jstP_ne hb) (fun b hb => rfl)) (by rw [e2]; exact hZ) (hS.put e2 e3 (hW a _ hsh).1) hl
  rw [jent_c hc]
  refine ⟨_, jcl hc, t_OB.to (V := updV (jfv ci (I a) (P a)) k0 (.ref r)) ⟨_, e1, q2, q3, t_set q4 hap hk (.ref r)⟩ (fun j hj => ?_)⟩
  rw [jmapV hj, jstP_eq]
  unfold updV jfv va_up
  by_cases hjk : j = k0
  · subst hjk
    simp [hty, va_rf]
  · simp [hjk]
theorem jx_iald (C : jC p R s m args meth c D cA N0 cc nL own lv) {a n0 j : Nat} (hsh : Sh a = some (10, n0)) (hj : j < n0) (hn : n0 < 2 ^ 31) (d : decode cc pc = .ok (.iaload, 1)) (kk : jJ p l e R s m args below meth c D cA N0 nL Qf Z Sh I P L k n (pc + 1) ls (.int (I a j) :: st)) : jJ p l e R s m args below meth c D cA N0 nL Qf Z Sh I P L k n pc ls (.int (nI j) :: .ref a :: st) := by
  intro H locs arr hW hZ hS hl
  have h1 := kk H locs arr hW hZ hS hl
  refine va_iald (D := D) (cl := vwCl) (tys := jtys cA) C.1 C.2.1 C.2.2.2.2.2.2.1.1 (hW.at hsh) 0 0 (cA := cA 0) (n := n0) (f := I a) rfl rfl (vp_in_nI hj hn) d ?_
  rw [nI_clamp (by omega)]
  exact h1
theorem jx_iast (C : jC p R s m args meth c D cA N0 cc nL own lv) {a n0 j : Nat} {x : Int32} (hsh : Sh a = some (10, n0)) (hj : j < n0) (hn : n0 < 2 ^ 31) (d : decode cc pc = .ok (.iastore, 1)) (kk : jJ p l e R s m args below meth c D cA N0 nL Qf Z Sh (jst I a j x) P L k n (pc + 1) ls st) : jJ p l e R s m args below meth c D cA N0 nL Qf Z Sh I P L k n pc ls (.int x :: .int (nI j) :: .ref a :: st) := by
  intro H locs arr hW hZ hS hl
  have hcl : (nI j).toNatClampNeg = j := nI_clamp (by omega)
  have hA : H[a]? = some (vp_cell (cA 0) (n0, .inl (I a))) := (hW a _ hsh).2
  refine W.iast C.1 C.2.1 hA ((C.2.2.2.2.2.2.1.1.2 0 _ rfl).1 n0 (fun j => .int (I a j))) (fun q => by cases q) (by rw [vp_cell_i, arrV_size]; exact vp_in_nI hj hn) rfl rfl d fun H1 e z oq => ?_
  refine kk H1 _ arr (hW.put hsh ?_ oq (fun b hb => jst_ne hb) (fun b hb => rfl) (fun b hb => rfl)) (by rw [z]; exact hZ) (hS.put z oq (hW a _ hsh).1) hl
  show H1[a]? = some (vp_cell (cA 0) (n0, .inl (jst I a j x a)))
  rw [e, hcl, vp_cell_i, vp_cell_i, arrV_store, jst_eq]
  congr 2
  funext q
  by_cases hq : q = j
  · subst hq
    simp [updV, upd]
  · simp [updV, upd, hq]
theorem jx_aald12 (C : jC p R s m args meth c D cA N0 cc nL own lv) {a n0 j r : Nat} (hsh : Sh a = some (12, n0)) (hj : j < n0) (hn : n0 < 2 ^ 31) (hp : P a j = some r) (d : decode cc pc = .ok (.aaload, 1)) (kk : jJ p l e R s m args below meth c D cA N0 nL Qf Z Sh I P L k n (pc + 1) ls (.ref r :: st)) : jJ p l e R s m args below meth c D cA N0 nL Qf Z Sh I P L k n pc ls (.int (nI j) :: .ref a :: st) := by
  intro H locs arr hW hZ hS hl
  have h1 := kk H locs arr hW hZ hS hl
  refine va_aldq (D := D) (cl := vwCl) (tys := jtys cA) (C := RX3) C.1 C.2.1 C.2.2.2.2.2.2.1.1 (hW.at hsh) 0 2 (cA := cA 2) (n := n0) (f := P a) rfl rfl (vp_in_nI hj hn) d ?_
  rw [nI_clamp (by omega), hp]
  exact h1
theorem jx_aast12 (C : jC p R s m args meth c D cA N0 cc nL own lv) {a n0 nv j v : Nat} (hsh : Sh a = some (12, n0)) (hv : Sh v = some (3, nv)) (hj : j < n0) (hn : n0 < 2 ^ 31) (d : decode cc pc = .ok (.aastore, 1)) (kk : jJ p l e R s m args below meth c D cA N0 nL Qf Z Sh I (jstP P a j (some v)) L k n (pc + 1) ls st) : jJ p l e R s m args below meth c D cA N0 nL Qf Z Sh I P L k n pc ls (.ref v :: .int (nI j) :: .ref a :: st) := by
  intro H locs arr hW hZ hS hl
  have hcl : (nI j).toNatClampNeg = j := nI_clamp (by omega)
  have hA : H[a]? = some (vp_cell (cA 2) (n0, .inr (.inr (.inr (.inr (P a)))))) := (hW a _ hsh).2
  have hK := C.2.2.2.2.2.2.1.1
  obtain ⟨cellV, g1, g2, g3, -⟩ := hW.obj (c := 3) (by decide) hv
  have hcls := (hK.1 3 _ (jcl (c := 3) (by decide))).2
  obtain ⟨kA, comp, k1, k2, k3, -⟩ := (hK.2 2 _ rfl).2
  have hcomp : comp = D.1 3 := Option.some.inj (k3.symm.trans hcls.1)
  subst hcomp
  obtain ⟨kC, hkC, -⟩ := hcls.2
  refine W.aast C.1 C.2.1 hA (fun q h => by cases h) (fun h => by cases h) k1 k2 rfl hkC ⟨by rw [← nI_0]; exact nI_pos (by omega), by rw [hcl]; show _ < (arrV _ _ _).slots.size; rw [arrV_size]; exact hj⟩ g1 (fun q h => by rw [g3] at h; cases h) (by rw [g2]; exact hkC) (by rw [g2]; exact va_assign hcls) rfl rfl d fun H1 e z oq => ?_
  refine kk H1 _ arr (hW.put hsh ?_ oq (fun b hb => rfl) (fun b hb => jstP_ne hb) (fun b hb => rfl)) (by rw [z]; exact hZ) (hS.put z oq (hW a _ hsh).1) hl
  show H1[a]? = some (vp_cell (cA 2) (n0, .inr (.inr (.inr (.inr (jstP P a j (some v) a))))))
  rw [e, hcl, vp_cell_q, vp_cell_q, arrV_store, jstP_eq]
  congr 2
  funext q
  by_cases hq : q = j
  · subst hq
    simp [updV, va_up, va_rf]
  · simp [updV, va_up, hq]
theorem jx_aald13 (C : jC p R s m args meth c D cA N0 cc nL own lv) {a n0 j r : Nat} (hsh : Sh a = some (13, n0)) (hj : j < n0) (hn : n0 < 2 ^ 31) (hp : P a j = some r) (d : decode cc pc = .ok (.aaload, 1)) (kk : jJ p l e R s m args below meth c D cA N0 nL Qf Z Sh I P L k n (pc + 1) ls (.ref r :: st)) : jJ p l e R s m args below meth c D cA N0 nL Qf Z Sh I P L k n pc ls (.int (nI j) :: .ref a :: st) := by
  intro H locs arr hW hZ hS hl
  have h1 := kk H locs arr hW hZ hS hl
  refine va_aldq (D := D) (cl := vwCl) (tys := jtys cA) (C := RX1) C.1 C.2.1 C.2.2.2.2.2.2.1.1 (hW.at hsh) 0 3 (cA := cA 3) (n := n0) (f := P a) rfl rfl (vp_in_nI hj hn) d ?_
  rw [nI_clamp (by omega), hp]
  exact h1
theorem jx_aast13 (C : jC p R s m args meth c D cA N0 cc nL own lv) {a n0 nv j v : Nat} (hsh : Sh a = some (13, n0)) (hv : Sh v = some (1, nv)) (hj : j < n0) (hn : n0 < 2 ^ 31) (d : decode cc pc = .ok (.aastore, 1)) (kk : jJ p l e R s m args below meth c D cA N0 nL Qf Z Sh I (jstP P a j (some v)) L k n (pc + 1) ls st) : jJ p l e R s m args below meth c D cA N0 nL Qf Z Sh I P L k n pc ls (.ref v :: .int (nI j) :: .ref a :: st) := by
  intro H locs arr hW hZ hS hl
  have hcl : (nI j).toNatClampNeg = j := nI_clamp (by omega)
  have hA : H[a]? = some (vp_cell (cA 3) (n0, .inr (.inr (.inr (.inr (P a)))))) := (hW a _ hsh).2
  have hK := C.2.2.2.2.2.2.1.1
  obtain ⟨cellV, g1, g2, g3, -⟩ := hW.obj (c := 1) (by decide) hv
  have hcls := (hK.1 1 _ (jcl (c := 1) (by decide))).2
  obtain ⟨kA, comp, k1, k2, k3, -⟩ := (hK.2 3 _ rfl).2
  have hcomp : comp = D.1 1 := Option.some.inj (k3.symm.trans hcls.1)
  subst hcomp
  obtain ⟨kC, hkC, -⟩ := hcls.2
  refine W.aast C.1 C.2.1 hA (fun q h => by cases h) (fun h => by cases h) k1 k2 rfl hkC ⟨by rw [← nI_0]; exact nI_pos (by omega), by rw [hcl]; show _ < (arrV _ _ _).slots.size; rw [arrV_size]; exact hj⟩ g1 (fun q h => by rw [g3] at h; cases h) (by rw [g2]; exact hkC) (by rw [g2]; exact va_assign hcls) rfl rfl d fun H1 e z oq => ?_
  refine kk H1 _ arr (hW.put hsh ?_ oq (fun b hb => rfl) (fun b hb => jstP_ne hb) (fun b hb => rfl)) (by rw [z]; exact hZ) (hS.put z oq (hW a _ hsh).1) hl
  show H1[a]? = some (vp_cell (cA 3) (n0, .inr (.inr (.inr (.inr (jstP P a j (some v) a))))))
  rw [e, hcl, vp_cell_q, vp_cell_q, arrV_store, jstP_eq]
  congr 2
  funext q
  by_cases hq : q = j
  · subst hq
    simp [updV, va_up, va_rf]
  · simp [updV, va_up, hq]
theorem jx_aald14 (C : jC p R s m args meth c D cA N0 cc nL own lv) {a n0 j r : Nat} (hsh : Sh a = some (14, n0)) (hj : j < n0) (hn : n0 < 2 ^ 31) (hp : P a j = some r) (d : decode cc pc = .ok (.aaload, 1)) (kk : jJ p l e R s m args below meth c D cA N0 nL Qf Z Sh I P L k n (pc + 1) ls (.ref r :: st)) : jJ p l e R s m args below meth c D cA N0 nL Qf Z Sh I P L k n pc ls (.int (nI j) :: .ref a :: st) := by
  intro H locs arr hW hZ hS hl
  have h1 := kk H locs arr hW hZ hS hl
  refine va_aldq (D := D) (cl := vwCl) (tys := jtys cA) (C := RX0) C.1 C.2.1 C.2.2.2.2.2.2.1.1 (hW.at hsh) 0 4 (cA := cA 4) (n := n0) (f := P a) rfl rfl (vp_in_nI hj hn) d ?_
  rw [nI_clamp (by omega), hp]
  exact h1
theorem jx_aast14 (C : jC p R s m args meth c D cA N0 cc nL own lv) {a n0 nv j v : Nat} (hsh : Sh a = some (14, n0)) (hv : Sh v = some (0, nv)) (hj : j < n0) (hn : n0 < 2 ^ 31) (d : decode cc pc = .ok (.aastore, 1)) (kk : jJ p l e R s m args below meth c D cA N0 nL Qf Z Sh I (jstP P a j (some v)) L k n (pc + 1) ls st) : jJ p l e R s m args below meth c D cA N0 nL Qf Z Sh I P L k n pc ls (.ref v :: .int (nI j) :: .ref a :: st) := by
  intro H locs arr hW hZ hS hl
  have hcl : (nI j).toNatClampNeg = j := nI_clamp (by omega)
  have hA : H[a]? = some (vp_cell (cA 4) (n0, .inr (.inr (.inr (.inr (P a)))))) := (hW a _ hsh).2
  have hK := C.2.2.2.2.2.2.1.1
  obtain ⟨cellV, g1, g2, g3, -⟩ := hW.obj (c := 0) (by decide) hv
  have hcls := (hK.1 0 _ (jcl (c := 0) (by decide))).2
  obtain ⟨kA, comp, k1, k2, k3, -⟩ := (hK.2 4 _ rfl).2
  have hcomp : comp = D.1 0 := Option.some.inj (k3.symm.trans hcls.1)
  subst hcomp
  obtain ⟨kC, hkC, -⟩ := hcls.2
  refine W.aast C.1 C.2.1 hA (fun q h => by cases h) (fun h => by cases h) k1 k2 rfl hkC ⟨by rw [← nI_0]; exact nI_pos (by omega), by rw [hcl]; show _ < (arrV _ _ _).slots.size; rw [arrV_size]; exact hj⟩ g1 (fun q h => by rw [g3] at h; cases h) (by rw [g2]; exact hkC) (by rw [g2]; exact va_assign hcls) rfl rfl d fun H1 e z oq => ?_
  refine kk H1 _ arr (hW.put hsh ?_ oq (fun b hb => rfl) (fun b hb => jstP_ne hb) (fun b hb => rfl)) (by rw [z]; exact hZ) (hS.put z oq (hW a _ hsh).1) hl
  show H1[a]? = some (vp_cell (cA 4) (n0, .inr (.inr (.inr (.inr (jstP P a j (some v) a))))))
  rw [e, hcl, vp_cell_q, vp_cell_q, arrV_store, jstP_eq]
  congr 2
  funext q
  by_cases hq : q = j
  · subst hq
    simp [updV, va_up, va_rf]
  · simp [updV, va_up, hq]
theorem jx_alen10 (C : jC p R s m args meth c D cA N0 cc nL own lv) {a n0 : Nat} (hsh : Sh a = some (10, n0)) (d : decode cc pc = .ok (.arraylength, 1)) (kk : jJ p l e R s m args below meth c D cA N0 nL Qf Z Sh I P L k n (pc + 1) ls (.int (nI n0) :: st)) : jJ p l e R s m args below meth c D cA N0 nL Qf Z Sh I P L k n pc ls (.ref a :: st) := by
  intro H locs arr hW hZ hS hl
  exact va_alen (D := D) (cl := vwCl) (tys := jtys cA) C.1 C.2.1 C.2.2.2.2.2.2.1.1 (hW.at hsh) 0 0 (cA := cA 0) (x := (n0, .inl (I a))) rfl rfl rfl d (kk H locs arr hW hZ hS hl)
theorem jx_alen12 (C : jC p R s m args meth c D cA N0 cc nL own lv) {a n0 : Nat} (hsh : Sh a = some (12, n0)) (d : decode cc pc = .ok (.arraylength, 1)) (kk : jJ p l e R s m args below meth c D cA N0 nL Qf Z Sh I P L k n (pc + 1) ls (.int (nI n0) :: st)) : jJ p l e R s m args below meth c D cA N0 nL Qf Z Sh I P L k n pc ls (.ref a :: st) := by
  intro H locs arr hW hZ hS hl
  exact va_alen (D := D) (cl := vwCl) (tys := jtys cA) C.1 C.2.1 C.2.2.2.2.2.2.1.1 (hW.at hsh) 0 2 (cA := cA 2) (x := (n0, .inr (.inr (.inr (.inr (P a)))))) rfl rfl rfl d (kk H locs arr hW hZ hS hl)
theorem jx_alen13 (C : jC p R s m args meth c D cA N0 cc nL own lv) {a n0 : Nat} (hsh : Sh a = some (13, n0)) (d : decode cc pc = .ok (.arraylength, 1)) (kk : jJ p l e R s m args below meth c D cA N0 nL Qf Z Sh I P L k n (pc + 1) ls (.int (nI n0) :: st)) : jJ p l e R s m args below meth c D cA N0 nL Qf Z Sh I P L k n pc ls (.ref a :: st) := by
  intro H locs arr hW hZ hS hl
  exact va_alen (D := D) (cl := vwCl) (tys := jtys cA) C.1 C.2.1 C.2.2.2.2.2.2.1.1 (hW.at hsh) 0 3 (cA := cA 3) (x := (n0, .inr (.inr (.inr (.inr (P a)))))) rfl rfl rfl d (kk H locs arr hW hZ hS hl)
theorem jx_alen14 (C : jC p R s m args meth c D cA N0 cc nL own lv) {a n0 : Nat} (hsh : Sh a = some (14, n0)) (d : decode cc pc = .ok (.arraylength, 1)) (kk : jJ p l e R s m args below meth c D cA N0 nL Qf Z Sh I P L k n (pc + 1) ls (.int (nI n0) :: st)) : jJ p l e R s m args below meth c D cA N0 nL Qf Z Sh I P L k n pc ls (.ref a :: st) := by
  intro H locs arr hW hZ hS hl
  exact va_alen (D := D) (cl := vwCl) (tys := jtys cA) C.1 C.2.1 C.2.2.2.2.2.2.1.1 (hW.at hsh) 0 4 (cA := cA 4) (x := (n0, .inr (.inr (.inr (.inr (P a)))))) rfl rfl rfl d (kk H locs arr hW hZ hS hl)
theorem jx_gets (C : jC p R s m args meth c D cA N0 cc nL own lv) {C0 nm : String} {t idx N : Nat} {f : Nat → Int32} (hT : jTab C0 nm N0 N f t s s.heap) (w : Cond.fieldLink own idx C0 nm "[I" ∈ jWS) (d : decode cc pc = .ok (.getstatic idx, 3)) (kk : jJ p l e R s m args below meth c D cA N0 nL Qf Z Sh I P L k n (pc + 3) ls (.ref t :: st)) : jJ p l e R s m args below meth c D cA N0 nL Qf Z Sh I P L k n pc ls st :=
  fun H locs arr hW hZ hS hl => va_gets C.1 C.2.1 hT.1 hS C.2.2.2.1 (C.2.2.2.2.1 _ w) (fun _ h => h) d (kk H locs arr hW hZ hS hl)
theorem jx_tld (C : jC p R s m args meth c D cA N0 cc nL own lv) {C0 nm : String} {t j N : Nat} {f : Nat → Int32} (hT : jTab C0 nm N0 N f t s s.heap) (hj : j < N) (hn : N < 2 ^ 31) (d : decode cc pc = .ok (.iaload, 1)) (kk : jJ p l e R s m args below meth c D cA N0 nL Qf Z Sh I P L k n (pc + 1) ls (.int (f j) :: st)) : jJ p l e R s m args below meth c D cA N0 nL Qf Z Sh I P L k n pc ls (.int (nI j) :: .ref t :: st) :=
  fun H locs arr hW hZ hS hl => va_ti C.1 C.2.1 hT.2 hS (vp_in_nI hj hn) (by rw [nI_clamp (by omega)]) d (kk H locs arr hW hZ hS hl)
end JH
