/-! THE LAYER J: memory as functions of address and slot (I: ints, P: references, L: longs), a shape Sh of addresses; judgement jJ at a frame -/
abbrev jI : Type := Nat → Nat → Int32
abbrev jP : Type := Nat → Nat → Option Nat
abbrev jL : Type := Nat → Nat → Int64
abbrev jS : Type := Nat → Option (Nat × Nat)
/-- the words that every method gets -/
def jWS : List Cond := lw_tbl.filter goodWord
theorem jWS_in {w : Cond} (i : Nat) (h : lw_tbl[i]? = some w) (hg : goodWord w = true) : w ∈ jWS := List.mem_filter.mpr ⟨List.mem_of_getElem? h, hg⟩
theorem jWS_tbl {w : Cond} (h : w ∈ jWS) : w ∈ lw_tbl := (List.mem_filter.mp h).1
theorem jWS_good {w : Cond} (h : w ∈ jWS) : goodWord w = true := (List.mem_filter.mp h).2
def jR : Nat → String | 0 => RX0 | 1 => RX1 | 2 => RX2 | 3 => RX3 | 4 => RX4 | _ => RX5
def jT : Nat → u_T | 0 => TX0 | 1 => TX1 | 2 => TX2 | 3 => TX3 | 4 => TX4 | _ => TX5
def jn : Nat → Nat | 0 => 13 | 1 => 8 | 2 => 4 | 3 => 9 | 4 => 1 | _ => 8
def jty : Nat → Nat → FieldType | 0 => tyX0 | 1 => tyX1 | 2 => tyX2 | 3 => tyX3 | 4 => tyX4 | _ => tyX5
theorem jcl {c : Nat} (h : c < 6) : vwCl[c]? = some (jR c, jT c, jn c) := by
  match c, h with
  | 0, _ => rfl
  | 1, _ => rfl
  | 2, _ => rfl
  | 3, _ => rfl
  | 4, _ => rfl
  | 5, _ => rfl
theorem jnm {c : Nat} (h : c < 6) : ∀ a, a < jn c → ∀ b, b < jn c → a ≠ b → (jT c a).2.1 ≠ (jT c b).2.1 := by
  match c, h with
  | 0, _ => exact nmX0
  | 1, _ => exact nmX1
  | 2, _ => exact nmX2
  | 3, _ => exact nmX3
  | 4, _ => exact nmX4
  | 5, _ => exact nmX5
theorem jtyok {c : Nat} (h : c < 6) : ∀ k, k < jn c → parseFieldDescriptor (jT c k).2.2.1 = some (jty c k) := by
  match c, h with
  | 0, _ => exact tyX0_ok
  | 1, _ => exact tyX1_ok
  | 2, _ => exact tyX2_ok
  | 3, _ => exact tyX3_ok
  | 4, _ => exact tyX4_ok
  | 5, _ => exact tyX5_ok
def jisI : FieldType → Bool | .int => true | .boolean => true | _ => false
def jfv (c : Nat) (fi : Nat → Int32) (fp : Nat → Option Nat) (k : Nat) : Value := if jisI (jty c k) = true then .int (fi k) else va_rf (fp k)
/-- the cell of an address: its kind (a class, or 10: int[], 11: long[], 12, 13, 14: Weaver[], Order[], Hall[]) and length -/
def jent (cA : Nat → ClassId) (fi : Nat → Int32) (fp : Nat → Option Nat) (fl : Nat → Int64) (q : Nat × Nat) : va_E :=
  if q.1 = 10 then .inl (cA 0, q.2, .inl fi)
  else if q.1 = 11 then .inl (cA 1, q.2, .inr (.inl fl))
  else if q.1 = 12 then .inl (cA 2, q.2, .inr (.inr (.inr (.inr fp))))
  else if q.1 = 13 then .inl (cA 3, q.2, .inr (.inr (.inr (.inr fp))))
  else if q.1 = 14 then .inl (cA 4, q.2, .inr (.inr (.inr (.inr fp))))
  else .inr (q.1, (List.range (jn q.1)).map (jfv q.1 fi fp))
theorem jent_c {cA : Nat → ClassId} {fi : Nat → Int32} {fp : Nat → Option Nat} {fl : Nat → Int64} {c n : Nat} (h : c < 6) : jent cA fi fp fl (c, n) = .inr (c, (List.range (jn c)).map (jfv c fi fp)) := by
  unfold jent
  rw [if_neg (by show ¬ c = 10; omega), if_neg (by show ¬ c = 11; omega), if_neg (by show ¬ c = 12; omega), if_neg (by show ¬ c = 13; omega), if_neg (by show ¬ c = 14; omega)]
def jtys (cA : Nat → ClassId) : List (ClassId × FieldType) := [(cA 0, .int), (cA 1, .int), (cA 2, .object RX3), (cA 3, .object RX1), (cA 4, .object RX0)]
/-- the heap holds the memory -/
def jW (D : va_G) (cA : Nat → ClassId) (N0 : Nat) (Sh : jS) (I : jI) (P : jP) (L : jL) (H : Heap) : Prop :=
  ∀ (a : Nat) (q : Nat × Nat), Sh a = some q → N0 ≤ a ∧ va_at D vwCl (a, jent cA (I a) (P a) (L a) q) H
/-- the locals, by their places; none: unknown, or the second half of a long -/
def jl (arr : Array Slot) (nL : Nat) (ls : List (Option Value)) : Prop := arr.size = nL ∧ lv_wf arr ∧ ∀ (i : Nat) (v : Value), ls[i]? = some (some v) → arr[i]? = some (.val v)
def jen (ls : List (Option Value)) : List (Nat × Value) := (List.range ls.length).filterMap fun i => match ls[i]? with | some (some v) => some (i, v) | _ => none
theorem jen_in {ls : List (Option Value)} {i : Nat} {v : Value} (h : ls[i]? = some (some v)) : (i, v) ∈ jen ls := by
  refine List.mem_filterMap.mpr ⟨i, List.mem_range.mpr (List.getElem?_eq_some_iff.mp h).1, ?_⟩
  simp [h]
theorem jen_of {ls : List (Option Value)} {q : Nat × Value} (h : q ∈ jen ls) : ls[q.1]? = some (some q.2) := by
  obtain ⟨i, -, hi⟩ := List.mem_filterMap.mp h
  split at hi
  · rename_i v hv
    cases hi
    exact hv
  · cases hi
theorem jl.has {arr : Array Slot} {nL : Nat} {ls : List (Option Value)} (h : jl arr nL ls) : lv_has arr nL (jen ls) := ⟨h.1, h.2.1, fun q hq => h.2.2 q.1 q.2 (jen_of hq)⟩
/-- ls with v at k is ls'; the place ahead isn't a long's -/
def jset (ls : List (Option Value)) (k : Nat) (v : Value) (ls' : List (Option Value)) : Prop := k < ls.length ∧ ls' = ls.set k (some v) ∧ ∀ w : Value, 0 < k → ls[k - 1]? = some (some w) → w.category = 1
def jset2 (ls : List (Option Value)) (k : Nat) (v : Value) (ls' : List (Option Value)) : Prop := k + 1 < ls.length ∧ ls' = (ls.set k (some v)).set (k + 1) none ∧ ∀ w : Value, 0 < k → ls[k - 1]? = some (some w) → w.category = 1
theorem jl.set1 {arr : Array Slot} {nL k : Nat} {v : Value} {ls ls' : List (Option Value)} (hs : jset ls k v ls') (h : lv_has arr nL ((k, v) :: (jen ls).filter (fun q => !(q.1 == k) && !(q.1 + 1 == k && q.2.category == 2)))) : jl arr nL ls' := by
  obtain ⟨hk, rfl, hp⟩ := hs
  refine ⟨h.1, h.2.1, fun i w hi => ?_⟩
  by_cases hik : i = k
  · subst hik
    rw [List.getElem?_set_self hk] at hi
    have hvw : v = w := Option.some.inj (Option.some.inj hi)
    rw [← hvw]
    exact h.2.2 (i, v) List.mem_cons_self
  · rw [List.getElem?_set_ne (Ne.symm hik)] at hi
    refine h.2.2 (i, w) (List.mem_cons_of_mem _ (List.mem_filter.mpr ⟨jen_in hi, ?_⟩))
    have h2 : ¬ (i + 1 = k ∧ w.category = 2) := fun z => by
      have h3 := hp w (by omega) (by rw [show k - 1 = i by omega]; exact hi)
      omega
    by_cases h4 : i + 1 = k
    · have h5 : ¬ w.category = 2 := fun z => h2 ⟨h4, z⟩
      simp [hik, h5]
    · simp [hik, h4]
theorem jl.set2 {arr : Array Slot} {nL k : Nat} {v : Value} {ls ls' : List (Option Value)} (hs : jset2 ls k v ls') (h : lv_has arr nL ((k, v) :: (jen ls).filter (fun q => !(q.1 == k) && (!(q.1 == k + 1) && !(q.1 + 1 == k && q.2.category == 2))))) : jl arr nL ls' := by
  obtain ⟨hk, rfl, hp⟩ := hs
  refine ⟨h.1, h.2.1, fun i w hi => ?_⟩
  by_cases hik1 : i = k + 1
  · subst hik1
    rw [List.getElem?_set_self (by rw [List.length_set]; exact hk)] at hi
    cases hi
  · rw [List.getElem?_set_ne (Ne.symm hik1)] at hi
    by_cases hik : i = k
    · subst hik
      rw [List.getElem?_set_self (by omega)] at hi
      have hvw : v = w := Option.some.inj (Option.some.inj hi)
      rw [← hvw]
      exact h.2.2 (i, v) List.mem_cons_self
    · rw [List.getElem?_set_ne (Ne.symm hik)] at hi
      refine h.2.2 (i, w) (List.mem_cons_of_mem _ (List.mem_filter.mpr ⟨jen_in hi, ?_⟩))
      have h2 : ¬ (i + 1 = k ∧ w.category = 2) := fun z => by
        have h3 := hp w (by omega) (by rw [show k - 1 = i by omega]; exact hi)
        omega
      by_cases h4 : i + 1 = k
      · have h5 : ¬ w.category = 2 := fun z => h2 ⟨h4, z⟩
        simp [hik, hik1, h5]
      · simp [hik, hik1, h4]
theorem jl.mono {arr : Array Slot} {nL : Nat} {ls ls' : List (Option Value)} (h : jl arr nL ls) (hm : ∀ (i : Nat) (v : Value), ls'[i]? = some (some v) → ls[i]? = some (some v)) : jl arr nL ls' := ⟨h.1, h.2.1, fun i v hi => h.2.2 i v (hm i v hi)⟩
/-- the places of a method's arguments -/
def jin : List Value → List (Option Value)
  | [] => []
  | v :: t => if v.category = 2 then some v :: none :: jin t else some v :: jin t
theorem jin_args : ∀ (vs : List Value) (b i : Nat) (v : Value), (jin vs)[i]? = some (some v) → (b + i, v) ∈ lv_args b vs := by
  intro vs
  induction vs with
  | nil => intro b i v h; simp [jin] at h
  | cons x t ih =>
    intro b i v h
    unfold jin at h
    unfold lv_args
    split at h
    · rename_i hc
      match i, h with
      | 0, h => simp at h; subst h; simp
      | 1, h => simp at h
      | i + 2, h =>
        have h1 := ih (b + 2) i v (by simpa using h)
        simp only [hc]
        rw [show b + (i + 2) = b + 2 + i by omega]
        exact List.mem_cons_of_mem _ h1
    · rename_i hc
      have hc1 : x.category = 1 := (lv_cat x).resolve_right hc
      match i, h with
      | 0, h => simp at h; subst h; simp
      | i + 1, h =>
        have h1 := ih (b + 1) i v (by simpa using h)
        simp only [hc1]
        rw [show b + (i + 1) = b + 1 + i by omega]
        exact List.mem_cons_of_mem _ h1
/-- links of private members of nest mates -/
def jNW : List (String × Nat × MethodName × String) := [(RX0, 25, ⟨RX4, "<init>", "()V"⟩, RX5), (RX0, 37, ⟨RX3, "<init>", "()V"⟩, RX5), (RX3, 11, ⟨RX4, "<init>", "()V"⟩, RX5), (RX0, 38, ⟨RX1, "<init>", "()V"⟩, RX5), (RX5, 29, ⟨RX2, "<init>", "()V"⟩, RX5)]
/-- the texts of the throws -/
def jST : List (Nat × String) := [(43, "no such weaver"), (53, "no such loom"), (75, "no such weaver or colour"), (77, "grams out of range"), (91, "share out of range"), (98, "no such colour"), (104, "the store would be too full"), (106, "same weaver, or grams out of range"), (108, "no such order can be taken"), (113, "too many orders"), (123, "no such order"), (134, "no such setting"), (139, "value out of range"), (144, "hours out of range"), (149, "too many hours"), (183, "no state is saved"), (189, "no such property"), (194, "no such place or property"), (199, "no such place"), (207, "no such question"), (216, "no such number"), (235, "no such order or weaver")]
/-- a static table of ints: where it lies, what it holds -/
def jTab (C n : String) (N0 N : Nat) (f : Nat → Int32) (t : Nat) (U : State) (H : Heap) : Prop := va_Z C n "[I" (.ref t) (fun q => N0 ≤ q) U H ∧ va_T .int t N (fun j => .int (f j)) (fun q => N0 ≤ q) U H
def jtMV : Nat → Int32 | 0 => 2 | 1 => 1 | 2 => 50 | _ => 9
def jtLE : Nat → Int32 | 0 => 1 | 1 => 40 | 2 => 0 | 3 => 1 | _ => 0
def jtMO : Nat → Int32 | 0 => 200 | 1 => 200 | 2 => 3 | 3 => 99 | _ => 9999
def jSt (N0 : Nat) (U : State) (H : Heap) : Prop :=
  (∃ t, jTab RX5 "MOST_VALUES" N0 4 jtMV t U H) ∧ True ∧ True ∧
  vx_Zq Bundle.tN "UNASSIGNED_STACK" Bundle.steD (fun q => N0 ≤ q) U H ∧ vx_Zq Bundle.tN "SUPPRESSED_SENTINEL" Bundle.listD (fun q => N0 ≤ q) U H
/-- what the tables and the cells below N0 say -/
def jK (D : va_G) (cA : Nat → ClassId) (N0 : Nat) (U : State) (H : Heap) : Prop :=
  va_K D vwCl (jtys cA) U ∧ (∀ w ∈ jNW, va_Nw (.methodLinkNest w.1 w.2.1 w.2.2.1 w.2.2.2) U) ∧ (∀ q ∈ jST, ∃ sa, vk_R RX5 q.1 q.2 sa U) ∧ jSt N0 U H
theorem jTab.moved {C n : String} {N0 N : Nat} {f : Nat → Int32} {t : Nat} {u U : State} {H : Heap} (hvm : u.vm.Alike U.vm) (h : jTab C n N0 N f t u H) : jTab C n N0 N f t U H := ⟨va_Z.moved hvm h.1, va_T.moved hvm h.2⟩
theorem jTab.kept {C n : String} {N0 N : Nat} {f : Nat → Int32} {t : Nat} {U : State} {H H1 : Heap} (h : jTab C n N0 N f t U H) (hq : ∀ a : Nat, a < H.size → ¬ N0 ≤ a → H1[a]? = H[a]?) : jTab C n N0 N f t U H1 := ⟨va_Z.kept h.1 hq, va_T.kept h.2 hq⟩
theorem jSt.moved {N0 : Nat} {u U : State} {H : Heap} (hvm : u.vm.Alike U.vm) (h : jSt N0 u H) : jSt N0 U H := by
  obtain ⟨⟨t1, h1⟩, h2, h3, h4, h5⟩ := h
  exact ⟨⟨t1, h1.moved hvm⟩, trivial, trivial, vx_Zq.moved hvm h4, vx_Zq.moved hvm h5⟩
theorem jSt.kept {N0 : Nat} {U : State} {H H1 : Heap} (h : jSt N0 U H) (hq : ∀ a : Nat, a < H.size → ¬ N0 ≤ a → H1[a]? = H[a]?) : jSt N0 U H1 := by
  obtain ⟨⟨t1, h1⟩, h2, h3, h4, h5⟩ := h
  exact ⟨⟨t1, h1.kept hq⟩, trivial, trivial, vx_Zq.kept h4 hq, vx_Zq.kept h5 hq⟩
theorem jK.warm {D : va_G} {cA : Nat → ClassId} {N0 : Nat} {u U : State} {H H1 : Heap} (hW : u.WarmedH U.vm) (h : jK D cA N0 u H) (hq : ∀ a : Nat, a < H.size → ¬ N0 ≤ a → H1[a]? = H[a]?) : jK D cA N0 U H1 :=
  ⟨va_K.moved hW.alike h.1, fun w hw => va_Nw.warmM hW (h.2.1 w hw), fun q hq' => by obtain ⟨sa, hs⟩ := h.2.2.1 q hq'; exact ⟨sa, vk_R.warm hW hs⟩, (h.2.2.2.moved hW.alike).kept hq⟩
theorem jK.calling {D : va_G} {cA : Nat → ClassId} {N0 : Nat} {U : State} {H : Heap} {g : JFrame} {mk : MethodId} {a : Array Value} (h : jK D cA N0 U H) : jK D cA N0 (U.calling g mk a) H :=
  ⟨va_K.moved (u := U) (U := U.calling g mk a) (Vm.Alike.refl U.vm) h.1, fun w hw => va_Nw.same rfl (u := U) (U := U.calling g mk a) rfl (h.2.1 w hw), fun q hq' => by obtain ⟨sa, hs⟩ := h.2.2.1 q hq'; exact ⟨sa, vk_R.warm (s := U) (U := U.calling g mk a) (State.WarmedH.refl U) hs⟩, h.2.2.2.moved (u := U) (U := U.calling g mk a) (Vm.Alike.refl U.vm)⟩
section JC
variable {p : Program} {l : Launch} {e : Env} {R : Room} {s : State} {m : MethodId} {args : Array Value} {below : List Frame} {meth : Method} {c : Code} {D : va_G} {cA : Nat → ClassId} {N0 : Nat} {cc : ByteArray} {nL : Nat} {own : String} {lv : Nat} {Qf : State → Prop} {Z : Nat → Prop} {Sh : jS} {I : jI} {P : jP} {L : jL} {k n pc : Nat} {ls : List (Option Value)} {st : List Value}
/-- what holds all along a body -/
def jC (p : Program) (R : Room) (s : State) (m : MethodId) (args : Array Value) (meth : Method) (c : Code) (D : va_G) (cA : Nat → ClassId) (N0 : Nat) (cc : ByteArray) (nL : Nat) (own : String) (lv : Nat) : Prop :=
  p.tables.exec = Jvm.exec ∧ c.code = cc ∧ c.maxLocals = nL ∧ s.vm.findClass own = some m.cls ∧ (∀ w ∈ jWS, w.before args s = true) ∧ meth.locks = false ∧ jK D cA N0 s s.heap ∧ lv ≤ R.frames ∧ 40 * lv ≤ R.locals ∧ N0 ≤ s.heap.size
/-- at the frame, from every heap that holds the memory, the machine comes to Qf -/
def jJ (p : Program) (l : Launch) (e : Env) (R : Room) (s : State) (m : MethodId) (args : Array Value) (below : List Frame) (meth : Method) (c : Code) (D : va_G) (cA : Nat → ClassId) (N0 nL : Nat) (Qf : State → Prop) (Z : Nat → Prop) (Sh : jS) (I : jI) (P : jP) (L : jL) (k n pc : Nat) (ls : List (Option Value)) (st : List Value) : Prop :=
  ∀ (H : Heap) (locs : List Loc) (arr : Array Slot), jW D cA N0 Sh I P L H → Z H.size → va_S (fun q => N0 ≤ q) s.heap H locs → jl arr nL ls → W p l e R s m args below meth c H locs k n Qf (F0 m pc arr st)
end JC
