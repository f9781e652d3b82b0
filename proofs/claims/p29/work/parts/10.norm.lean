/-- an answer and a memory that are said -/
def jD (v : Option Value) (I : jI) (P : jP) (L : jL) : Option Value → jI → jP → jL → Prop := fun v2 I2 P2 L2 => v2 = v ∧ I2 = I ∧ P2 = P ∧ L2 = L
def jQn (D : va_G) (cA : Nat → ClassId) (N0 : Nat) (Sh : jS) (Q : Option Value → jI → jP → jL → Prop) : Array Value → State → Outcome → State → Prop := jQx D cA N0 (fun v _ Sh' I' P' L' => Sh' = Sh ∧ Q v I' P' L')
theorem nI_lt0 {a : Nat} (h : a < 2 ^ 31) : nI a < 0 ↔ False := by
  rw [← nI_0, nI_ltI h (by decide)]; exact iff_false_intro (Nat.not_lt_zero a)
theorem nI_le0 {a : Nat} (h : a < 2 ^ 31) : nI a ≤ 0 ↔ a = 0 := by
  rw [← nI_0, nI_leI h (by decide)]; omega
theorem nI_ge0 {a : Nat} (h : a < 2 ^ 31) : 0 ≤ nI a ↔ True := by
  rw [← nI_0, nI_leI (by decide) h]; simp
theorem nI_gt0 {a : Nat} (h : a < 2 ^ 31) : 0 < nI a ↔ 0 < a := by
  rw [← nI_0, nI_ltI (by decide) h]
theorem nI_eq0 {a : Nat} (h : a < 2 ^ 31) : nI a = 0 ↔ a = 0 := by
  rw [← nI_0, nI_eq h (by decide)]
theorem nI_m1 {a : Nat} (h : a < 2 ^ 31) : nI a = (-1 : Int32) ↔ False := by
  refine iff_false_intro (fun z => ?_)
  have h1 := congrArg Int32.toInt z
  rw [nI_toInt h] at h1
  have h2 : ((-1 : Int32)).toInt = -1 := by decide
  omega
theorem nI_m1' {a : Nat} (h : a < 2 ^ 31) : (-1 : Int32) = nI a ↔ False := by
  rw [eq_comm]; exact nI_m1 h
theorem i32_lt (a b : Int32) : a < b ↔ a.toInt < b.toInt := Int32.lt_iff_toInt_lt
theorem i32_le (a b : Int32) : a ≤ b ↔ a.toInt ≤ b.toInt := Int32.le_iff_toInt_le
theorem i32_nlt {a b : Int32} : ¬ a < b ↔ b ≤ a := by rw [i32_lt, i32_le]; omega
theorem i32_nle {a b : Int32} : ¬ a ≤ b ↔ b < a := by rw [i32_lt, i32_le]; omega
/-- a truth as an int -/
def bI (b : Bool) : Int32 := if b then 1 else 0
theorem bI_t : bI true = nI 1 := rfl
theorem bI_f : bI false = nI 0 := rfl
theorem bI_0 (b : Bool) : bI b = 0 ↔ b = false := by cases b <;> decide
theorem bI_nar (b : Bool) : narrow .boolean (.int (bI b)) = .int (bI b) := by cases b <;> rfl
theorem bI_dec {q : Prop} [Decidable q] (h : q) : nI 1 = bI (decide q) := by simp [h, bI]; rfl
theorem bI_decn {q : Prop} [Decidable q] (h : ¬ q) : nI 0 = bI (decide q) := by simp [h, bI]; rfl
/-- a place or none as an int -/
def oI : Option Nat → Int32 | none => -1 | some o => nI o
section JN
variable {p : Program} {l : Launch} {e : Env} {R : Room} {s : State} {m : MethodId} {args : Array Value} {below : List Frame} {meth : Method} {c : Code} {D : va_G} {cA : Nat → ClassId} {N0 : Nat} {cc : ByteArray} {nL : Nat} {own : String} {lv : Nat} {Qf : State → Prop} {Z : Nat → Prop} {Sh : jS} {I : jI} {P : jP} {L : jL} {k n pc : Nat} {ls : List (Option Value)} {st : List Value}
theorem jN_of {y : MethodName} {ret : Option FieldType} {av : List Value} {Q : Option Value → jI → jP → jL → Prop} (hy : plainName y.cls = true) (hlen : (lg_sl av).length ≤ nL)
    (body : ∀ (p : Program) (e : Env) (s : State) (m : MethodId) (args : Array Value) (below : List Frame) (meth : Method) (c : Code), jC p (jRm lv 0 0) s m args meth c D cA N0 cc nL y.cls lv → meth.sig.returnType = ret → jJ p l e (jRm lv 0 0) s m args below meth c D cA N0 nL (MQ below (jQn D cA N0 Sh Q) args s 0 0 (fun q => N0 ≤ q)) (fun _ => True) Sh I P L 0 0 0 (jpad nL (jin av)) []) :
    jN l D cA N0 lv y cc nL ret av Sh I P L Q := jM_of hy hlen (fun p e s m args below meth c C hr _ => body p e s m args below meth c C hr)
theorem jx_callD (C : jC p R s m args meth c D cA N0 cc nL own lv) {y : MethodName} {bytes : ByteArray} {maxL lv' : Nat} {ret : Option FieldType} {av rest : List Value} {w : Value} {I' : jI} {P' : jP} {L' : jL} (hgo : jGo p l e R s m args below meth c D cA N0 nL Sh y bytes maxL ret pc av rest st) (hM : jN l D cA N0 lv' y bytes maxL ret av Sh I P L (jD (some w) I' P' L')) (hlv : lv' + 1 ≤ lv) (hmx : maxL ≤ 21) (hkn : k ≤ R.cells ∧ n ≤ R.slots)
    (kk : jJ p l e R s m args below meth c D cA N0 nL Qf (fun _ => True) Sh I' P' L' k n (pc + 3) ls (w :: rest)) : jJ p l e R s m args below meth c D cA N0 nL Qf Z Sh I P L k n pc ls st := by
  refine jx_call C hgo hM hlv hmx (fun _ _ => trivial) hkn ?_
  intro v z Sh' I2 P2 L2 hQ
  obtain ⟨rfl, rfl, rfl, rfl, rfl⟩ := hQ
  exact jx_sz (fun _ _ => trivial) kk
theorem jx_callDv (C : jC p R s m args meth c D cA N0 cc nL own lv) {y : MethodName} {bytes : ByteArray} {maxL lv' : Nat} {ret : Option FieldType} {av rest : List Value} {I' : jI} {P' : jP} {L' : jL} (hgo : jGo p l e R s m args below meth c D cA N0 nL Sh y bytes maxL ret pc av rest st) (hM : jN l D cA N0 lv' y bytes maxL ret av Sh I P L (jD none I' P' L')) (hlv : lv' + 1 ≤ lv) (hmx : maxL ≤ 21) (hkn : k ≤ R.cells ∧ n ≤ R.slots)
    (kk : jJ p l e R s m args below meth c D cA N0 nL Qf (fun _ => True) Sh I' P' L' k n (pc + 3) ls rest) : jJ p l e R s m args below meth c D cA N0 nL Qf Z Sh I P L k n pc ls st := by
  refine jx_call C hgo hM hlv hmx (fun _ _ => trivial) hkn ?_
  intro v z Sh' I2 P2 L2 hQ
  obtain ⟨rfl, rfl, rfl, rfl, rfl⟩ := hQ
  exact jx_sz (fun _ _ => trivial) kk
theorem jx_getIv (C : jC p R s m args meth c D cA N0 cc nL own lv) {a ci n0 idx k0 : Nat} {x : Int32} (hf : jfOK own idx ci k0) (hty : jisI (jty ci k0) = true) (hsh : Sh a = some (ci, n0)) (hv : I a k0 = x) (d : decode cc pc = .ok (.getfield idx, 3)) (kk : jJ p l e R s m args below meth c D cA N0 nL Qf Z Sh I P L k n (pc + 3) ls (.int x :: st)) : jJ p l e R s m args below meth c D cA N0 nL Qf Z Sh I P L k n pc ls (.ref a :: st) :=
  jx_get C hf hsh ((if_pos hty).trans (by rw [hv])) d kk
theorem jx_ialdv (C : jC p R s m args meth c D cA N0 cc nL own lv) {a n0 j : Nat} {x : Int32} (hsh : Sh a = some (10, n0)) (hj : j < n0) (hn : n0 < 2 ^ 31) (hv : I a j = x) (d : decode cc pc = .ok (.iaload, 1)) (kk : jJ p l e R s m args below meth c D cA N0 nL Qf Z Sh I P L k n (pc + 1) ls (.int x :: st)) : jJ p l e R s m args below meth c D cA N0 nL Qf Z Sh I P L k n pc ls (.int (nI j) :: .ref a :: st) :=
  jx_iald C hsh hj hn d (by rw [hv]; exact kk)
theorem jx_iaddN (C : jC p R s m args meth c D cA N0 cc nL own lv) {a b : Nat} (d : decode cc pc = .ok (.iadd, 1)) (kk : jJ p l e R s m args below meth c D cA N0 nL Qf Z Sh I P L k n (pc + 1) ls (.int (nI (a + b)) :: st)) : jJ p l e R s m args below meth c D cA N0 nL Qf Z Sh I P L k n pc ls (.int (nI b) :: .int (nI a) :: st) :=
  jx_iadd C d (by rw [nI_add]; exact kk)
theorem jx_imulN (C : jC p R s m args meth c D cA N0 cc nL own lv) {a b : Nat} (d : decode cc pc = .ok (.imul, 1)) (kk : jJ p l e R s m args below meth c D cA N0 nL Qf Z Sh I P L k n (pc + 1) ls (.int (nI (a * b)) :: st)) : jJ p l e R s m args below meth c D cA N0 nL Qf Z Sh I P L k n pc ls (.int (nI b) :: .int (nI a) :: st) :=
  jx_imul C d (by rw [pk_mul]; exact kk)
theorem jx_isubN (C : jC p R s m args meth c D cA N0 cc nL own lv) {a b : Nat} (h : b ≤ a) (d : decode cc pc = .ok (.isub, 1)) (kk : jJ p l e R s m args below meth c D cA N0 nL Qf Z Sh I P L k n (pc + 1) ls (.int (nI (a - b)) :: st)) : jJ p l e R s m args below meth c D cA N0 nL Qf Z Sh I P L k n pc ls (.int (nI b) :: .int (nI a) :: st) :=
  jx_isub C d (by rw [pk_sub h]; exact kk)
theorem jx_iincN (C : jC p R s m args meth c D cA N0 cc nL own lv) {q a : Nat} {ls' : List (Option Value)} (d : decode cc pc = .ok (.iinc q 1, 3)) (hk : ls[q]? = some (some (.int (nI a)))) (hs : jset ls q (.int (nI (a + 1))) ls') (hn : q < nL) (kk : jJ p l e R s m args below meth c D cA N0 nL Qf Z Sh I P L k n (pc + 3) ls' st) : jJ p l e R s m args below meth c D cA N0 nL Qf Z Sh I P L k n pc ls st :=
  jx_iinc C d hk (by rw [← nI_1]; rfl) hs hn kk
theorem jx_iincM (C : jC p R s m args meth c D cA N0 cc nL own lv) {q a : Nat} {ls' : List (Option Value)} (d : decode cc pc = .ok (.iinc q (-1), 3)) (hk : ls[q]? = some (some (.int (nI (a + 1))))) (hs : jset ls q (.int (nI a)) ls') (hn : q < nL) (kk : jJ p l e R s m args below meth c D cA N0 nL Qf Z Sh I P L k n (pc + 3) ls' st) : jJ p l e R s m args below meth c D cA N0 nL Qf Z Sh I P L k n pc ls st :=
  jx_iinc C d hk (pk_m1 a) hs hn kk
theorem jx_top (C : jC p R s m args meth c D cA N0 cc nL own lv) {x y : Value} (h : x = y) (kk : jJ p l e R s m args below meth c D cA N0 nL Qf Z Sh I P L k n pc ls (y :: st)) : jJ p l e R s m args below meth c D cA N0 nL Qf Z Sh I P L k n pc ls (x :: st) := by rw [h]; exact kk
theorem jx_mem {I' : jI} {P' : jP} (hI : I = I') (hP : P = P') (kk : jJ p l e R s m args below meth c D cA N0 nL Qf Z Sh I' P' L k n pc ls st) : jJ p l e R s m args below meth c D cA N0 nL Qf Z Sh I P L k n pc ls st := by rw [hI, hP]; exact kk
theorem jn_iret (C : jC p R s m args meth c D cA N0 cc nL own lv) {Q : Option Value → jI → jP → jL → Prop} {v : Int32} (hr : meth.sig.returnType = some .int) (hq : Q (some (.int v)) I P L) (d : decode cc pc = .ok (.ireturn, 1)) : jJ p l e R s m args below meth c D cA N0 nL (MQ below (jQn D cA N0 Sh Q) args s k n (fun q => N0 ≤ q)) Z Sh I P L k n pc ls [.int v] := jx_iret C hr (fun _ _ => ⟨rfl, hq⟩) d
theorem jn_zret (C : jC p R s m args meth c D cA N0 cc nL own lv) {Q : Option Value → jI → jP → jL → Prop} {v : Int32} {ty : FieldType} (hr : meth.sig.returnType = some ty) (hn : narrow ty (.int v) = .int v) (hq : Q (some (.int v)) I P L) (d : decode cc pc = .ok (.ireturn, 1)) : jJ p l e R s m args below meth c D cA N0 nL (MQ below (jQn D cA N0 Sh Q) args s k n (fun q => N0 ≤ q)) Z Sh I P L k n pc ls [.int v] := jx_zret C hr hn (fun _ _ => ⟨rfl, hq⟩) d
theorem jn_lret (C : jC p R s m args meth c D cA N0 cc nL own lv) {Q : Option Value → jI → jP → jL → Prop} {v : Int64} (hr : meth.sig.returnType = some .long) (hq : Q (some (.long v)) I P L) (d : decode cc pc = .ok (.lreturn, 1)) : jJ p l e R s m args below meth c D cA N0 nL (MQ below (jQn D cA N0 Sh Q) args s k n (fun q => N0 ≤ q)) Z Sh I P L k n pc ls [.long v] := jx_lret C hr (fun _ _ => ⟨rfl, hq⟩) d
theorem jn_dret (C : jC p R s m args meth c D cA N0 cc nL own lv) {Q : Option Value → jI → jP → jL → Prop} {v : UInt64} (hr : meth.sig.returnType = some .double) (hq : Q (some (.double v)) I P L) (d : decode cc pc = .ok (.dreturn, 1)) : jJ p l e R s m args below meth c D cA N0 nL (MQ below (jQn D cA N0 Sh Q) args s k n (fun q => N0 ≤ q)) Z Sh I P L k n pc ls [.double v] := jx_dret C hr (fun _ _ => ⟨rfl, hq⟩) d
theorem jn_aret (C : jC p R s m args meth c D cA N0 cc nL own lv) {Q : Option Value → jI → jP → jL → Prop} {v : Value} {rt : FieldType} (hr : meth.sig.returnType = some rt) (hrt : (∃ n, rt = .object n) ∨ ∃ t, rt = .array t) (hvv : v = .null ∨ ∃ a, v = .ref a) (hq : Q (some (v)) I P L) (d : decode cc pc = .ok (.areturn, 1)) : jJ p l e R s m args below meth c D cA N0 nL (MQ below (jQn D cA N0 Sh Q) args s k n (fun q => N0 ≤ q)) Z Sh I P L k n pc ls [v] := jx_aret C hr hrt hvv (fun _ _ => ⟨rfl, hq⟩) d
theorem jn_vret (C : jC p R s m args meth c D cA N0 cc nL own lv) {Q : Option Value → jI → jP → jL → Prop} (hr : meth.sig.returnType = none) (hq : Q none I P L) (d : decode cc pc = .ok (.return_, 1)) : jJ p l e R s m args below meth c D cA N0 nL (MQ below (jQn D cA N0 Sh Q) args s k n (fun q => N0 ≤ q)) Z Sh I P L k n pc ls [] := jx_vret C hr (fun _ _ => ⟨rfl, hq⟩) d
theorem jD_of {v v' : Option Value} {I' : jI} {P' : jP} {L' : jL} (h1 : v = v') (h2 : I = I') (h3 : P = P') (h4 : L = L') : jD v' I' P' L' v I P L := ⟨h1, h2, h3, h4⟩
theorem jD_r {v : Option Value} : jD v I P L v I P L := ⟨rfl, rfl, rfl, rfl⟩
theorem jD_i {v v' : Int32} (h : v = v') : jD (some (.int v')) I P L (some (.int v)) I P L := ⟨by rw [h], rfl, rfl, rfl⟩
end JN
