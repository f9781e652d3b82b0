def smixN (h : Int64) (v : Nat → Int32) : Nat → Int64 | 0 => h | n + 1 => (31 : Int64) * smixN h v n + (v n).toInt64
theorem smixN_c {h : Int64} {v v' : Nat → Int32} : ∀ {n}, (∀ k, k < n → v k = v' k) → smixN h v n = smixN h v' n := by
  intro n
  induction n with
  | zero => intro _; rfl
  | succ n ih =>
    intro hc
    unfold smixN
    rw [ih (fun k hk => hc k (by omega)), hc n (by omega)]
def sdwv (f : sF) (h : Int64) : Nat → Int64 | 0 => h | n + 1 => smixN (smixN (sdwv f h n) (fun k => f (18 + 12 * n + k)) 12) (fun k => snextK f n k) 2
def sdo2 (a b : Int32) : Nat → Int32 := fun k => if k = 0 then a else b
def sdor (f : sF) (h : Int64) : Nat → Int64 | 0 => h | n + 1 => smixN (smixN (smixN (sdor f h n) (fun k => sofOrder f n k) 9) (fun k => f (90 + 12 * n + (6 + k))) 6) (sdo2 (sbehind f (f (90 + 12 * n + 0))) (sdueN f n 0)) 2
theorem smix_2 {h : Int64} {a b : Int32} : smixN h (sdo2 a b) 2 = (31 : Int64) * ((31 : Int64) * h + a.toInt64) + b.toInt64 := rfl
set_option maxHeartbeats 4000000 in
theorem lp_dg1 {p : Program} {l : Launch} {e : Env} {s : State} {m : MethodId} {args : Array Value} {below : List Frame} {meth : Method} {c : Code} {D : va_G} {cA : Nat → ClassId} {N0 : Nat} {Sh : jS} {I : jI} {P : jP} {L : jL} {Qf : State → Prop} (C : jC p (jRm 8 0 0) s m args meth c D cA N0 cX6_digest 5 RX6 8) {x : Nat} (hS : mS Sh x) (hP : mP P x) {v' : Option Value}  {h : Int64} (hx : jJ p l e (jRm 8 0 0) s m args below meth c D cA N0 5 Qf (fun _ => True) Sh I P L 0 0 36 [some (.ref x), some (.long (smixN h (fun k => scounted (I (x + 1)) (I x 3) k) (12))), none, some (.int (nI (12))), v'] []) : ∀ n i, i + n = 12 → jJ p l e (jRm 8 0 0) s m args below meth c D cA N0 5 Qf (fun _ => True) Sh I P L 0 0 11 [some (.ref x), some (.long (smixN h (fun k => scounted (I (x + 1)) (I x 3) k) (i))), none, some (.int (nI (i))), v'] [] := by
  intro n
  induction n with
  | zero =>
    intro i hi
    obtain rfl : i = 12 := by omega
    refine jx_iload_n (pc := 11) C dX6_digest_11 rfl ?_
    refine jx_bipush (pc := 12) C dX6_digest_12 nb_12 ?_
    refine jx_icmp_ge (pc := 14) C (tgt := 36) dX6_digest_14 (by decide) (fun c14 => ?_) (fun c14 => (by rw [nI_leI (by omega) (by omega)] at c14; exfalso; omega))
    rw [nI_leI (by omega) (by omega)] at c14
    exact hx
  | succ n ih =>
    intro i hi
    have hlt : i < 12 := by omega
    refine jx_iload_n (pc := 11) C dX6_digest_11 rfl ?_
    refine jx_bipush (pc := 12) C dX6_digest_12 nb_12 ?_
    refine jx_icmp_ge (pc := 14) C (tgt := 36) dX6_digest_14 (by decide) (fun c14 => (by rw [nI_leI (by omega) (by omega)] at c14; exfalso; omega)) (fun c14 => ?_)
    rw [nI_leI (by omega) (by omega)] at c14
    refine jx_ldc2 (pc := 17) C kk_X6_202 dX6_digest_17 ?_
    refine jx_lload_n (pc := 20) C dX6_digest_20 rfl ?_
    refine jx_lmul (pc := 21) C dX6_digest_21 ?_
    refine jx_aload_n (pc := 22) C dX6_digest_22 rfl ?_
    refine jx_iload_n (pc := 23) C dX6_digest_23 rfl ?_
    refine jx_callD (pc := 24) C (go_X6_178 C hS.1 (Nat.le_of_ble_eq_true rfl) dX6_digest_24) (t_X6_counted hS hP (by omega)) (by decide) (by decide) ⟨Nat.zero_le _, Nat.zero_le _⟩ ?_
    refine jx_i2l (pc := 27) C dX6_digest_27 ?_
    refine jx_ladd (pc := 28) C dX6_digest_28 ?_
    refine jx_lstore_n (pc := 29) C dX6_digest_29 (jsetw_1 jc_r) (by decide) ?_
    refine jx_iincN (pc := 30) C dX6_digest_30 rfl (jset_3 jc_n) (by decide) ?_
    refine jx_goto (pc := 33) C (tgt := 11) dX6_digest_33 (by decide) ?_
    exact ih (i + 1) (by omega)

set_option maxHeartbeats 4000000 in
theorem lp_dg2 {p : Program} {l : Launch} {e : Env} {s : State} {m : MethodId} {args : Array Value} {below : List Frame} {meth : Method} {c : Code} {D : va_G} {cA : Nat → ClassId} {N0 : Nat} {Sh : jS} {I : jI} {P : jP} {L : jL} {Qf : State → Prop} (C : jC p (jRm 8 0 0) s m args meth c D cA N0 cX6_digest 5 RX6 8) {x : Nat} (hS : mS Sh x) (hP : mP P x) {v' : Option Value}  {h : Int64} (hx : jJ p l e (jRm 8 0 0) s m args below meth c D cA N0 5 Qf (fun _ => True) Sh I P L 0 0 63 [some (.ref x), some (.long (smixN h (fun k => I (x + 1) k) (4))), none, some (.int (nI (4))), v'] []) : ∀ n i, i + n = 4 → jJ p l e (jRm 8 0 0) s m args below meth c D cA N0 5 Qf (fun _ => True) Sh I P L 0 0 38 [some (.ref x), some (.long (smixN h (fun k => I (x + 1) k) (i))), none, some (.int (nI (i))), v'] [] := by
  intro n
  induction n with
  | zero =>
    intro i hi
    obtain rfl : i = 4 := by omega
    refine jx_iload_n (pc := 38) C dX6_digest_38 rfl ?_
    refine jx_iconst (pc := 39) C dX6_digest_39 nc_4 ?_
    refine jx_icmp_ge (pc := 40) C (tgt := 63) dX6_digest_40 (by decide) (fun c40 => ?_) (fun c40 => (by rw [nI_leI (by omega) (by omega)] at c40; exfalso; omega))
    rw [nI_leI (by omega) (by omega)] at c40
    exact hx
  | succ n ih =>
    intro i hi
    have hlt : i < 4 := by omega
    refine jx_iload_n (pc := 38) C dX6_digest_38 rfl ?_
    refine jx_iconst (pc := 39) C dX6_digest_39 nc_4 ?_
    refine jx_icmp_ge (pc := 40) C (tgt := 63) dX6_digest_40 (by decide) (fun c40 => (by rw [nI_leI (by omega) (by omega)] at c40; exfalso; omega)) (fun c40 => ?_)
    rw [nI_leI (by omega) (by omega)] at c40
    refine jx_ldc2 (pc := 43) C kk_X6_202 dX6_digest_43 ?_
    refine jx_lload_n (pc := 46) C dX6_digest_46 rfl ?_
    refine jx_lmul (pc := 47) C dX6_digest_47 ?_
    refine jx_aload_n (pc := 48) C dX6_digest_48 rfl ?_
    refine jx_getP (pc := 49) C kf_X6_7 rfl hS.1 hP.1 dX6_digest_49 ?_
    refine jx_iload_n (pc := 52) C dX6_digest_52 rfl ?_
    refine jx_iald (pc := 53) C hS.2.1 (by omega) (by decide) dX6_digest_53 ?_
    refine jx_i2l (pc := 54) C dX6_digest_54 ?_
    refine jx_ladd (pc := 55) C dX6_digest_55 ?_
    refine jx_lstore_n (pc := 56) C dX6_digest_56 (jsetw_1 jc_r) (by decide) ?_
    refine jx_iincN (pc := 57) C dX6_digest_57 rfl (jset_3 jc_n) (by decide) ?_
    refine jx_goto (pc := 60) C (tgt := 38) dX6_digest_60 (by decide) ?_
    exact ih (i + 1) (by omega)

set_option maxHeartbeats 4000000 in
theorem lp_dg3 {p : Program} {l : Launch} {e : Env} {s : State} {m : MethodId} {args : Array Value} {below : List Frame} {meth : Method} {c : Code} {D : va_G} {cA : Nat → ClassId} {N0 : Nat} {Sh : jS} {I : jI} {P : jP} {L : jL} {Qf : State → Prop} (C : jC p (jRm 8 0 0) s m args meth c D cA N0 cX6_digest 5 RX6 8) {x : Nat} (hS : mS Sh x) (hP : mP P x) {o : Nat} (ho : o < 6) {h : Int64} (hx : jJ p l e (jRm 8 0 0) s m args below meth c D cA N0 5 Qf (fun _ => True) Sh I P L 0 0 105 [some (.ref x), some (.long (smixN h (fun k => I (x + 1) (18 + 12 * o + k)) (12))), none, some (.int (nI (o))), some (.int (nI (12)))] []) : ∀ n i, i + n = 12 → jJ p l e (jRm 8 0 0) s m args below meth c D cA N0 5 Qf (fun _ => True) Sh I P L 0 0 74 [some (.ref x), some (.long (smixN h (fun k => I (x + 1) (18 + 12 * o + k)) (i))), none, some (.int (nI (o))), some (.int (nI (i)))] [] := by
  intro n
  induction n with
  | zero =>
    intro i hi
    obtain rfl : i = 12 := by omega
    refine jx_iload (pc := 74) C dX6_digest_74 rfl ?_
    refine jx_bipush (pc := 76) C dX6_digest_76 nb_12 ?_
    refine jx_icmp_ge (pc := 78) C (tgt := 105) dX6_digest_78 (by decide) (fun c78 => ?_) (fun c78 => (by rw [nI_leI (by omega) (by omega)] at c78; exfalso; omega))
    rw [nI_leI (by omega) (by omega)] at c78
    exact hx
  | succ n ih =>
    intro i hi
    have hlt : i < 12 := by omega
    refine jx_iload (pc := 74) C dX6_digest_74 rfl ?_
    refine jx_bipush (pc := 76) C dX6_digest_76 nb_12 ?_
    refine jx_icmp_ge (pc := 78) C (tgt := 105) dX6_digest_78 (by decide) (fun c78 => (by rw [nI_leI (by omega) (by omega)] at c78; exfalso; omega)) (fun c78 => ?_)
    rw [nI_leI (by omega) (by omega)] at c78
    refine jx_ldc2 (pc := 81) C kk_X6_202 dX6_digest_81 ?_
    refine jx_lload_n (pc := 84) C dX6_digest_84 rfl ?_
    refine jx_lmul (pc := 85) C dX6_digest_85 ?_
    refine jx_aload_n (pc := 86) C dX6_digest_86 rfl ?_
    refine jx_getP (pc := 87) C kf_X6_7 rfl hS.1 hP.1 dX6_digest_87 ?_
    refine jx_iload_n (pc := 90) C dX6_digest_90 rfl ?_
    refine jx_iload (pc := 91) C dX6_digest_91 rfl ?_
    refine jx_callD (pc := 93) C (go_X6_47 C  (Nat.le_of_ble_eq_true rfl) dX6_digest_93) (t_X6_of hS.2.1 (by omega)) (by decide) (by decide) ⟨Nat.zero_le _, Nat.zero_le _⟩ ?_
    refine jx_i2l (pc := 96) C dX6_digest_96 ?_
    refine jx_ladd (pc := 97) C dX6_digest_97 ?_
    refine jx_lstore_n (pc := 98) C dX6_digest_98 (jsetw_1 jc_r) (by decide) ?_
    refine jx_iincN (pc := 99) C dX6_digest_99 rfl (jset_4 jc_i) (by decide) ?_
    refine jx_goto (pc := 102) C (tgt := 74) dX6_digest_102 (by decide) ?_
    exact ih (i + 1) (by omega)

set_option maxHeartbeats 4000000 in
theorem lp_dg4 {p : Program} {l : Launch} {e : Env} {s : State} {m : MethodId} {args : Array Value} {below : List Frame} {meth : Method} {c : Code} {D : va_G} {cA : Nat → ClassId} {N0 : Nat} {Sh : jS} {I : jI} {P : jP} {L : jL} {Qf : State → Prop} (C : jC p (jRm 8 0 0) s m args meth c D cA N0 cX6_digest 5 RX6 8) {x : Nat} (hS : mS Sh x) (hP : mP P x) {v' : Option Value}  {h : Int64} (hx : jJ p l e (jRm 8 0 0) s m args below meth c D cA N0 5 Qf (fun _ => True) Sh I P L 0 0 167 [some (.ref x), some (.long (smixN h (fun k => I (x + 1) (14 + k)) (4))), none, some (.int (nI (4))), v'] []) : ∀ n i, i + n = 4 → jJ p l e (jRm 8 0 0) s m args below meth c D cA N0 5 Qf (fun _ => True) Sh I P L 0 0 139 [some (.ref x), some (.long (smixN h (fun k => I (x + 1) (14 + k)) (i))), none, some (.int (nI (i))), v'] [] := by
  intro n
  induction n with
  | zero =>
    intro i hi
    obtain rfl : i = 4 := by omega
    refine jx_iload_n (pc := 139) C dX6_digest_139 rfl ?_
    refine jx_iconst (pc := 140) C dX6_digest_140 nc_4 ?_
    refine jx_icmp_ge (pc := 141) C (tgt := 167) dX6_digest_141 (by decide) (fun c141 => ?_) (fun c141 => (by rw [nI_leI (by omega) (by omega)] at c141; exfalso; omega))
    rw [nI_leI (by omega) (by omega)] at c141
    exact hx
  | succ n ih =>
    intro i hi
    have hlt : i < 4 := by omega
    refine jx_iload_n (pc := 139) C dX6_digest_139 rfl ?_
    refine jx_iconst (pc := 140) C dX6_digest_140 nc_4 ?_
    refine jx_icmp_ge (pc := 141) C (tgt := 167) dX6_digest_141 (by decide) (fun c141 => (by rw [nI_leI (by omega) (by omega)] at c141; exfalso; omega)) (fun c141 => ?_)
    rw [nI_leI (by omega) (by omega)] at c141
    refine jx_ldc2 (pc := 144) C kk_X6_202 dX6_digest_144 ?_
    refine jx_lload_n (pc := 147) C dX6_digest_147 rfl ?_
    refine jx_lmul (pc := 148) C dX6_digest_148 ?_
    refine jx_aload_n (pc := 149) C dX6_digest_149 rfl ?_
    refine jx_getP (pc := 150) C kf_X6_7 rfl hS.1 hP.1 dX6_digest_150 ?_
    refine jx_bipush (pc := 153) C dX6_digest_153 nb_14 ?_
    refine jx_iload_n (pc := 155) C dX6_digest_155 rfl ?_
    refine jx_iaddN (pc := 156) C dX6_digest_156 ?_
    refine jx_iald (pc := 157) C hS.2.1 (by omega) (by decide) dX6_digest_157 ?_
    refine jx_i2l (pc := 158) C dX6_digest_158 ?_
    refine jx_ladd (pc := 159) C dX6_digest_159 ?_
    refine jx_lstore_n (pc := 160) C dX6_digest_160 (jsetw_1 jc_r) (by decide) ?_
    refine jx_iincN (pc := 161) C dX6_digest_161 rfl (jset_3 jc_n) (by decide) ?_
    refine jx_goto (pc := 164) C (tgt := 139) dX6_digest_164 (by decide) ?_
    exact ih (i + 1) (by omega)

set_option maxHeartbeats 4000000 in
theorem lp_dg5 {p : Program} {l : Launch} {e : Env} {s : State} {m : MethodId} {args : Array Value} {below : List Frame} {meth : Method} {c : Code} {D : va_G} {cA : Nat → ClassId} {N0 : Nat} {Sh : jS} {I : jI} {P : jP} {L : jL} {Qf : State → Prop} (C : jC p (jRm 8 0 0) s m args meth c D cA N0 cX6_digest 5 RX6 8) {x : Nat} (hS : mS Sh x) (hP : mP P x) {o : Nat} (ho : o < 10) {h : Int64} (hx : jJ p l e (jRm 8 0 0) s m args below meth c D cA N0 5 Qf (fun _ => True) Sh I P L 0 0 210 [some (.ref x), some (.long (smixN h (fun k => sofOrder (I (x + 1)) o k) (9))), none, some (.int (nI (o))), some (.int (nI (9)))] []) : ∀ n i, i + n = 9 → jJ p l e (jRm 8 0 0) s m args below meth c D cA N0 5 Qf (fun _ => True) Sh I P L 0 0 182 [some (.ref x), some (.long (smixN h (fun k => sofOrder (I (x + 1)) o k) (i))), none, some (.int (nI (o))), some (.int (nI (i)))] [] := by
  intro n
  induction n with
  | zero =>
    intro i hi
    obtain rfl : i = 9 := by omega
    refine jx_iload (pc := 182) C dX6_digest_182 rfl ?_
    refine jx_bipush (pc := 184) C dX6_digest_184 nb_9 ?_
    refine jx_icmp_ge (pc := 186) C (tgt := 210) dX6_digest_186 (by decide) (fun c186 => ?_) (fun c186 => (by rw [nI_leI (by omega) (by omega)] at c186; exfalso; omega))
    rw [nI_leI (by omega) (by omega)] at c186
    exact hx
  | succ n ih =>
    intro i hi
    have hlt : i < 9 := by omega
    refine jx_iload (pc := 182) C dX6_digest_182 rfl ?_
    refine jx_bipush (pc := 184) C dX6_digest_184 nb_9 ?_
    refine jx_icmp_ge (pc := 186) C (tgt := 210) dX6_digest_186 (by decide) (fun c186 => (by rw [nI_leI (by omega) (by omega)] at c186; exfalso; omega)) (fun c186 => ?_)
    rw [nI_leI (by omega) (by omega)] at c186
    refine jx_ldc2 (pc := 189) C kk_X6_202 dX6_digest_189 ?_
    refine jx_lload_n (pc := 192) C dX6_digest_192 rfl ?_
    refine jx_lmul (pc := 193) C dX6_digest_193 ?_
    refine jx_aload_n (pc := 194) C dX6_digest_194 rfl ?_
    refine jx_iload_n (pc := 195) C dX6_digest_195 rfl ?_
    refine jx_iload (pc := 196) C dX6_digest_196 rfl ?_
    refine jx_callD (pc := 198) C (go_X6_163 C hS.1 (Nat.le_of_ble_eq_true rfl) dX6_digest_198) (t_X6_ofOrder hS hP ho (by omega)) (by decide) (by decide) ⟨Nat.zero_le _, Nat.zero_le _⟩ ?_
    refine jx_i2l (pc := 201) C dX6_digest_201 ?_
    refine jx_ladd (pc := 202) C dX6_digest_202 ?_
    refine jx_lstore_n (pc := 203) C dX6_digest_203 (jsetw_1 jc_r) (by decide) ?_
    refine jx_iincN (pc := 204) C dX6_digest_204 rfl (jset_4 jc_i) (by decide) ?_
    refine jx_goto (pc := 207) C (tgt := 182) dX6_digest_207 (by decide) ?_
    exact ih (i + 1) (by omega)

set_option maxHeartbeats 4000000 in
theorem lp_dg6 {p : Program} {l : Launch} {e : Env} {s : State} {m : MethodId} {args : Array Value} {below : List Frame} {meth : Method} {c : Code} {D : va_G} {cA : Nat → ClassId} {N0 : Nat} {Sh : jS} {I : jI} {P : jP} {L : jL} {Qf : State → Prop} (C : jC p (jRm 8 0 0) s m args meth c D cA N0 cX6_digest 5 RX6 8) {x : Nat} (hS : mS Sh x) (hP : mP P x) {o : Nat} (ho : o < 10) {h : Int64} (hx : jJ p l e (jRm 8 0 0) s m args below meth c D cA N0 5 Qf (fun _ => True) Sh I P L 0 0 247 [some (.ref x), some (.long (smixN h (fun k => I (x + 1) (90 + 12 * o + (6 + k))) (6))), none, some (.int (nI (o))), some (.int (nI (6)))] []) : ∀ n i, i + n = 6 → jJ p l e (jRm 8 0 0) s m args below meth c D cA N0 5 Qf (fun _ => True) Sh I P L 0 0 213 [some (.ref x), some (.long (smixN h (fun k => I (x + 1) (90 + 12 * o + (6 + k))) (i))), none, some (.int (nI (o))), some (.int (nI (i)))] [] := by
  intro n
  induction n with
  | zero =>
    intro i hi
    obtain rfl : i = 6 := by omega
    refine jx_iload (pc := 213) C dX6_digest_213 rfl ?_
    refine jx_bipush (pc := 215) C dX6_digest_215 nb_6 ?_
    refine jx_icmp_ge (pc := 217) C (tgt := 247) dX6_digest_217 (by decide) (fun c217 => ?_) (fun c217 => (by rw [nI_leI (by omega) (by omega)] at c217; exfalso; omega))
    rw [nI_leI (by omega) (by omega)] at c217
    exact hx
  | succ n ih =>
    intro i hi
    have hlt : i < 6 := by omega
    refine jx_iload (pc := 213) C dX6_digest_213 rfl ?_
    refine jx_bipush (pc := 215) C dX6_digest_215 nb_6 ?_
    refine jx_icmp_ge (pc := 217) C (tgt := 247) dX6_digest_217 (by decide) (fun c217 => (by rw [nI_leI (by omega) (by omega)] at c217; exfalso; omega)) (fun c217 => ?_)
    rw [nI_leI (by omega) (by omega)] at c217
    refine jx_ldc2 (pc := 220) C kk_X6_202 dX6_digest_220 ?_
    refine jx_lload_n (pc := 223) C dX6_digest_223 rfl ?_
    refine jx_lmul (pc := 224) C dX6_digest_224 ?_
    refine jx_aload_n (pc := 225) C dX6_digest_225 rfl ?_
    refine jx_getP (pc := 226) C kf_X6_7 rfl hS.1 hP.1 dX6_digest_226 ?_
    refine jx_iload_n (pc := 229) C dX6_digest_229 rfl ?_
    refine jx_bipush (pc := 230) C dX6_digest_230 nb_6 ?_
    refine jx_iload (pc := 232) C dX6_digest_232 rfl ?_
    refine jx_iaddN (pc := 234) C dX6_digest_234 ?_
    refine jx_callD (pc := 235) C (go_X6_43 C  (Nat.le_of_ble_eq_true rfl) dX6_digest_235) (t_X6_by hS.2.1 (by omega)) (by decide) (by decide) ⟨Nat.zero_le _, Nat.zero_le _⟩ ?_
    refine jx_i2l (pc := 238) C dX6_digest_238 ?_
    refine jx_ladd (pc := 239) C dX6_digest_239 ?_
    refine jx_lstore_n (pc := 240) C dX6_digest_240 (jsetw_1 jc_r) (by decide) ?_
    refine jx_iincN (pc := 241) C dX6_digest_241 rfl (jset_4 jc_i) (by decide) ?_
    refine jx_goto (pc := 244) C (tgt := 213) dX6_digest_244 (by decide) ?_
    exact ih (i + 1) (by omega)

set_option maxHeartbeats 4000000 in
theorem lp_dg7 {p : Program} {l : Launch} {e : Env} {s : State} {m : MethodId} {args : Array Value} {below : List Frame} {meth : Method} {c : Code} {D : va_G} {cA : Nat → ClassId} {N0 : Nat} {Sh : jS} {I : jI} {P : jP} {L : jL} {Qf : State → Prop} (C : jC p (jRm 8 0 0) s m args meth c D cA N0 cX6_digest 5 RX6 8) {x : Nat} (hS : mS Sh x) (hP : mP P x) {v' : Option Value} {t : Nat} (h5 : I x 5 = nI t) (ht : t ≤ 60) {h : Int64} (hx : jJ p l e (jRm 8 0 0) s m args below meth c D cA N0 5 Qf (fun _ => True) Sh I P L 0 0 382 [some (.ref x), some (.long (smixN h (fun k => I (x + 4) k) (t))), none, some (.int (nI (t))), v'] []) : ∀ n i, i + n = t → jJ p l e (jRm 8 0 0) s m args below meth c D cA N0 5 Qf (fun _ => True) Sh I P L 0 0 354 [some (.ref x), some (.long (smixN h (fun k => I (x + 4) k) (i))), none, some (.int (nI (i))), v'] [] := by
  intro n
  induction n with
  | zero =>
    intro i hi
    obtain rfl : i = t := by omega
    refine jx_iload_n (pc := 354) C dX6_digest_354 rfl ?_
    refine jx_aload_n (pc := 355) C dX6_digest_355 rfl ?_
    refine jx_getIv (pc := 356) C kf_X6_124 rfl hS.1 h5 dX6_digest_356 ?_
    refine jx_icmp_ge (pc := 359) C (tgt := 382) dX6_digest_359 (by decide) (fun c359 => ?_) (fun c359 => (by rw [nI_leI (by omega) (by omega)] at c359; exfalso; omega))
    rw [nI_leI (by omega) (by omega)] at c359
    exact hx
  | succ n ih =>
    intro i hi
    have hlt : i < t := by omega
    refine jx_iload_n (pc := 354) C dX6_digest_354 rfl ?_
    refine jx_aload_n (pc := 355) C dX6_digest_355 rfl ?_
    refine jx_getIv (pc := 356) C kf_X6_124 rfl hS.1 h5 dX6_digest_356 ?_
    refine jx_icmp_ge (pc := 359) C (tgt := 382) dX6_digest_359 (by decide) (fun c359 => (by rw [nI_leI (by omega) (by omega)] at c359; exfalso; omega)) (fun c359 => ?_)
    rw [nI_leI (by omega) (by omega)] at c359
    refine jx_ldc2 (pc := 362) C kk_X6_202 dX6_digest_362 ?_
    refine jx_lload_n (pc := 365) C dX6_digest_365 rfl ?_
    refine jx_lmul (pc := 366) C dX6_digest_366 ?_
    refine jx_aload_n (pc := 367) C dX6_digest_367 rfl ?_
    refine jx_getP (pc := 368) C kf_X6_19 rfl hS.1 hP.2.2.2.1 dX6_digest_368 ?_
    refine jx_iload_n (pc := 371) C dX6_digest_371 rfl ?_
    refine jx_iald (pc := 372) C hS.2.2.2.2.1 (by omega) (by decide) dX6_digest_372 ?_
    refine jx_i2l (pc := 373) C dX6_digest_373 ?_
    refine jx_ladd (pc := 374) C dX6_digest_374 ?_
    refine jx_lstore_n (pc := 375) C dX6_digest_375 (jsetw_1 jc_r) (by decide) ?_
    refine jx_iincN (pc := 376) C dX6_digest_376 rfl (jset_3 jc_n) (by decide) ?_
    refine jx_goto (pc := 379) C (tgt := 354) dX6_digest_379 (by decide) ?_
    exact ih (i + 1) (by omega)

