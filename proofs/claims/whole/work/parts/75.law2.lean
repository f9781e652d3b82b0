section SCRIPT
variable {p : Program} {l : Launch} {e : Env} {R : Room} {s : State} {m : MethodId} {args : Array Value} {below : List Frame} {meth : Method} {c : Code} {D : va_G} {cA : Nat → ClassId} {N0 : Nat} {cc : ByteArray} {nL : Nat} {own : String} {lv : Nat} {Qf : State → Prop} {Z : Nat → Prop} {Sh : jS} {I : jI} {P : jP} {L : jL} {k n pc : Nat} {ls ls' : List (Option Value)} {st : List Value}
theorem jx_sld (C : jC p R s m args meth c D cA N0 cc nL own lv) {b Ls j : Nat} {xs : Nat → Int32} (hX : va_X b Ls xs s s.heap) (hbl : b < s.heap.size) (hbN : b < N0) (hj : j < Ls) (hL : Ls < 2 ^ 31) (d : decode cc pc = .ok (.iaload, 1)) (kk : jJ p l e R s m args below meth c D cA N0 nL Qf Z Sh I P L k n (pc + 1) ls (.int (xs j) :: st)) : jJ p l e R s m args below meth c D cA N0 nL Qf Z Sh I P L k n pc ls (.int (nI j) :: .ref b :: st) := by
  intro H locs arr hW hZ hS hl
  refine va_sld C.1 C.2.1 hX hbl (show ¬ N0 ≤ b by omega) hS (vp_in_nI hj hL) d ?_
  rw [nI_clamp (by omega)]
  exact kk H locs arr hW hZ hS hl
theorem jx_slen (C : jC p R s m args meth c D cA N0 cc nL own lv) {b Ls : Nat} {xs : Nat → Int32} (hX : va_X b Ls xs s s.heap) (hbl : b < s.heap.size) (hbN : b < N0) (d : decode cc pc = .ok (.arraylength, 1)) (kk : jJ p l e R s m args below meth c D cA N0 nL Qf Z Sh I P L k n (pc + 1) ls (.int (nI Ls) :: st)) : jJ p l e R s m args below meth c D cA N0 nL Qf Z Sh I P L k n pc ls (.ref b :: st) := by
  intro H locs arr hW hZ hS hl
  exact va_slen C.1 C.2.1 hX hbl (show ¬ N0 ≤ b by omega) hS d (kk H locs arr hW hZ hS hl)
theorem jx_forget (h : ∀ (i : Nat) (v : Value), ls'[i]? = some (some v) → ls[i]? = some (some v)) (kk : jJ p l e R s m args below meth c D cA N0 nL Qf Z Sh I P L k n pc ls' st) : jJ p l e R s m args below meth c D cA N0 nL Qf Z Sh I P L k n pc ls st :=
  fun H locs arr hW hZ hS hl => kk H locs arr hW hZ hS (hl.mono h)
theorem jl_59 {a0 a1 a2 a3 a4 a5 a6 a7 a8 : Option Value} : ∀ (i : Nat) (v : Value), [a0, a1, a2, a3, a4, none, none, none, none][i]? = some (some v) → [a0, a1, a2, a3, a4, a5, a6, a7, a8][i]? = some (some v) := by
  intro i v h
  match i, h with
  | 0, h => exact h
  | 1, h => exact h
  | 2, h => exact h
  | 3, h => exact h
  | 4, h => exact h
  | 5, h => cases h
  | 6, h => cases h
  | 7, h => cases h
  | 8, h => cases h
  | i + 9, h => simp at h
end SCRIPT
set_option maxHeartbeats 4000000 in
theorem lp_law_0 {p : Program} {l : Launch} {e : Env} {s : State} {m : MethodId} {args : Array Value} {below : List Frame} {meth : Method} {c : Code} {D : va_G} {cA : Nat → ClassId} {N0 : Nat} {Sh : jS} {I : jI} {P : jP} {L : jL} {Qf : State → Prop} {k n : Nat} (C : jC p room_1 s m args meth c D cA N0 cL_law 9 RL 10) (hnc : jNc s) (hst : l.stackTraces = false) {b Ls : Nat} {xs : Nat → Int32} (hX : va_X b Ls xs s s.heap) (hbl : b < s.heap.size) (hbN : b < N0) (hLs : Ls ≤ 3072) {y x o : Nat} (S : cS Sh y) (hS6 : mS Sh x) (hO : Sh o = some (11, 1)) (hyx : y + 366 ≤ x) {i : Nat} (hi : 6 * i + 6 ≤ Ls) (hk : k + 1 ≤ room_1.cells) (hn : n + 6 ≤ room_1.slots) (inv : lI i I P y x) (hx : ∀ (I' : jI) (P' : jP) (L' : jL), lI (i + 1) I' P' y x → jJ p l e room_1 s m args below meth c D cA N0 9 Qf (fun _ => True) Sh I' P' L' (k + 1) (n + 6) 1701 [some (.ref b), some (.ref y), some (.ref x), some (.ref o), some (.int (nI (6 * i))), none, none, none, none] []) : jJ p l e room_1 s m args below meth c D cA N0 9 Qf (fun _ => True) Sh I P L (k) (n) 160 [some (.ref b), some (.ref y), some (.ref x), some (.ref o), some (.int (nI (6 * i))), none, none, none, none] [] := by
  obtain ⟨q, t, pst, ch, R, hP, h3, h5, hpa, htx, hb1, hb2⟩ := inv
  have hq6 := R.q6
  have hk0 : k ≤ room_1.cells := by omega
  have hn0 : n ≤ room_1.slots := by omega
  refine jx_aload_n (pc := 160) C dL_law_160 rfl ?_
  refine jx_aload_n (pc := 161) C dL_law_161 rfl ?_
  refine jx_iload (pc := 162) C dL_law_162 rfl ?_
  refine jx_iconst (pc := 164) C dL_law_164 nc_1 ?_
  refine jx_iaddN (pc := 165) C dL_law_165 ?_
  refine jx_sld (pc := 166) C hX hbl hbN (by omega) (by omega) dL_law_166 ?_
  refine jx_aload_n (pc := 167) C dL_law_167 rfl ?_
  refine jx_iload (pc := 168) C dL_law_168 rfl ?_
  refine jx_iconst (pc := 170) C dL_law_170 nc_2 ?_
  refine jx_iaddN (pc := 171) C dL_law_171 ?_
  refine jx_sld (pc := 172) C hX hbl hbN (by omega) (by omega) dL_law_172 ?_
  refine jx_aload_n (pc := 173) C dL_law_173 rfl ?_
  refine jx_iload (pc := 174) C dL_law_174 rfl ?_
  refine jx_iconst (pc := 176) C dL_law_176 nc_3 ?_
  refine jx_iaddN (pc := 177) C dL_law_177 ?_
  refine jx_sld (pc := 178) C hX hbl hbN (by omega) (by omega) dL_law_178 ?_
  refine jx_aload_n (pc := 179) C dL_law_179 rfl ?_
  refine jx_iload (pc := 180) C dL_law_180 rfl ?_
  refine jx_iconst (pc := 182) C dL_law_182 nc_4 ?_
  refine jx_iaddN (pc := 183) C dL_law_183 ?_
  refine jx_sld (pc := 184) C hX hbl hbN (by omega) (by omega) dL_law_184 ?_
  refine jx_aload_n (pc := 185) C dL_law_185 rfl ?_
  refine jx_callW (pc := 186) C hnc (As := [.ref y, .int (xs (6 * i + 1)), .int (xs (6 * i + 2)), .int (xs (6 * i + 3)), .int (xs (6 * i + 4)), .ref o]) (rest := []) ky_L_loom (jWS_in 542 (by decide +kernel) rfl) (jWS_in 540 (by decide +kernel) rfl) ks_L_loom ki_L_loom rfl (Nat.le_of_ble_eq_true rfl) dL_law_186 (t_L_loom hst S R hO) (by decide) (by decide) ⟨hk, hn⟩ ?_
  intro v1 I1 P1 L1 q1
  have ev1 := q1.1
  subst ev1
  have f1 : ∀ z, y + 366 ≤ z → I1 z = I z := fun z hz => q1.2.1 z (Or.inr hz)
  have f2 : P1 x = P x := q1.2.2.1 x (Or.inr hyx)
  have hP1 := hP.ag f2
  have e1 : I1 (x + 1) = I (x + 1) := f1 _ (by omega)
  have e3 : I1 x 3 = nI q := by rw [f1 x hyx]; exact h3
  have e5 : I1 x 5 = nI t := by rw [f1 x hyx]; exact h5
  refine jx_istore (pc := 189) C dL_law_189 (jset_5 jc_i) (by decide) ?_
  refine jx_aload_n (pc := 191) C dL_law_191 rfl ?_
  refine jx_aload_n (pc := 192) C dL_law_192 rfl ?_
  refine jx_iload (pc := 193) C dL_law_193 rfl ?_
  refine jx_iconst (pc := 195) C dL_law_195 nc_1 ?_
  refine jx_iaddN (pc := 196) C dL_law_196 ?_
  refine jx_sld (pc := 197) C hX hbl hbN (by omega) (by omega) dL_law_197 ?_
  refine jx_aload_n (pc := 198) C dL_law_198 rfl ?_
  refine jx_iload (pc := 199) C dL_law_199 rfl ?_
  refine jx_iconst (pc := 201) C dL_law_201 nc_2 ?_
  refine jx_iaddN (pc := 202) C dL_law_202 ?_
  refine jx_sld (pc := 203) C hX hbl hbN (by omega) (by omega) dL_law_203 ?_
  refine jx_aload_n (pc := 204) C dL_law_204 rfl ?_
  refine jx_iload (pc := 205) C dL_law_205 rfl ?_
  refine jx_iconst (pc := 207) C dL_law_207 nc_3 ?_
  refine jx_iaddN (pc := 208) C dL_law_208 ?_
  refine jx_sld (pc := 209) C hX hbl hbN (by omega) (by omega) dL_law_209 ?_
  refine jx_aload_n (pc := 210) C dL_law_210 rfl ?_
  refine jx_iload (pc := 211) C dL_law_211 rfl ?_
  refine jx_iconst (pc := 213) C dL_law_213 nc_4 ?_
  refine jx_iaddN (pc := 214) C dL_law_214 ?_
  refine jx_sld (pc := 215) C hX hbl hbN (by omega) (by omega) dL_law_215 ?_
  refine jx_call (pc := 216) C (go_L_96 C hS6.1 (Nat.le_of_ble_eq_true rfl) dL_law_216) (t_X6_loom hS6 hP1 e3 hq6) (by decide) (by decide) (fun _ _ => trivial) ⟨hk, hn⟩ (fun v2 z2 Sh2 I2 P2 L2 q2 => ?_)
  obtain ⟨eS, q2⟩ := q2
  subst eS
  rw [e1] at q2
  have hE9 := lE_do hyx hP h3 h5 hpa htx hb1 hb2 hq6 q1 q2 (fun z => sB_loom hb1 z)
  obtain ⟨inv2, -, eP2, eL2, r2, ev2, h6, hr2⟩ := hE9
  subst ev2
  subst eL2
  refine jx_sz (fun _ _ => trivial) ?_
  refine jx_istore (pc := 219) C dL_law_219 (jset_6 jc_i) (by decide) ?_
  refine jx_aload_n (pc := 221) C dL_law_221 rfl ?_
  refine jx_callD (pc := 222) C (go_L_97 C hS6.1 (Nat.le_of_ble_eq_true rfl) dL_law_222) (t_X6_thrown hS6.1) (by decide) (by decide) ⟨hk, hn⟩ ?_
  refine jx_iload (pc := 225) C dL_law_225 rfl ?_
  refine jx_icmp_eq (pc := 227) C (tgt := 232) dL_law_227 (by decide) (fun c227 => ?_) (fun c227 => (by exfalso; exact c227 h6))
  refine jx_iload (pc := 232) C dL_law_232 rfl ?_
  refine jx_if_ne (pc := 234) C (tgt := 249) dL_law_234 (by decide) (fun c234 => ?_) (fun c234 => ?_)
  · refine jx_goto (pc := 249) C (tgt := 1701) dL_law_249 (by decide) ?_
    exact jx_forget jl_59 (hx _ _ _ inv2)
  · have hr2 := hr2 ((nI_eq0 (Nat.lt_of_le_of_lt (le_loom (f := I (x + 1)) (q := q) (t := t) (ch := ch) (wv := (xs (6 * i + 1))) (wd := (xs (6 * i + 2))) (sp := (xs (6 * i + 3))) (ca := (xs (6 * i + 4)))) (by decide))).mp c234)
    refine jx_aload_n (pc := 237) C dL_law_237 rfl ?_
    refine jx_iconst (pc := 238) C dL_law_238 nc_0 ?_
    refine jx_lald (pc := 239) (j := 0) C hO (by decide) (by decide) dL_law_239 ?_
    refine jx_iload (pc := 240) C dL_law_240 rfl ?_
    refine jx_i2l (pc := 242) C dL_law_242 ?_
    refine jx_lcmp (pc := 243) C dL_law_243 ?_
    refine jx_if_eq (pc := 244) C (tgt := 249) dL_law_244 (by decide) (fun c244 => ?_) (fun c244 => (by exfalso; exact c244 (by rw [hr2.2, hr2.1]; exact lg_eq _)))
    refine jx_goto (pc := 249) C (tgt := 1701) dL_law_249 (by decide) ?_
    exact jx_forget jl_59 (hx _ _ _ inv2)
set_option maxHeartbeats 4000000 in
theorem lp_law_1 {p : Program} {l : Launch} {e : Env} {s : State} {m : MethodId} {args : Array Value} {below : List Frame} {meth : Method} {c : Code} {D : va_G} {cA : Nat → ClassId} {N0 : Nat} {Sh : jS} {I : jI} {P : jP} {L : jL} {Qf : State → Prop} {k n : Nat} (C : jC p room_1 s m args meth c D cA N0 cL_law 9 RL 10) (hnc : jNc s) (hst : l.stackTraces = false) {b Ls : Nat} {xs : Nat → Int32} (hX : va_X b Ls xs s s.heap) (hbl : b < s.heap.size) (hbN : b < N0) (hLs : Ls ≤ 3072) {y x o : Nat} (S : cS Sh y) (hS6 : mS Sh x) (hO : Sh o = some (11, 1)) (hyx : y + 366 ≤ x) {i : Nat} (hi : 6 * i + 6 ≤ Ls) (hk : k + 1 ≤ room_1.cells) (hn : n + 6 ≤ room_1.slots) (inv : lI i I P y x) (hx : ∀ (I' : jI) (P' : jP) (L' : jL), lI (i + 1) I' P' y x → jJ p l e room_1 s m args below meth c D cA N0 9 Qf (fun _ => True) Sh I' P' L' (k + 1) (n + 6) 1701 [some (.ref b), some (.ref y), some (.ref x), some (.ref o), some (.int (nI (6 * i))), none, none, none, none] []) : jJ p l e room_1 s m args below meth c D cA N0 9 Qf (fun _ => True) Sh I P L (k) (n) 252 [some (.ref b), some (.ref y), some (.ref x), some (.ref o), some (.int (nI (6 * i))), none, none, none, none] [] := by
  obtain ⟨q, t, pst, ch, R, hP, h3, h5, hpa, htx, hb1, hb2⟩ := inv
  have hq6 := R.q6
  have hk0 : k ≤ room_1.cells := by omega
  have hn0 : n ≤ room_1.slots := by omega
  refine jx_aload_n (pc := 252) C dL_law_252 rfl ?_
  refine jx_aload_n (pc := 253) C dL_law_253 rfl ?_
  refine jx_iload (pc := 254) C dL_law_254 rfl ?_
  refine jx_iconst (pc := 256) C dL_law_256 nc_1 ?_
  refine jx_iaddN (pc := 257) C dL_law_257 ?_
  refine jx_sld (pc := 258) C hX hbl hbN (by omega) (by omega) dL_law_258 ?_
  refine jx_aload_n (pc := 259) C dL_law_259 rfl ?_
  refine jx_iload (pc := 260) C dL_law_260 rfl ?_
  refine jx_iconst (pc := 262) C dL_law_262 nc_2 ?_
  refine jx_iaddN (pc := 263) C dL_law_263 ?_
  refine jx_sld (pc := 264) C hX hbl hbN (by omega) (by omega) dL_law_264 ?_
  refine jx_aload_n (pc := 265) C dL_law_265 rfl ?_
  refine jx_iload (pc := 266) C dL_law_266 rfl ?_
  refine jx_iconst (pc := 268) C dL_law_268 nc_3 ?_
  refine jx_iaddN (pc := 269) C dL_law_269 ?_
  refine jx_sld (pc := 270) C hX hbl hbN (by omega) (by omega) dL_law_270 ?_
  refine jx_aload_n (pc := 271) C dL_law_271 rfl ?_
  refine jx_callW (pc := 272) C hnc (As := [.ref y, .int (xs (6 * i + 1)), .int (xs (6 * i + 2)), .int (xs (6 * i + 3)), .ref o]) (rest := []) ky_L_yarn (jWS_in 647 (by decide +kernel) rfl) (jWS_in 645 (by decide +kernel) rfl) ks_L_yarn ki_L_yarn rfl (Nat.le_of_ble_eq_true rfl) dL_law_272 (t_L_yarn hst S R hO) (by decide) (by decide) ⟨hk, hn⟩ ?_
  intro v1 I1 P1 L1 q1
  have ev1 := q1.1
  subst ev1
  have f1 : ∀ z, y + 366 ≤ z → I1 z = I z := fun z hz => q1.2.1 z (Or.inr hz)
  have f2 : P1 x = P x := q1.2.2.1 x (Or.inr hyx)
  have hP1 := hP.ag f2
  have e1 : I1 (x + 1) = I (x + 1) := f1 _ (by omega)
  have e3 : I1 x 3 = nI q := by rw [f1 x hyx]; exact h3
  have e5 : I1 x 5 = nI t := by rw [f1 x hyx]; exact h5
  refine jx_istore (pc := 275) C dL_law_275 (jset_5 jc_i) (by decide) ?_
  refine jx_aload_n (pc := 277) C dL_law_277 rfl ?_
  refine jx_aload_n (pc := 278) C dL_law_278 rfl ?_
  refine jx_iload (pc := 279) C dL_law_279 rfl ?_
  refine jx_iconst (pc := 281) C dL_law_281 nc_1 ?_
  refine jx_iaddN (pc := 282) C dL_law_282 ?_
  refine jx_sld (pc := 283) C hX hbl hbN (by omega) (by omega) dL_law_283 ?_
  refine jx_aload_n (pc := 284) C dL_law_284 rfl ?_
  refine jx_iload (pc := 285) C dL_law_285 rfl ?_
  refine jx_iconst (pc := 287) C dL_law_287 nc_2 ?_
  refine jx_iaddN (pc := 288) C dL_law_288 ?_
  refine jx_sld (pc := 289) C hX hbl hbN (by omega) (by omega) dL_law_289 ?_
  refine jx_aload_n (pc := 290) C dL_law_290 rfl ?_
  refine jx_iload (pc := 291) C dL_law_291 rfl ?_
  refine jx_iconst (pc := 293) C dL_law_293 nc_3 ?_
  refine jx_iaddN (pc := 294) C dL_law_294 ?_
  refine jx_sld (pc := 295) C hX hbl hbN (by omega) (by omega) dL_law_295 ?_
  refine jx_call (pc := 296) C (go_L_103 C hS6.1 (Nat.le_of_ble_eq_true rfl) dL_law_296) (t_X6_yarn hS6 hP1 e3 hq6) (by decide) (by decide) (fun _ _ => trivial) ⟨hk, hn⟩ (fun v2 z2 Sh2 I2 P2 L2 q2 => ?_)
  obtain ⟨eS, q2⟩ := q2
  subst eS
  rw [e1] at q2
  have hE9 := lE_do hyx hP h3 h5 hpa htx hb1 hb2 hq6 q1 q2 (fun z => sB_yarn hb1 z)
  obtain ⟨inv2, -, eP2, eL2, r2, ev2, h6, hr2⟩ := hE9
  subst ev2
  subst eL2
  refine jx_sz (fun _ _ => trivial) ?_
  refine jx_istore (pc := 299) C dL_law_299 (jset_6 jc_i) (by decide) ?_
  refine jx_aload_n (pc := 301) C dL_law_301 rfl ?_
  refine jx_callD (pc := 302) C (go_L_97 C hS6.1 (Nat.le_of_ble_eq_true rfl) dL_law_302) (t_X6_thrown hS6.1) (by decide) (by decide) ⟨hk, hn⟩ ?_
  refine jx_iload (pc := 305) C dL_law_305 rfl ?_
  refine jx_icmp_eq (pc := 307) C (tgt := 312) dL_law_307 (by decide) (fun c307 => ?_) (fun c307 => (by exfalso; exact c307 h6))
  refine jx_iload (pc := 312) C dL_law_312 rfl ?_
  refine jx_if_ne (pc := 314) C (tgt := 329) dL_law_314 (by decide) (fun c314 => ?_) (fun c314 => ?_)
  · refine jx_goto (pc := 329) C (tgt := 1701) dL_law_329 (by decide) ?_
    exact jx_forget jl_59 (hx _ _ _ inv2)
  · have hr2 := hr2 ((nI_eq0 (Nat.lt_of_le_of_lt (le_yarn (f := I (x + 1)) (q := q) (t := t) (ch := ch) (wv := (xs (6 * i + 1))) (cv := (xs (6 * i + 2))) (g := (xs (6 * i + 3)))) (by decide))).mp c314)
    refine jx_aload_n (pc := 317) C dL_law_317 rfl ?_
    refine jx_iconst (pc := 318) C dL_law_318 nc_0 ?_
    refine jx_lald (pc := 319) (j := 0) C hO (by decide) (by decide) dL_law_319 ?_
    refine jx_iload (pc := 320) C dL_law_320 rfl ?_
    refine jx_i2l (pc := 322) C dL_law_322 ?_
    refine jx_lcmp (pc := 323) C dL_law_323 ?_
    refine jx_if_eq (pc := 324) C (tgt := 329) dL_law_324 (by decide) (fun c324 => ?_) (fun c324 => (by exfalso; exact c324 (by rw [hr2.2, hr2.1]; exact lg_eq _)))
    refine jx_goto (pc := 329) C (tgt := 1701) dL_law_329 (by decide) ?_
    exact jx_forget jl_59 (hx _ _ _ inv2)
set_option maxHeartbeats 4000000 in
theorem lp_law_2 {p : Program} {l : Launch} {e : Env} {s : State} {m : MethodId} {args : Array Value} {below : List Frame} {meth : Method} {c : Code} {D : va_G} {cA : Nat → ClassId} {N0 : Nat} {Sh : jS} {I : jI} {P : jP} {L : jL} {Qf : State → Prop} {k n : Nat} (C : jC p room_1 s m args meth c D cA N0 cL_law 9 RL 10) (hnc : jNc s) (hst : l.stackTraces = false) {b Ls : Nat} {xs : Nat → Int32} (hX : va_X b Ls xs s s.heap) (hbl : b < s.heap.size) (hbN : b < N0) (hLs : Ls ≤ 3072) {y x o : Nat} (S : cS Sh y) (hS6 : mS Sh x) (hO : Sh o = some (11, 1)) (hyx : y + 366 ≤ x) {i : Nat} (hi : 6 * i + 6 ≤ Ls) (hk : k + 1 ≤ room_1.cells) (hn : n + 6 ≤ room_1.slots) (inv : lI i I P y x) (hx : ∀ (I' : jI) (P' : jP) (L' : jL), lI (i + 1) I' P' y x → jJ p l e room_1 s m args below meth c D cA N0 9 Qf (fun _ => True) Sh I' P' L' (k + 1) (n + 6) 1701 [some (.ref b), some (.ref y), some (.ref x), some (.ref o), some (.int (nI (6 * i))), none, none, none, none] []) : jJ p l e room_1 s m args below meth c D cA N0 9 Qf (fun _ => True) Sh I P L (k) (n) 332 [some (.ref b), some (.ref y), some (.ref x), some (.ref o), some (.int (nI (6 * i))), none, none, none, none] [] := by
  obtain ⟨q, t, pst, ch, R, hP, h3, h5, hpa, htx, hb1, hb2⟩ := inv
  have hq6 := R.q6
  have hk0 : k ≤ room_1.cells := by omega
  have hn0 : n ≤ room_1.slots := by omega
  refine jx_aload_n (pc := 332) C dL_law_332 rfl ?_
  refine jx_aload_n (pc := 333) C dL_law_333 rfl ?_
  refine jx_iload (pc := 334) C dL_law_334 rfl ?_
  refine jx_iconst (pc := 336) C dL_law_336 nc_1 ?_
  refine jx_iaddN (pc := 337) C dL_law_337 ?_
  refine jx_sld (pc := 338) C hX hbl hbN (by omega) (by omega) dL_law_338 ?_
  refine jx_aload_n (pc := 339) C dL_law_339 rfl ?_
  refine jx_iload (pc := 340) C dL_law_340 rfl ?_
  refine jx_iconst (pc := 342) C dL_law_342 nc_2 ?_
  refine jx_iaddN (pc := 343) C dL_law_343 ?_
  refine jx_sld (pc := 344) C hX hbl hbN (by omega) (by omega) dL_law_344 ?_
  refine jx_aload_n (pc := 345) C dL_law_345 rfl ?_
  refine jx_callW (pc := 346) C hnc (As := [.ref y, .int (xs (6 * i + 1)), .int (xs (6 * i + 2)), .ref o]) (rest := []) ky_L_store (jWS_in 674 (by decide +kernel) rfl) (jWS_in 672 (by decide +kernel) rfl) ks_L_store ki_L_store rfl (Nat.le_of_ble_eq_true rfl) dL_law_346 (t_L_store hst S R hO) (by decide) (by decide) ⟨hk, hn⟩ ?_
  intro v1 I1 P1 L1 q1
  have ev1 := q1.1
  subst ev1
  have f1 : ∀ z, y + 366 ≤ z → I1 z = I z := fun z hz => q1.2.1 z (Or.inr hz)
  have f2 : P1 x = P x := q1.2.2.1 x (Or.inr hyx)
  have hP1 := hP.ag f2
  have e1 : I1 (x + 1) = I (x + 1) := f1 _ (by omega)
  have e3 : I1 x 3 = nI q := by rw [f1 x hyx]; exact h3
  have e5 : I1 x 5 = nI t := by rw [f1 x hyx]; exact h5
  refine jx_istore (pc := 349) C dL_law_349 (jset_5 jc_i) (by decide) ?_
  refine jx_aload_n (pc := 351) C dL_law_351 rfl ?_
  refine jx_aload_n (pc := 352) C dL_law_352 rfl ?_
  refine jx_iload (pc := 353) C dL_law_353 rfl ?_
  refine jx_iconst (pc := 355) C dL_law_355 nc_1 ?_
  refine jx_iaddN (pc := 356) C dL_law_356 ?_
  refine jx_sld (pc := 357) C hX hbl hbN (by omega) (by omega) dL_law_357 ?_
  refine jx_aload_n (pc := 358) C dL_law_358 rfl ?_
  refine jx_iload (pc := 359) C dL_law_359 rfl ?_
  refine jx_iconst (pc := 361) C dL_law_361 nc_2 ?_
  refine jx_iaddN (pc := 362) C dL_law_362 ?_
  refine jx_sld (pc := 363) C hX hbl hbN (by omega) (by omega) dL_law_363 ?_
  refine jx_call (pc := 364) C (go_L_107 C hS6.1 (Nat.le_of_ble_eq_true rfl) dL_law_364) (t_X6_store hS6 hP1 e3 hq6) (by decide) (by decide) (fun _ _ => trivial) ⟨hk, hn⟩ (fun v2 z2 Sh2 I2 P2 L2 q2 => ?_)
  obtain ⟨eS, q2⟩ := q2
  subst eS
  rw [e1] at q2
  have hE9 := lE_do hyx hP h3 h5 hpa htx hb1 hb2 hq6 q1 q2 (fun z => sB_store hb1 z)
  obtain ⟨inv2, -, eP2, eL2, r2, ev2, h6, hr2⟩ := hE9
  subst ev2
  subst eL2
  refine jx_sz (fun _ _ => trivial) ?_
  refine jx_istore (pc := 367) C dL_law_367 (jset_6 jc_i) (by decide) ?_
  refine jx_aload_n (pc := 369) C dL_law_369 rfl ?_
  refine jx_callD (pc := 370) C (go_L_97 C hS6.1 (Nat.le_of_ble_eq_true rfl) dL_law_370) (t_X6_thrown hS6.1) (by decide) (by decide) ⟨hk, hn⟩ ?_
  refine jx_iload (pc := 373) C dL_law_373 rfl ?_
  refine jx_icmp_eq (pc := 375) C (tgt := 380) dL_law_375 (by decide) (fun c375 => ?_) (fun c375 => (by exfalso; exact c375 h6))
  refine jx_iload (pc := 380) C dL_law_380 rfl ?_
  refine jx_if_ne (pc := 382) C (tgt := 397) dL_law_382 (by decide) (fun c382 => ?_) (fun c382 => ?_)
  · refine jx_goto (pc := 397) C (tgt := 1701) dL_law_397 (by decide) ?_
    exact jx_forget jl_59 (hx _ _ _ inv2)
  · have hr2 := hr2 ((nI_eq0 (Nat.lt_of_le_of_lt (le_store (f := I (x + 1)) (q := q) (t := t) (ch := ch) (cv := (xs (6 * i + 1))) (g := (xs (6 * i + 2)))) (by decide))).mp c382)
    refine jx_aload_n (pc := 385) C dL_law_385 rfl ?_
    refine jx_iconst (pc := 386) C dL_law_386 nc_0 ?_
    refine jx_lald (pc := 387) (j := 0) C hO (by decide) (by decide) dL_law_387 ?_
    refine jx_iload (pc := 388) C dL_law_388 rfl ?_
    refine jx_i2l (pc := 390) C dL_law_390 ?_
    refine jx_lcmp (pc := 391) C dL_law_391 ?_
    refine jx_if_eq (pc := 392) C (tgt := 397) dL_law_392 (by decide) (fun c392 => ?_) (fun c392 => (by exfalso; exact c392 (by rw [hr2.2, hr2.1]; exact lg_eq _)))
    refine jx_goto (pc := 397) C (tgt := 1701) dL_law_397 (by decide) ?_
    exact jx_forget jl_59 (hx _ _ _ inv2)
set_option maxHeartbeats 4000000 in
theorem lp_law_3 {p : Program} {l : Launch} {e : Env} {s : State} {m : MethodId} {args : Array Value} {below : List Frame} {meth : Method} {c : Code} {D : va_G} {cA : Nat → ClassId} {N0 : Nat} {Sh : jS} {I : jI} {P : jP} {L : jL} {Qf : State → Prop} {k n : Nat} (C : jC p room_1 s m args meth c D cA N0 cL_law 9 RL 10) (hnc : jNc s) (hst : l.stackTraces = false) {b Ls : Nat} {xs : Nat → Int32} (hX : va_X b Ls xs s s.heap) (hbl : b < s.heap.size) (hbN : b < N0) (hLs : Ls ≤ 3072) {y x o : Nat} (S : cS Sh y) (hS6 : mS Sh x) (hO : Sh o = some (11, 1)) (hyx : y + 366 ≤ x) {i : Nat} (hi : 6 * i + 6 ≤ Ls) (hk : k + 1 ≤ room_1.cells) (hn : n + 6 ≤ room_1.slots) (inv : lI i I P y x) (hx : ∀ (I' : jI) (P' : jP) (L' : jL), lI (i + 1) I' P' y x → jJ p l e room_1 s m args below meth c D cA N0 9 Qf (fun _ => True) Sh I' P' L' (k + 1) (n + 6) 1701 [some (.ref b), some (.ref y), some (.ref x), some (.ref o), some (.int (nI (6 * i))), none, none, none, none] []) : jJ p l e room_1 s m args below meth c D cA N0 9 Qf (fun _ => True) Sh I P L (k) (n) 400 [some (.ref b), some (.ref y), some (.ref x), some (.ref o), some (.int (nI (6 * i))), none, none, none, none] [] := by
  obtain ⟨q, t, pst, ch, R, hP, h3, h5, hpa, htx, hb1, hb2⟩ := inv
  have hq6 := R.q6
  have hk0 : k ≤ room_1.cells := by omega
  have hn0 : n ≤ room_1.slots := by omega
  refine jx_aload_n (pc := 400) C dL_law_400 rfl ?_
  refine jx_aload_n (pc := 401) C dL_law_401 rfl ?_
  refine jx_iload (pc := 402) C dL_law_402 rfl ?_
  refine jx_iconst (pc := 404) C dL_law_404 nc_1 ?_
  refine jx_iaddN (pc := 405) C dL_law_405 ?_
  refine jx_sld (pc := 406) C hX hbl hbN (by omega) (by omega) dL_law_406 ?_
  refine jx_aload_n (pc := 407) C dL_law_407 rfl ?_
  refine jx_iload (pc := 408) C dL_law_408 rfl ?_
  refine jx_iconst (pc := 410) C dL_law_410 nc_2 ?_
  refine jx_iaddN (pc := 411) C dL_law_411 ?_
  refine jx_sld (pc := 412) C hX hbl hbN (by omega) (by omega) dL_law_412 ?_
  refine jx_aload_n (pc := 413) C dL_law_413 rfl ?_
  refine jx_iload (pc := 414) C dL_law_414 rfl ?_
  refine jx_iconst (pc := 416) C dL_law_416 nc_3 ?_
  refine jx_iaddN (pc := 417) C dL_law_417 ?_
  refine jx_sld (pc := 418) C hX hbl hbN (by omega) (by omega) dL_law_418 ?_
  refine jx_aload_n (pc := 419) C dL_law_419 rfl ?_
  refine jx_iload (pc := 420) C dL_law_420 rfl ?_
  refine jx_iconst (pc := 422) C dL_law_422 nc_4 ?_
  refine jx_iaddN (pc := 423) C dL_law_423 ?_
  refine jx_sld (pc := 424) C hX hbl hbN (by omega) (by omega) dL_law_424 ?_
  refine jx_aload_n (pc := 425) C dL_law_425 rfl ?_
  refine jx_callW (pc := 426) C hnc (As := [.ref y, .int (xs (6 * i + 1)), .int (xs (6 * i + 2)), .int (xs (6 * i + 3)), .int (xs (6 * i + 4)), .ref o]) (rest := []) ky_L_give (jWS_in 684 (by decide +kernel) rfl) (jWS_in 682 (by decide +kernel) rfl) ks_L_give ki_L_give rfl (Nat.le_of_ble_eq_true rfl) dL_law_426 (t_L_give hst S R hO) (by decide) (by decide) ⟨hk, hn⟩ ?_
  intro v1 I1 P1 L1 q1
  have ev1 := q1.1
  subst ev1
  have f1 : ∀ z, y + 366 ≤ z → I1 z = I z := fun z hz => q1.2.1 z (Or.inr hz)
  have f2 : P1 x = P x := q1.2.2.1 x (Or.inr hyx)
  have hP1 := hP.ag f2
  have e1 : I1 (x + 1) = I (x + 1) := f1 _ (by omega)
  have e3 : I1 x 3 = nI q := by rw [f1 x hyx]; exact h3
  have e5 : I1 x 5 = nI t := by rw [f1 x hyx]; exact h5
  refine jx_istore (pc := 429) C dL_law_429 (jset_5 jc_i) (by decide) ?_
  refine jx_aload_n (pc := 431) C dL_law_431 rfl ?_
  refine jx_aload_n (pc := 432) C dL_law_432 rfl ?_
  refine jx_iload (pc := 433) C dL_law_433 rfl ?_
  refine jx_iconst (pc := 435) C dL_law_435 nc_1 ?_
  refine jx_iaddN (pc := 436) C dL_law_436 ?_
  refine jx_sld (pc := 437) C hX hbl hbN (by omega) (by omega) dL_law_437 ?_
  refine jx_aload_n (pc := 438) C dL_law_438 rfl ?_
  refine jx_iload (pc := 439) C dL_law_439 rfl ?_
  refine jx_iconst (pc := 441) C dL_law_441 nc_2 ?_
  refine jx_iaddN (pc := 442) C dL_law_442 ?_
  refine jx_sld (pc := 443) C hX hbl hbN (by omega) (by omega) dL_law_443 ?_
  refine jx_aload_n (pc := 444) C dL_law_444 rfl ?_
  refine jx_iload (pc := 445) C dL_law_445 rfl ?_
  refine jx_iconst (pc := 447) C dL_law_447 nc_3 ?_
  refine jx_iaddN (pc := 448) C dL_law_448 ?_
  refine jx_sld (pc := 449) C hX hbl hbN (by omega) (by omega) dL_law_449 ?_
  refine jx_aload_n (pc := 450) C dL_law_450 rfl ?_
  refine jx_iload (pc := 451) C dL_law_451 rfl ?_
  refine jx_iconst (pc := 453) C dL_law_453 nc_4 ?_
  refine jx_iaddN (pc := 454) C dL_law_454 ?_
  refine jx_sld (pc := 455) C hX hbl hbN (by omega) (by omega) dL_law_455 ?_
  refine jx_call (pc := 456) C (go_L_110 C hS6.1 (Nat.le_of_ble_eq_true rfl) dL_law_456) (t_X6_give hS6 hP1 e3 hq6) (by decide) (by decide) (fun _ _ => trivial) ⟨hk, hn⟩ (fun v2 z2 Sh2 I2 P2 L2 q2 => ?_)
  obtain ⟨eS, q2⟩ := q2
  subst eS
  rw [e1] at q2
  have hE9 := lE_do hyx hP h3 h5 hpa htx hb1 hb2 hq6 q1 q2 (fun z => sB_give hb1 z)
  obtain ⟨inv2, -, eP2, eL2, r2, ev2, h6, hr2⟩ := hE9
  subst ev2
  subst eL2
  refine jx_sz (fun _ _ => trivial) ?_
  refine jx_istore (pc := 459) C dL_law_459 (jset_6 jc_i) (by decide) ?_
  refine jx_aload_n (pc := 461) C dL_law_461 rfl ?_
  refine jx_callD (pc := 462) C (go_L_97 C hS6.1 (Nat.le_of_ble_eq_true rfl) dL_law_462) (t_X6_thrown hS6.1) (by decide) (by decide) ⟨hk, hn⟩ ?_
  refine jx_iload (pc := 465) C dL_law_465 rfl ?_
  refine jx_icmp_eq (pc := 467) C (tgt := 472) dL_law_467 (by decide) (fun c467 => ?_) (fun c467 => (by exfalso; exact c467 h6))
  refine jx_iload (pc := 472) C dL_law_472 rfl ?_
  refine jx_if_ne (pc := 474) C (tgt := 489) dL_law_474 (by decide) (fun c474 => ?_) (fun c474 => ?_)
  · refine jx_goto (pc := 489) C (tgt := 1701) dL_law_489 (by decide) ?_
    exact jx_forget jl_59 (hx _ _ _ inv2)
  · have hr2 := hr2 ((nI_eq0 (Nat.lt_of_le_of_lt (le_give (f := I (x + 1)) (q := q) (t := t) (ch := ch) (wv := (xs (6 * i + 1))) (ov := (xs (6 * i + 2))) (cv := (xs (6 * i + 3))) (g := (xs (6 * i + 4)))) (by decide))).mp c474)
    refine jx_aload_n (pc := 477) C dL_law_477 rfl ?_
    refine jx_iconst (pc := 478) C dL_law_478 nc_0 ?_
    refine jx_lald (pc := 479) (j := 0) C hO (by decide) (by decide) dL_law_479 ?_
    refine jx_iload (pc := 480) C dL_law_480 rfl ?_
    refine jx_i2l (pc := 482) C dL_law_482 ?_
    refine jx_lcmp (pc := 483) C dL_law_483 ?_
    refine jx_if_eq (pc := 484) C (tgt := 489) dL_law_484 (by decide) (fun c484 => ?_) (fun c484 => (by exfalso; exact c484 (by rw [hr2.2, hr2.1]; exact lg_eq _)))
    refine jx_goto (pc := 489) C (tgt := 1701) dL_law_489 (by decide) ?_
    exact jx_forget jl_59 (hx _ _ _ inv2)
set_option maxHeartbeats 4000000 in
theorem lp_law_4 {p : Program} {l : Launch} {e : Env} {s : State} {m : MethodId} {args : Array Value} {below : List Frame} {meth : Method} {c : Code} {D : va_G} {cA : Nat → ClassId} {N0 : Nat} {Sh : jS} {I : jI} {P : jP} {L : jL} {Qf : State → Prop} {k n : Nat} (C : jC p room_1 s m args meth c D cA N0 cL_law 9 RL 10) (hnc : jNc s) (hst : l.stackTraces = false) {b Ls : Nat} {xs : Nat → Int32} (hX : va_X b Ls xs s s.heap) (hbl : b < s.heap.size) (hbN : b < N0) (hLs : Ls ≤ 3072) {y x o : Nat} (S : cS Sh y) (hS6 : mS Sh x) (hO : Sh o = some (11, 1)) (hyx : y + 366 ≤ x) {i : Nat} (hi : 6 * i + 6 ≤ Ls) (hk : k + 1 ≤ room_1.cells) (hn : n + 6 ≤ room_1.slots) (inv : lI i I P y x) (hx : ∀ (I' : jI) (P' : jP) (L' : jL), lI (i + 1) I' P' y x → jJ p l e room_1 s m args below meth c D cA N0 9 Qf (fun _ => True) Sh I' P' L' (k + 1) (n + 6) 1701 [some (.ref b), some (.ref y), some (.ref x), some (.ref o), some (.int (nI (6 * i))), none, none, none, none] []) : jJ p l e room_1 s m args below meth c D cA N0 9 Qf (fun _ => True) Sh I P L (k) (n) 492 [some (.ref b), some (.ref y), some (.ref x), some (.ref o), some (.int (nI (6 * i))), none, none, none, none] [] := by
  obtain ⟨q, t, pst, ch, R, hP, h3, h5, hpa, htx, hb1, hb2⟩ := inv
  have hq6 := R.q6
  have hk0 : k ≤ room_1.cells := by omega
  have hn0 : n ≤ room_1.slots := by omega
  refine jx_aload_n (pc := 492) C dL_law_492 rfl ?_
  refine jx_aload_n (pc := 493) C dL_law_493 rfl ?_
  refine jx_iload (pc := 494) C dL_law_494 rfl ?_
  refine jx_iconst (pc := 496) C dL_law_496 nc_1 ?_
  refine jx_iaddN (pc := 497) C dL_law_497 ?_
  refine jx_sld (pc := 498) C hX hbl hbN (by omega) (by omega) dL_law_498 ?_
  refine jx_aload_n (pc := 499) C dL_law_499 rfl ?_
  refine jx_iload (pc := 500) C dL_law_500 rfl ?_
  refine jx_iconst (pc := 502) C dL_law_502 nc_2 ?_
  refine jx_iaddN (pc := 503) C dL_law_503 ?_
  refine jx_sld (pc := 504) C hX hbl hbN (by omega) (by omega) dL_law_504 ?_
  refine jx_aload_n (pc := 505) C dL_law_505 rfl ?_
  refine jx_iload (pc := 506) C dL_law_506 rfl ?_
  refine jx_iconst (pc := 508) C dL_law_508 nc_3 ?_
  refine jx_iaddN (pc := 509) C dL_law_509 ?_
  refine jx_sld (pc := 510) C hX hbl hbN (by omega) (by omega) dL_law_510 ?_
  refine jx_aload_n (pc := 511) C dL_law_511 rfl ?_
  refine jx_iload (pc := 512) C dL_law_512 rfl ?_
  refine jx_iconst (pc := 514) C dL_law_514 nc_4 ?_
  refine jx_iaddN (pc := 515) C dL_law_515 ?_
  refine jx_sld (pc := 516) C hX hbl hbN (by omega) (by omega) dL_law_516 ?_
  refine jx_aload_n (pc := 517) C dL_law_517 rfl ?_
  refine jx_iload (pc := 518) C dL_law_518 rfl ?_
  refine jx_iconst (pc := 520) C dL_law_520 nc_5 ?_
  refine jx_iaddN (pc := 521) C dL_law_521 ?_
  refine jx_sld (pc := 522) C hX hbl hbN (by omega) (by omega) dL_law_522 ?_
  refine jx_aload_n (pc := 523) C dL_law_523 rfl ?_
  refine jx_callW (pc := 524) C hnc (As := [.ref y, .int (xs (6 * i + 1)), .int (xs (6 * i + 2)), .int (xs (6 * i + 3)), .int (xs (6 * i + 4)), .int (xs (6 * i + 5)), .ref o]) (rest := []) ky_L_order (jWS_in 692 (by decide +kernel) rfl) (jWS_in 690 (by decide +kernel) rfl) ks_L_order ki_L_order rfl (Nat.le_of_ble_eq_true rfl) dL_law_524 (t_L_order hst S R hO) (by decide) (by decide) ⟨hk, hn⟩ ?_
  intro v1 I1 P1 L1 q1
  have ev1 := q1.1
  subst ev1
  have f1 : ∀ z, y + 366 ≤ z → I1 z = I z := fun z hz => q1.2.1 z (Or.inr hz)
  have f2 : P1 x = P x := q1.2.2.1 x (Or.inr hyx)
  have hP1 := hP.ag f2
  have e1 : I1 (x + 1) = I (x + 1) := f1 _ (by omega)
  have e3 : I1 x 3 = nI q := by rw [f1 x hyx]; exact h3
  have e5 : I1 x 5 = nI t := by rw [f1 x hyx]; exact h5
  refine jx_istore (pc := 527) C dL_law_527 (jset_5 jc_i) (by decide) ?_
  refine jx_aload_n (pc := 529) C dL_law_529 rfl ?_
  refine jx_aload_n (pc := 530) C dL_law_530 rfl ?_
  refine jx_iload (pc := 531) C dL_law_531 rfl ?_
  refine jx_iconst (pc := 533) C dL_law_533 nc_1 ?_
  refine jx_iaddN (pc := 534) C dL_law_534 ?_
  refine jx_sld (pc := 535) C hX hbl hbN (by omega) (by omega) dL_law_535 ?_
  refine jx_aload_n (pc := 536) C dL_law_536 rfl ?_
  refine jx_iload (pc := 537) C dL_law_537 rfl ?_
  refine jx_iconst (pc := 539) C dL_law_539 nc_2 ?_
  refine jx_iaddN (pc := 540) C dL_law_540 ?_
  refine jx_sld (pc := 541) C hX hbl hbN (by omega) (by omega) dL_law_541 ?_
  refine jx_aload_n (pc := 542) C dL_law_542 rfl ?_
  refine jx_iload (pc := 543) C dL_law_543 rfl ?_
  refine jx_iconst (pc := 545) C dL_law_545 nc_3 ?_
  refine jx_iaddN (pc := 546) C dL_law_546 ?_
  refine jx_sld (pc := 547) C hX hbl hbN (by omega) (by omega) dL_law_547 ?_
  refine jx_aload_n (pc := 548) C dL_law_548 rfl ?_
  refine jx_iload (pc := 549) C dL_law_549 rfl ?_
  refine jx_iconst (pc := 551) C dL_law_551 nc_4 ?_
  refine jx_iaddN (pc := 552) C dL_law_552 ?_
  refine jx_sld (pc := 553) C hX hbl hbN (by omega) (by omega) dL_law_553 ?_
  refine jx_aload_n (pc := 554) C dL_law_554 rfl ?_
  refine jx_iload (pc := 555) C dL_law_555 rfl ?_
  refine jx_iconst (pc := 557) C dL_law_557 nc_5 ?_
  refine jx_iaddN (pc := 558) C dL_law_558 ?_
  refine jx_sld (pc := 559) C hX hbl hbN (by omega) (by omega) dL_law_559 ?_
  have hok : sOK (I1 (x + 1)) := by rw [e1]; exact R.V.1
  refine jx_call (pc := 560) C (go_L_114 C hS6.1 (Nat.le_of_ble_eq_true rfl) dL_law_560) (t_X6_order hS6 hP1 e3 hq6 hok) (by decide) (by decide) (fun _ _ => trivial) ⟨hk, hn⟩ (fun v2 z2 Sh2 I2 P2 L2 q2 => ?_)
  obtain ⟨eS, q2⟩ := q2
  subst eS
  rw [e1] at q2
  have hE9 := lE_do hyx hP h3 h5 hpa htx hb1 hb2 hq6 q1 q2 (fun z => sB_order hb1 R.V z)
  obtain ⟨inv2, -, eP2, eL2, r2, ev2, h6, hr2⟩ := hE9
  subst ev2
  subst eL2
  refine jx_sz (fun _ _ => trivial) ?_
  refine jx_istore (pc := 563) C dL_law_563 (jset_6 jc_i) (by decide) ?_
  refine jx_aload_n (pc := 565) C dL_law_565 rfl ?_
  refine jx_callD (pc := 566) C (go_L_97 C hS6.1 (Nat.le_of_ble_eq_true rfl) dL_law_566) (t_X6_thrown hS6.1) (by decide) (by decide) ⟨hk, hn⟩ ?_
  refine jx_iload (pc := 569) C dL_law_569 rfl ?_
  refine jx_icmp_eq (pc := 571) C (tgt := 576) dL_law_571 (by decide) (fun c571 => ?_) (fun c571 => (by exfalso; exact c571 h6))
  refine jx_iload (pc := 576) C dL_law_576 rfl ?_
  refine jx_if_ne (pc := 578) C (tgt := 593) dL_law_578 (by decide) (fun c578 => ?_) (fun c578 => ?_)
  · refine jx_goto (pc := 593) C (tgt := 1701) dL_law_593 (by decide) ?_
    exact jx_forget jl_59 (hx _ _ _ inv2)
  · have hr2 := hr2 ((nI_eq0 (Nat.lt_of_le_of_lt (le_order (f := I (x + 1)) (q := q) (t := t) (ch := ch) (cv := (xs (6 * i + 1))) (wd := (xs (6 * i + 2))) (len := (xs (6 * i + 3))) (pr := (xs (6 * i + 4))) (due := (xs (6 * i + 5)))) (by decide))).mp c578)
    refine jx_aload_n (pc := 581) C dL_law_581 rfl ?_
    refine jx_iconst (pc := 582) C dL_law_582 nc_0 ?_
    refine jx_lald (pc := 583) (j := 0) C hO (by decide) (by decide) dL_law_583 ?_
    refine jx_iload (pc := 584) C dL_law_584 rfl ?_
    refine jx_i2l (pc := 586) C dL_law_586 ?_
    refine jx_lcmp (pc := 587) C dL_law_587 ?_
    refine jx_if_eq (pc := 588) C (tgt := 593) dL_law_588 (by decide) (fun c588 => ?_) (fun c588 => (by exfalso; exact c588 (by rw [hr2.2, hr2.1]; exact lg_eq _)))
    refine jx_goto (pc := 593) C (tgt := 1701) dL_law_593 (by decide) ?_
    exact jx_forget jl_59 (hx _ _ _ inv2)
set_option maxHeartbeats 4000000 in
theorem lp_law_5 {p : Program} {l : Launch} {e : Env} {s : State} {m : MethodId} {args : Array Value} {below : List Frame} {meth : Method} {c : Code} {D : va_G} {cA : Nat → ClassId} {N0 : Nat} {Sh : jS} {I : jI} {P : jP} {L : jL} {Qf : State → Prop} {k n : Nat} (C : jC p room_1 s m args meth c D cA N0 cL_law 9 RL 10) (hnc : jNc s) (hst : l.stackTraces = false) {b Ls : Nat} {xs : Nat → Int32} (hX : va_X b Ls xs s s.heap) (hbl : b < s.heap.size) (hbN : b < N0) (hLs : Ls ≤ 3072) {y x o : Nat} (S : cS Sh y) (hS6 : mS Sh x) (hO : Sh o = some (11, 1)) (hyx : y + 366 ≤ x) {i : Nat} (hi : 6 * i + 6 ≤ Ls) (hk : k + 1 ≤ room_1.cells) (hn : n + 6 ≤ room_1.slots) (inv : lI i I P y x) (hx : ∀ (I' : jI) (P' : jP) (L' : jL), lI (i + 1) I' P' y x → jJ p l e room_1 s m args below meth c D cA N0 9 Qf (fun _ => True) Sh I' P' L' (k + 1) (n + 6) 1701 [some (.ref b), some (.ref y), some (.ref x), some (.ref o), some (.int (nI (6 * i))), none, none, none, none] []) : jJ p l e room_1 s m args below meth c D cA N0 9 Qf (fun _ => True) Sh I P L (k) (n) 596 [some (.ref b), some (.ref y), some (.ref x), some (.ref o), some (.int (nI (6 * i))), none, none, none, none] [] := by
  obtain ⟨q, t, pst, ch, R, hP, h3, h5, hpa, htx, hb1, hb2⟩ := inv
  have hq6 := R.q6
  have hk0 : k ≤ room_1.cells := by omega
  have hn0 : n ≤ room_1.slots := by omega
  refine jx_aload_n (pc := 596) C dL_law_596 rfl ?_
  refine jx_aload_n (pc := 597) C dL_law_597 rfl ?_
  refine jx_iload (pc := 598) C dL_law_598 rfl ?_
  refine jx_iconst (pc := 600) C dL_law_600 nc_1 ?_
  refine jx_iaddN (pc := 601) C dL_law_601 ?_
  refine jx_sld (pc := 602) C hX hbl hbN (by omega) (by omega) dL_law_602 ?_
  refine jx_aload_n (pc := 603) C dL_law_603 rfl ?_
  refine jx_callW (pc := 604) C hnc (As := [.ref y, .int (xs (6 * i + 1)), .ref o]) (rest := []) ky_L_cancel (jWS_in 709 (by decide +kernel) rfl) (jWS_in 707 (by decide +kernel) rfl) ks_L_cancel ki_L_cancel rfl (Nat.le_of_ble_eq_true rfl) dL_law_604 (t_L_cancel hst S R hO) (by decide) (by decide) ⟨hk, hn⟩ ?_
  intro v1 I1 P1 L1 q1
  have ev1 := q1.1
  subst ev1
  have f1 : ∀ z, y + 366 ≤ z → I1 z = I z := fun z hz => q1.2.1 z (Or.inr hz)
  have f2 : P1 x = P x := q1.2.2.1 x (Or.inr hyx)
  have hP1 := hP.ag f2
  have e1 : I1 (x + 1) = I (x + 1) := f1 _ (by omega)
  have e3 : I1 x 3 = nI q := by rw [f1 x hyx]; exact h3
  have e5 : I1 x 5 = nI t := by rw [f1 x hyx]; exact h5
  refine jx_istore (pc := 607) C dL_law_607 (jset_5 jc_i) (by decide) ?_
  refine jx_aload_n (pc := 609) C dL_law_609 rfl ?_
  refine jx_aload_n (pc := 610) C dL_law_610 rfl ?_
  refine jx_iload (pc := 611) C dL_law_611 rfl ?_
  refine jx_iconst (pc := 613) C dL_law_613 nc_1 ?_
  refine jx_iaddN (pc := 614) C dL_law_614 ?_
  refine jx_sld (pc := 615) C hX hbl hbN (by omega) (by omega) dL_law_615 ?_
  have hok : sOK (I1 (x + 1)) := by rw [e1]; exact R.V.1
  refine jx_call (pc := 616) C (go_L_118 C hS6.1 (Nat.le_of_ble_eq_true rfl) dL_law_616) (t_X6_cancel hS6 hP1 e3 hq6 hok) (by decide) (by decide) (fun _ _ => trivial) ⟨hk, hn⟩ (fun v2 z2 Sh2 I2 P2 L2 q2 => ?_)
  obtain ⟨eS, q2⟩ := q2
  subst eS
  rw [e1] at q2
  have hE9 := lE_do hyx hP h3 h5 hpa htx hb1 hb2 hq6 q1 q2 (fun z => sB_cancel hb1 R.V z)
  obtain ⟨inv2, -, eP2, eL2, r2, ev2, h6, hr2⟩ := hE9
  subst ev2
  subst eL2
  refine jx_sz (fun _ _ => trivial) ?_
  refine jx_istore (pc := 619) C dL_law_619 (jset_6 jc_i) (by decide) ?_
  refine jx_aload_n (pc := 621) C dL_law_621 rfl ?_
  refine jx_callD (pc := 622) C (go_L_97 C hS6.1 (Nat.le_of_ble_eq_true rfl) dL_law_622) (t_X6_thrown hS6.1) (by decide) (by decide) ⟨hk, hn⟩ ?_
  refine jx_iload (pc := 625) C dL_law_625 rfl ?_
  refine jx_icmp_eq (pc := 627) C (tgt := 632) dL_law_627 (by decide) (fun c627 => ?_) (fun c627 => (by exfalso; exact c627 h6))
  refine jx_iload (pc := 632) C dL_law_632 rfl ?_
  refine jx_if_ne (pc := 634) C (tgt := 649) dL_law_634 (by decide) (fun c634 => ?_) (fun c634 => ?_)
  · refine jx_goto (pc := 649) C (tgt := 1701) dL_law_649 (by decide) ?_
    exact jx_forget jl_59 (hx _ _ _ inv2)
  · have hr2 := hr2 ((nI_eq0 (Nat.lt_of_le_of_lt (le_cancel (f := I (x + 1)) (q := q) (t := t) (ch := ch) (num := (xs (6 * i + 1)))) (by decide))).mp c634)
    refine jx_aload_n (pc := 637) C dL_law_637 rfl ?_
    refine jx_iconst (pc := 638) C dL_law_638 nc_0 ?_
    refine jx_lald (pc := 639) (j := 0) C hO (by decide) (by decide) dL_law_639 ?_
    refine jx_iload (pc := 640) C dL_law_640 rfl ?_
    refine jx_i2l (pc := 642) C dL_law_642 ?_
    refine jx_lcmp (pc := 643) C dL_law_643 ?_
    refine jx_if_eq (pc := 644) C (tgt := 649) dL_law_644 (by decide) (fun c644 => ?_) (fun c644 => (by exfalso; exact c644 (by rw [hr2.2, hr2.1]; exact lg_eq _)))
    refine jx_goto (pc := 649) C (tgt := 1701) dL_law_649 (by decide) ?_
    exact jx_forget jl_59 (hx _ _ _ inv2)
set_option maxHeartbeats 4000000 in
theorem lp_law_6 {p : Program} {l : Launch} {e : Env} {s : State} {m : MethodId} {args : Array Value} {below : List Frame} {meth : Method} {c : Code} {D : va_G} {cA : Nat → ClassId} {N0 : Nat} {Sh : jS} {I : jI} {P : jP} {L : jL} {Qf : State → Prop} {k n : Nat} (C : jC p room_1 s m args meth c D cA N0 cL_law 9 RL 10) (hnc : jNc s) (hst : l.stackTraces = false) {b Ls : Nat} {xs : Nat → Int32} (hX : va_X b Ls xs s s.heap) (hbl : b < s.heap.size) (hbN : b < N0) (hLs : Ls ≤ 3072) {y x o : Nat} (S : cS Sh y) (hS6 : mS Sh x) (hO : Sh o = some (11, 1)) (hyx : y + 366 ≤ x) {i : Nat} (hi : 6 * i + 6 ≤ Ls) (hk : k + 1 ≤ room_1.cells) (hn : n + 6 ≤ room_1.slots) (inv : lI i I P y x) (hx : ∀ (I' : jI) (P' : jP) (L' : jL), lI (i + 1) I' P' y x → jJ p l e room_1 s m args below meth c D cA N0 9 Qf (fun _ => True) Sh I' P' L' (k + 1) (n + 6) 1701 [some (.ref b), some (.ref y), some (.ref x), some (.ref o), some (.int (nI (6 * i))), none, none, none, none] []) : jJ p l e room_1 s m args below meth c D cA N0 9 Qf (fun _ => True) Sh I P L (k) (n) 652 [some (.ref b), some (.ref y), some (.ref x), some (.ref o), some (.int (nI (6 * i))), none, none, none, none] [] := by
  obtain ⟨q, t, pst, ch, R, hP, h3, h5, hpa, htx, hb1, hb2⟩ := inv
  have hq6 := R.q6
  have hk0 : k ≤ room_1.cells := by omega
  have hn0 : n ≤ room_1.slots := by omega
  refine jx_aload_n (pc := 652) C dL_law_652 rfl ?_
  refine jx_aload_n (pc := 653) C dL_law_653 rfl ?_
  refine jx_iload (pc := 654) C dL_law_654 rfl ?_
  refine jx_iconst (pc := 656) C dL_law_656 nc_1 ?_
  refine jx_iaddN (pc := 657) C dL_law_657 ?_
  refine jx_sld (pc := 658) C hX hbl hbN (by omega) (by omega) dL_law_658 ?_
  refine jx_aload_n (pc := 659) C dL_law_659 rfl ?_
  refine jx_iload (pc := 660) C dL_law_660 rfl ?_
  refine jx_iconst (pc := 662) C dL_law_662 nc_2 ?_
  refine jx_iaddN (pc := 663) C dL_law_663 ?_
  refine jx_sld (pc := 664) C hX hbl hbN (by omega) (by omega) dL_law_664 ?_
  refine jx_aload_n (pc := 665) C dL_law_665 rfl ?_
  refine jx_callW (pc := 666) C hnc (As := [.ref y, .int (xs (6 * i + 1)), .int (xs (6 * i + 2)), .ref o]) (rest := []) ky_L_set (jWS_in 723 (by decide +kernel) rfl) (jWS_in 721 (by decide +kernel) rfl) ks_L_set ki_L_set rfl (Nat.le_of_ble_eq_true rfl) dL_law_666 (t_L_set hst S R hO) (by decide) (by decide) ⟨hk, hn⟩ ?_
  intro v1 I1 P1 L1 q1
  have ev1 := q1.1
  subst ev1
  have f1 : ∀ z, y + 366 ≤ z → I1 z = I z := fun z hz => q1.2.1 z (Or.inr hz)
  have f2 : P1 x = P x := q1.2.2.1 x (Or.inr hyx)
  have hP1 := hP.ag f2
  have e1 : I1 (x + 1) = I (x + 1) := f1 _ (by omega)
  have e3 : I1 x 3 = nI q := by rw [f1 x hyx]; exact h3
  have e5 : I1 x 5 = nI t := by rw [f1 x hyx]; exact h5
  refine jx_istore (pc := 669) C dL_law_669 (jset_5 jc_i) (by decide) ?_
  refine jx_aload_n (pc := 671) C dL_law_671 rfl ?_
  refine jx_aload_n (pc := 672) C dL_law_672 rfl ?_
  refine jx_iload (pc := 673) C dL_law_673 rfl ?_
  refine jx_iconst (pc := 675) C dL_law_675 nc_1 ?_
  refine jx_iaddN (pc := 676) C dL_law_676 ?_
  refine jx_sld (pc := 677) C hX hbl hbN (by omega) (by omega) dL_law_677 ?_
  refine jx_aload_n (pc := 678) C dL_law_678 rfl ?_
  refine jx_iload (pc := 679) C dL_law_679 rfl ?_
  refine jx_iconst (pc := 681) C dL_law_681 nc_2 ?_
  refine jx_iaddN (pc := 682) C dL_law_682 ?_
  refine jx_sld (pc := 683) C hX hbl hbN (by omega) (by omega) dL_law_683 ?_
  refine jx_call (pc := 684) C (go_L_121 C hS6.1 (Nat.le_of_ble_eq_true rfl) dL_law_684) (t_X6_set hS6 hP1 e3 hq6) (by decide) (by decide) (fun _ _ => trivial) ⟨hk, hn⟩ (fun v2 z2 Sh2 I2 P2 L2 q2 => ?_)
  obtain ⟨eS, q2⟩ := q2
  subst eS
  rw [e1] at q2
  have hE9 := lE_do hyx hP h3 h5 hpa htx hb1 hb2 hq6 q1 q2 (fun z => sB_set hb1 z)
  obtain ⟨inv2, -, eP2, eL2, r2, ev2, h6, hr2⟩ := hE9
  subst ev2
  subst eL2
  refine jx_sz (fun _ _ => trivial) ?_
  refine jx_istore (pc := 687) C dL_law_687 (jset_6 jc_i) (by decide) ?_
  refine jx_aload_n (pc := 689) C dL_law_689 rfl ?_
  refine jx_callD (pc := 690) C (go_L_97 C hS6.1 (Nat.le_of_ble_eq_true rfl) dL_law_690) (t_X6_thrown hS6.1) (by decide) (by decide) ⟨hk, hn⟩ ?_
  refine jx_iload (pc := 693) C dL_law_693 rfl ?_
  refine jx_icmp_eq (pc := 695) C (tgt := 700) dL_law_695 (by decide) (fun c695 => ?_) (fun c695 => (by exfalso; exact c695 h6))
  refine jx_iload (pc := 700) C dL_law_700 rfl ?_
  refine jx_if_ne (pc := 702) C (tgt := 717) dL_law_702 (by decide) (fun c702 => ?_) (fun c702 => ?_)
  · refine jx_goto (pc := 717) C (tgt := 1701) dL_law_717 (by decide) ?_
    exact jx_forget jl_59 (hx _ _ _ inv2)
  · have hr2 := hr2 ((nI_eq0 (Nat.lt_of_le_of_lt (le_set (f := I (x + 1)) (q := q) (t := t) (ch := ch) (sv := (xs (6 * i + 1))) (v := (xs (6 * i + 2)))) (by decide))).mp c702)
    refine jx_aload_n (pc := 705) C dL_law_705 rfl ?_
    refine jx_iconst (pc := 706) C dL_law_706 nc_0 ?_
    refine jx_lald (pc := 707) (j := 0) C hO (by decide) (by decide) dL_law_707 ?_
    refine jx_iload (pc := 708) C dL_law_708 rfl ?_
    refine jx_i2l (pc := 710) C dL_law_710 ?_
    refine jx_lcmp (pc := 711) C dL_law_711 ?_
    refine jx_if_eq (pc := 712) C (tgt := 717) dL_law_712 (by decide) (fun c712 => ?_) (fun c712 => (by exfalso; exact c712 (by rw [hr2.2, hr2.1]; exact lg_eq _)))
    refine jx_goto (pc := 717) C (tgt := 1701) dL_law_717 (by decide) ?_
    exact jx_forget jl_59 (hx _ _ _ inv2)
set_option maxHeartbeats 4000000 in
theorem lp_law_7 {p : Program} {l : Launch} {e : Env} {s : State} {m : MethodId} {args : Array Value} {below : List Frame} {meth : Method} {c : Code} {D : va_G} {cA : Nat → ClassId} {N0 : Nat} {Sh : jS} {I : jI} {P : jP} {L : jL} {Qf : State → Prop} {k n : Nat} (C : jC p room_1 s m args meth c D cA N0 cL_law 9 RL 10) (hnc : jNc s) (hst : l.stackTraces = false) {b Ls : Nat} {xs : Nat → Int32} (hX : va_X b Ls xs s s.heap) (hbl : b < s.heap.size) (hbN : b < N0) (hLs : Ls ≤ 3072) {y x o : Nat} (S : cS Sh y) (hS6 : mS Sh x) (hO : Sh o = some (11, 1)) (hyx : y + 366 ≤ x) {i : Nat} (hi : 6 * i + 6 ≤ Ls) (hk : k + 1 ≤ room_1.cells) (hn : n + 6 ≤ room_1.slots) (inv : lI i I P y x) (hx : ∀ (I' : jI) (P' : jP) (L' : jL), lI (i + 1) I' P' y x → jJ p l e room_1 s m args below meth c D cA N0 9 Qf (fun _ => True) Sh I' P' L' (k + 1) (n + 6) 1701 [some (.ref b), some (.ref y), some (.ref x), some (.ref o), some (.int (nI (6 * i))), none, none, none, none] []) : jJ p l e room_1 s m args below meth c D cA N0 9 Qf (fun _ => True) Sh I P L (k) (n) 720 [some (.ref b), some (.ref y), some (.ref x), some (.ref o), some (.int (nI (6 * i))), none, none, none, none] [] := by
  obtain ⟨q, t, pst, ch, R, hP, h3, h5, hpa, htx, hb1, hb2⟩ := inv
  have hq6 := R.q6
  have hk0 : k ≤ room_1.cells := by omega
  have hn0 : n ≤ room_1.slots := by omega
  refine jx_aload_n (pc := 720) C dL_law_720 rfl ?_
  refine jx_aload_n (pc := 721) C dL_law_721 rfl ?_
  refine jx_iload (pc := 722) C dL_law_722 rfl ?_
  refine jx_iconst (pc := 724) C dL_law_724 nc_1 ?_
  refine jx_iaddN (pc := 725) C dL_law_725 ?_
  refine jx_sld (pc := 726) C hX hbl hbN (by omega) (by omega) dL_law_726 ?_
  refine jx_aload_n (pc := 727) C dL_law_727 rfl ?_
  refine jx_callW (pc := 728) C hnc (As := [.ref y, .int (xs (6 * i + 1)), .ref o]) (rest := []) ky_L_pass (jWS_in 732 (by decide +kernel) rfl) (jWS_in 730 (by decide +kernel) rfl) ks_L_pass ki_L_pass rfl (Nat.le_of_ble_eq_true rfl) dL_law_728 (t_L_pass hst S R hO) (by decide) (by decide) ⟨hk, hn⟩ ?_
  intro v1 I1 P1 L1 q1
  have ev1 := q1.1
  subst ev1
  have f1 : ∀ z, y + 366 ≤ z → I1 z = I z := fun z hz => q1.2.1 z (Or.inr hz)
  have f2 : P1 x = P x := q1.2.2.1 x (Or.inr hyx)
  have hP1 := hP.ag f2
  have e1 : I1 (x + 1) = I (x + 1) := f1 _ (by omega)
  have e3 : I1 x 3 = nI q := by rw [f1 x hyx]; exact h3
  have e5 : I1 x 5 = nI t := by rw [f1 x hyx]; exact h5
  refine jx_istore (pc := 731) C dL_law_731 (jset_5 jc_i) (by decide) ?_
  refine jx_aload_n (pc := 733) C dL_law_733 rfl ?_
  refine jx_aload_n (pc := 734) C dL_law_734 rfl ?_
  refine jx_iload (pc := 735) C dL_law_735 rfl ?_
  refine jx_iconst (pc := 737) C dL_law_737 nc_1 ?_
  refine jx_iaddN (pc := 738) C dL_law_738 ?_
  refine jx_sld (pc := 739) C hX hbl hbN (by omega) (by omega) dL_law_739 ?_
  have hok : sOK (I1 (x + 1)) := by rw [e1]; exact R.V.1
  refine jx_call (pc := 740) C (go_L_124 C hS6.1 (Nat.le_of_ble_eq_true rfl) dL_law_740) (t_X6_pass hS6 hP1 e3 hq6 hok) (by decide) (by decide) (fun _ _ => trivial) ⟨hk, hn⟩ (fun v2 z2 Sh2 I2 P2 L2 q2 => ?_)
  obtain ⟨eS, q2⟩ := q2
  subst eS
  rw [e1] at q2
  have hE9 := lE_do hyx hP h3 h5 hpa htx hb1 hb2 hq6 q1 q2 (fun z => sB_pass hb1 R.V z)
  obtain ⟨inv2, -, eP2, eL2, r2, ev2, h6, hr2⟩ := hE9
  subst ev2
  subst eL2
  refine jx_sz (fun _ _ => trivial) ?_
  refine jx_istore (pc := 743) C dL_law_743 (jset_6 jc_i) (by decide) ?_
  refine jx_aload_n (pc := 745) C dL_law_745 rfl ?_
  refine jx_callD (pc := 746) C (go_L_97 C hS6.1 (Nat.le_of_ble_eq_true rfl) dL_law_746) (t_X6_thrown hS6.1) (by decide) (by decide) ⟨hk, hn⟩ ?_
  refine jx_iload (pc := 749) C dL_law_749 rfl ?_
  refine jx_icmp_eq (pc := 751) C (tgt := 756) dL_law_751 (by decide) (fun c751 => ?_) (fun c751 => (by exfalso; exact c751 h6))
  refine jx_iload (pc := 756) C dL_law_756 rfl ?_
  refine jx_if_ne (pc := 758) C (tgt := 773) dL_law_758 (by decide) (fun c758 => ?_) (fun c758 => ?_)
  · refine jx_goto (pc := 773) C (tgt := 1701) dL_law_773 (by decide) ?_
    exact jx_forget jl_59 (hx _ _ _ inv2)
  · have hr2 := hr2 ((nI_eq0 (Nat.lt_of_le_of_lt (le_pass (f := I (x + 1)) (q := q) (t := t) (ch := ch) (hv := (xs (6 * i + 1)))) (by decide))).mp c758)
    refine jx_aload_n (pc := 761) C dL_law_761 rfl ?_
    refine jx_iconst (pc := 762) C dL_law_762 nc_0 ?_
    refine jx_lald (pc := 763) (j := 0) C hO (by decide) (by decide) dL_law_763 ?_
    refine jx_iload (pc := 764) C dL_law_764 rfl ?_
    refine jx_i2l (pc := 766) C dL_law_766 ?_
    refine jx_lcmp (pc := 767) C dL_law_767 ?_
    refine jx_if_eq (pc := 768) C (tgt := 773) dL_law_768 (by decide) (fun c768 => ?_) (fun c768 => (by exfalso; exact c768 (by rw [hr2.2, hr2.1]; exact lg_eq _)))
    refine jx_goto (pc := 773) C (tgt := 1701) dL_law_773 (by decide) ?_
    exact jx_forget jl_59 (hx _ _ _ inv2)
set_option maxHeartbeats 4000000 in
theorem lp_law_8 {p : Program} {l : Launch} {e : Env} {s : State} {m : MethodId} {args : Array Value} {below : List Frame} {meth : Method} {c : Code} {D : va_G} {cA : Nat → ClassId} {N0 : Nat} {Sh : jS} {I : jI} {P : jP} {L : jL} {Qf : State → Prop} {k n : Nat} (C : jC p room_1 s m args meth c D cA N0 cL_law 9 RL 10) (hnc : jNc s) (hst : l.stackTraces = false) {b Ls : Nat} {xs : Nat → Int32} (hX : va_X b Ls xs s s.heap) (hbl : b < s.heap.size) (hbN : b < N0) (hLs : Ls ≤ 3072) {y x o : Nat} (S : cS Sh y) (hS6 : mS Sh x) (hO : Sh o = some (11, 1)) (hyx : y + 366 ≤ x) {i : Nat} (hi : 6 * i + 6 ≤ Ls) (hk : k + 1 ≤ room_1.cells) (hn : n + 6 ≤ room_1.slots) (inv : lI i I P y x) (hx : ∀ (I' : jI) (P' : jP) (L' : jL), lI (i + 1) I' P' y x → jJ p l e room_1 s m args below meth c D cA N0 9 Qf (fun _ => True) Sh I' P' L' (k + 1) (n + 6) 1701 [some (.ref b), some (.ref y), some (.ref x), some (.ref o), some (.int (nI (6 * i))), none, none, none, none] []) : jJ p l e room_1 s m args below meth c D cA N0 9 Qf (fun _ => True) Sh I P L (k) (n) 776 [some (.ref b), some (.ref y), some (.ref x), some (.ref o), some (.int (nI (6 * i))), none, none, none, none] [] := by
  obtain ⟨q, t, pst, ch, R, hP, h3, h5, hpa, htx, hb1, hb2⟩ := inv
  have hq6 := R.q6
  have hk0 : k ≤ room_1.cells := by omega
  have hn0 : n ≤ room_1.slots := by omega
  refine jx_aload_n (pc := 776) C dL_law_776 rfl ?_
  refine jx_aload_n (pc := 777) C dL_law_777 rfl ?_
  refine jx_iload (pc := 778) C dL_law_778 rfl ?_
  refine jx_iconst (pc := 780) C dL_law_780 nc_1 ?_
  refine jx_iaddN (pc := 781) C dL_law_781 ?_
  refine jx_sld (pc := 782) C hX hbl hbN (by omega) (by omega) dL_law_782 ?_
  refine jx_aload_n (pc := 783) C dL_law_783 rfl ?_
  refine jx_callW (pc := 784) C hnc (As := [.ref y, .int (xs (6 * i + 1)), .ref o]) (rest := []) ky_L_append (jWS_in 741 (by decide +kernel) rfl) (jWS_in 739 (by decide +kernel) rfl) ks_L_append ki_L_append rfl (Nat.le_of_ble_eq_true rfl) dL_law_784 (t_L_append hst S R hO) (by decide) (by decide) ⟨hk, hn⟩ ?_
  intro v1 I1 P1 L1 q1
  have ev1 := q1.1
  subst ev1
  have f1 : ∀ z, y + 366 ≤ z → I1 z = I z := fun z hz => q1.2.1 z (Or.inr hz)
  have f2 : P1 x = P x := q1.2.2.1 x (Or.inr hyx)
  have hP1 := hP.ag f2
  have e1 : I1 (x + 1) = I (x + 1) := f1 _ (by omega)
  have e3 : I1 x 3 = nI q := by rw [f1 x hyx]; exact h3
  have e5 : I1 x 5 = nI t := by rw [f1 x hyx]; exact h5
  refine jx_istore (pc := 787) C dL_law_787 (jset_5 jc_i) (by decide) ?_
  refine jx_aload_n (pc := 789) C dL_law_789 rfl ?_
  refine jx_aload_n (pc := 790) C dL_law_790 rfl ?_
  refine jx_iload (pc := 791) C dL_law_791 rfl ?_
  refine jx_iconst (pc := 793) C dL_law_793 nc_1 ?_
  refine jx_iaddN (pc := 794) C dL_law_794 ?_
  refine jx_sld (pc := 795) C hX hbl hbN (by omega) (by omega) dL_law_795 ?_
  refine jx_call (pc := 796) C (go_L_127 C hS6.1 (Nat.le_of_ble_eq_true rfl) dL_law_796) (t_X6_append hS6 hP1 e5 R.B.2.1) (by decide) (by decide) (fun _ _ => trivial) ⟨hk, hn⟩ (fun v2 z2 Sh2 I2 P2 L2 q2 => ?_)
  obtain ⟨eS, q2⟩ := q2
  subst eS
  have hE9 := lE_app hyx hP h3 h5 hpa htx hb1 hb2 q1 q2
  obtain ⟨inv2, -, eP2, eL2, r2, ev2, h6, hr2⟩ := hE9
  subst ev2
  subst eL2
  refine jx_sz (fun _ _ => trivial) ?_
  refine jx_istore (pc := 799) C dL_law_799 (jset_6 jc_i) (by decide) ?_
  refine jx_aload_n (pc := 801) C dL_law_801 rfl ?_
  refine jx_callD (pc := 802) C (go_L_97 C hS6.1 (Nat.le_of_ble_eq_true rfl) dL_law_802) (t_X6_thrown hS6.1) (by decide) (by decide) ⟨hk, hn⟩ ?_
  refine jx_iload (pc := 805) C dL_law_805 rfl ?_
  refine jx_icmp_eq (pc := 807) C (tgt := 812) dL_law_807 (by decide) (fun c807 => ?_) (fun c807 => (by exfalso; exact c807 h6))
  refine jx_iload (pc := 812) C dL_law_812 rfl ?_
  refine jx_if_ne (pc := 814) C (tgt := 829) dL_law_814 (by decide) (fun c814 => ?_) (fun c814 => ?_)
  · refine jx_goto (pc := 829) C (tgt := 1701) dL_law_829 (by decide) ?_
    exact jx_forget jl_59 (hx _ _ _ inv2)
  · have hr2 := hr2 ((nI_eq0 (Nat.lt_of_le_of_lt (le_append (f := I (x + 1)) (q := q) (t := t) (ch := ch) (cv := (xs (6 * i + 1)))) (by decide))).mp c814)
    refine jx_aload_n (pc := 817) C dL_law_817 rfl ?_
    refine jx_iconst (pc := 818) C dL_law_818 nc_0 ?_
    refine jx_lald (pc := 819) (j := 0) C hO (by decide) (by decide) dL_law_819 ?_
    refine jx_iload (pc := 820) C dL_law_820 rfl ?_
    refine jx_i2l (pc := 822) C dL_law_822 ?_
    refine jx_lcmp (pc := 823) C dL_law_823 ?_
    refine jx_if_eq (pc := 824) C (tgt := 829) dL_law_824 (by decide) (fun c824 => ?_) (fun c824 => (by exfalso; exact c824 (by rw [hr2.2, hr2.1]; exact lg_eq _)))
    refine jx_goto (pc := 829) C (tgt := 1701) dL_law_829 (by decide) ?_
    exact jx_forget jl_59 (hx _ _ _ inv2)
set_option maxHeartbeats 4000000 in
theorem lp_law_9 {p : Program} {l : Launch} {e : Env} {s : State} {m : MethodId} {args : Array Value} {below : List Frame} {meth : Method} {c : Code} {D : va_G} {cA : Nat → ClassId} {N0 : Nat} {Sh : jS} {I : jI} {P : jP} {L : jL} {Qf : State → Prop} {k n : Nat} (C : jC p room_1 s m args meth c D cA N0 cL_law 9 RL 10) (hnc : jNc s) (hst : l.stackTraces = false) {b Ls : Nat} {xs : Nat → Int32} (hX : va_X b Ls xs s s.heap) (hbl : b < s.heap.size) (hbN : b < N0) (hLs : Ls ≤ 3072) {y x o : Nat} (S : cS Sh y) (hS6 : mS Sh x) (hO : Sh o = some (11, 1)) (hyx : y + 366 ≤ x) {i : Nat} (hi : 6 * i + 6 ≤ Ls) (hk : k + 1 ≤ room_1.cells) (hn : n + 6 ≤ room_1.slots) (inv : lI i I P y x) (hx : ∀ (I' : jI) (P' : jP) (L' : jL), lI (i + 1) I' P' y x → jJ p l e room_1 s m args below meth c D cA N0 9 Qf (fun _ => True) Sh I' P' L' (k + 1) (n + 6) 1701 [some (.ref b), some (.ref y), some (.ref x), some (.ref o), some (.int (nI (6 * i))), none, none, none, none] []) : jJ p l e room_1 s m args below meth c D cA N0 9 Qf (fun _ => True) Sh I P L (k) (n) 832 [some (.ref b), some (.ref y), some (.ref x), some (.ref o), some (.int (nI (6 * i))), none, none, none, none] [] := by
  obtain ⟨q, t, pst, ch, R, hP, h3, h5, hpa, htx, hb1, hb2⟩ := inv
  have hq6 := R.q6
  have hk0 : k ≤ room_1.cells := by omega
  have hn0 : n ≤ room_1.slots := by omega
  refine jx_aload_n (pc := 832) C dL_law_832 rfl ?_
  refine jx_calli (pc := 833) C (go_L_128 C S.obj (Nat.le_of_ble_eq_true rfl) dL_law_833) (t_X5_clearBuffer S R) (by decide) (by decide) ⟨hk0, hn0⟩ (fun r1 I1 P1 L1 q1 => ?_)
  obtain ⟨er1, R1, O1⟩ := q1
  subst er1
  have f1 : ∀ z, y + 366 ≤ z → I1 z = I z := fun z hz => O1.1 z (Or.inr hz)
  have hP1 := hP.ag (O1.2.1 x (Or.inr hyx))
  have e1 : I1 (x + 1) = I (x + 1) := f1 _ (by omega)
  have e3 : I1 x 3 = nI q := by rw [f1 x hyx]; exact h3
  have e5 : I1 x 5 = nI t := by rw [f1 x hyx]; exact h5
  refine jx_aload_n (pc := 836) C dL_law_836 rfl ?_
  refine jx_callD (pc := 837) C (go_L_131 C hS6.1 (Nat.le_of_ble_eq_true rfl) dL_law_837) (t_X6_clearBuffer hS6.1) (by decide) (by decide) ⟨hk0, hn0⟩ ?_
  rw [e5]
  have g1 : ∀ z, z ≠ x → jst (jst I1 x 6 (nI 0)) x 5 (nI 0) z = I1 z := fun z hz => by rw [jst_ne hz, jst_ne hz]
  have inv2 : lI (i + 1) (jst (jst I1 x 6 (nI 0)) x 5 (nI 0)) P1 y x := by
    refine ⟨q, 0, pst, ch, ?_, hP1, ?_, by rw [jst_eq, upd_s], fun i2 hi2 k2 hk2 => ?_, fun j hj => absurd hj (Nat.not_lt_zero j), ?_, fun j hj => sB_mono (hb2 j hj) (by omega)⟩
    · rw [g1 _ (by omega), e1]
      exact R1.keep (fun z z1 z2 => g1 z (by omega)) rfl
    · rw [jst_eq, upd_n (by decide), jst_eq, upd_n (by decide)]; exact e3
    · rw [g1 _ (by omega), f1 _ (by omega)]; exact hpa i2 hi2 k2 hk2
    · rw [g1 _ (by omega), e1]; exact sB_mono hb1 (by omega)
  refine jx_icmp_eq (pc := 840) C (tgt := 1701) dL_law_840 (by decide) (fun c840 => ?_) (fun c840 => (by exfalso; exact c840 rfl))
  exact jx_roomy (by omega) (by omega) (jx_forget jl_59 (hx _ _ _ inv2))
set_option maxHeartbeats 4000000 in
theorem lp_law_10 {p : Program} {l : Launch} {e : Env} {s : State} {m : MethodId} {args : Array Value} {below : List Frame} {meth : Method} {c : Code} {D : va_G} {cA : Nat → ClassId} {N0 : Nat} {Sh : jS} {I : jI} {P : jP} {L : jL} {Qf : State → Prop} {k n : Nat} (C : jC p room_1 s m args meth c D cA N0 cL_law 9 RL 10) (hnc : jNc s) (hst : l.stackTraces = false) {b Ls : Nat} {xs : Nat → Int32} (hX : va_X b Ls xs s s.heap) (hbl : b < s.heap.size) (hbN : b < N0) (hLs : Ls ≤ 3072) {y x o : Nat} (S : cS Sh y) (hS6 : mS Sh x) (hO : Sh o = some (11, 1)) (hyx : y + 366 ≤ x) {i : Nat} (hi : 6 * i + 6 ≤ Ls) (hk : k + 1 ≤ room_1.cells) (hn : n + 6 ≤ room_1.slots) (inv : lI i I P y x) (hx : ∀ (I' : jI) (P' : jP) (L' : jL), lI (i + 1) I' P' y x → jJ p l e room_1 s m args below meth c D cA N0 9 Qf (fun _ => True) Sh I' P' L' (k + 1) (n + 6) 1701 [some (.ref b), some (.ref y), some (.ref x), some (.ref o), some (.int (nI (6 * i))), none, none, none, none] []) : jJ p l e room_1 s m args below meth c D cA N0 9 Qf (fun _ => True) Sh I P L (k) (n) 845 [some (.ref b), some (.ref y), some (.ref x), some (.ref o), some (.int (nI (6 * i))), none, none, none, none] [] := by
  obtain ⟨q, t, pst, ch, R, hP, h3, h5, hpa, htx, hb1, hb2⟩ := inv
  have hq6 := R.q6
  have hk0 : k ≤ room_1.cells := by omega
  have hn0 : n ≤ room_1.slots := by omega
  refine jx_aload_n (pc := 845) C dL_law_845 rfl ?_
  refine jx_calli (pc := 846) C (go_L_132 C S.obj (Nat.le_of_ble_eq_true rfl) dL_law_846) (t_X5_firstError S R) (by decide) (by decide) ⟨hk0, hn0⟩ (fun r1 I1 P1 L1 q1 => ?_)
  obtain ⟨er1, R1, O1⟩ := q1
  subst er1
  have f1 : ∀ z, y + 366 ≤ z → I1 z = I z := fun z hz => O1.1 z (Or.inr hz)
  have hP1 := hP.ag (O1.2.1 x (Or.inr hyx))
  have e1 : I1 (x + 1) = I (x + 1) := f1 _ (by omega)
  have e3 : I1 x 3 = nI q := by rw [f1 x hyx]; exact h3
  have e5 : I1 x 5 = nI t := by rw [f1 x hyx]; exact h5
  refine jx_aload_n (pc := 849) C dL_law_849 rfl ?_
  refine jx_calli (pc := 850) C (go_L_135 C hS6.1 (Nat.le_of_ble_eq_true rfl) dL_law_850) (t_X6_firstError hS6 hP1 (⟨e5, R.B.2.1, fun j hj => ⟨by rw [f1 _ (by omega)]; exact htx j hj, (R.B.2.2 j hj).2⟩⟩ : tEnv I1 x t ch)) (by decide) (by decide) ⟨hk0, hn0⟩ (fun r2 I2 P2 L2 q2 => ?_)
  obtain ⟨er2, g0, eP2, eL2⟩ := q2
  subst er2
  subst eP2
  have g1 : ∀ z, z ≠ x → z ≠ x + 5 → I2 z = I1 z := fun z h1 h2 => by rw [g0.1 z h1 h2, jst_ne h1]
  have g2 : ∀ j, j ≠ 6 → j ≠ 7 → j ≠ 8 → j ≠ 9 → j ≠ 11 → I2 x j = I1 x j := fun j h1 h2 h3 h4 h5 => by rw [g0.2 j h2 h3 h4 h5, jst_eq, upd_n h1]
  have inv2 : lI (i + 1) I2 P2 y x := by
    refine ⟨q, t, pst, ch, ?_, hP1, ?_, ?_, fun i2 hi2 k2 hk2 => ?_, fun j hj => ?_, ?_, fun j hj => sB_mono (hb2 j hj) (by omega)⟩
    · rw [g1 _ (by omega) (by omega), e1]
      exact R1.keep (fun z z1 z2 => g1 z (by omega) (by omega)) rfl
    · rw [g2 3 (by decide) (by decide) (by decide) (by decide) (by decide)]; exact e3
    · rw [g2 5 (by decide) (by decide) (by decide) (by decide) (by decide)]; exact e5
    · rw [g1 _ (by omega) (by omega), f1 _ (by omega)]; exact hpa i2 hi2 k2 hk2
    · rw [g1 _ (by omega) (by omega), f1 _ (by omega)]; exact htx j hj
    · rw [g1 _ (by omega) (by omega), e1]; exact sB_mono hb1 (by omega)
  refine jx_icmp_eq (pc := 853) C (tgt := 1701) dL_law_853 (by decide) (fun c853 => ?_) (fun c853 => (by exfalso; exact c853 rfl))
  exact jx_roomy (by omega) (by omega) (jx_forget jl_59 (hx _ _ _ inv2))
set_option maxHeartbeats 4000000 in
theorem lp_law_11 {p : Program} {l : Launch} {e : Env} {s : State} {m : MethodId} {args : Array Value} {below : List Frame} {meth : Method} {c : Code} {D : va_G} {cA : Nat → ClassId} {N0 : Nat} {Sh : jS} {I : jI} {P : jP} {L : jL} {Qf : State → Prop} {k n : Nat} (C : jC p room_1 s m args meth c D cA N0 cL_law 9 RL 10) (hnc : jNc s) (hst : l.stackTraces = false) {b Ls : Nat} {xs : Nat → Int32} (hX : va_X b Ls xs s s.heap) (hbl : b < s.heap.size) (hbN : b < N0) (hLs : Ls ≤ 3072) {y x o : Nat} (S : cS Sh y) (hS6 : mS Sh x) (hO : Sh o = some (11, 1)) (hyx : y + 366 ≤ x) {i : Nat} (hi : 6 * i + 6 ≤ Ls) (hk : k + 1 ≤ room_1.cells) (hn : n + 6 ≤ room_1.slots) (inv : lI i I P y x) (hx : ∀ (I' : jI) (P' : jP) (L' : jL), lI (i + 1) I' P' y x → jJ p l e room_1 s m args below meth c D cA N0 9 Qf (fun _ => True) Sh I' P' L' (k + 1) (n + 6) 1701 [some (.ref b), some (.ref y), some (.ref x), some (.ref o), some (.int (nI (6 * i))), none, none, none, none] []) : jJ p l e room_1 s m args below meth c D cA N0 9 Qf (fun _ => True) Sh I P L (k) (n) 858 [some (.ref b), some (.ref y), some (.ref x), some (.ref o), some (.int (nI (6 * i))), none, none, none, none] [] := by
  obtain ⟨q, t, pst, ch, R, hP, h3, h5, hpa, htx, hb1, hb2⟩ := inv
  have hq6 := R.q6
  have hk0 : k ≤ room_1.cells := by omega
  have hn0 : n ≤ room_1.slots := by omega
  refine jx_aload_n (pc := 858) C dL_law_858 rfl ?_
  refine jx_aload_n (pc := 859) C dL_law_859 rfl ?_
  refine jx_callW (pc := 860) C hnc (As := [.ref y, .ref o]) (rest := []) ky_L_takeAll (jWS_in 750 (by decide +kernel) rfl) (jWS_in 748 (by decide +kernel) rfl) ks_L_takeAll ki_L_takeAll rfl (Nat.le_of_ble_eq_true rfl) dL_law_860 (t_L_takeAll hst S R hO) (by decide) (by decide) ⟨hk, hn⟩ ?_
  intro v1 I1 P1 L1 q1
  have ev1 := q1.1
  subst ev1
  have f1 : ∀ z, y + 366 ≤ z → I1 z = I z := fun z hz => q1.2.1 z (Or.inr hz)
  have f2 : P1 x = P x := q1.2.2.1 x (Or.inr hyx)
  have hP1 := hP.ag f2
  have e1 : I1 (x + 1) = I (x + 1) := f1 _ (by omega)
  have e3 : I1 x 3 = nI q := by rw [f1 x hyx]; exact h3
  have e5 : I1 x 5 = nI t := by rw [f1 x hyx]; exact h5
  refine jx_istore (pc := 863) C dL_law_863 (jset_5 jc_i) (by decide) ?_
  refine jx_aload_n (pc := 865) C dL_law_865 rfl ?_
  have hok : sOK (I1 (x + 1)) := by rw [e1]; exact R.V.1
  have hE : tEnv I1 x t ch := ⟨e5, R.B.2.1, fun j hj => ⟨by rw [f1 _ (by omega)]; exact htx j hj, (R.B.2.2 j hj).2⟩⟩
  refine jx_call (pc := 866) C (go_L_139 C hS6.1 (Nat.le_of_ble_eq_true rfl) dL_law_866) (t_X6_takeAll hS6 hP1 hE e3 hq6 hok) (by decide) (by decide) (fun _ _ => trivial) ⟨hk, hn⟩ (fun v2 z2 Sh2 I2 P2 L2 q2 => ?_)
  obtain ⟨eS, q2⟩ := q2
  subst eS
  rw [e1] at q2
  have hE9 := lE_take hyx hP h3 h5 hpa htx hb1 hb2 hq6 q1 q2 (fun z => sB_all hb1 R.V z)
  obtain ⟨inv2, -, eP2, eL2, r2, ev2, h6, hr2⟩ := hE9
  subst ev2
  subst eL2
  refine jx_sz (fun _ _ => trivial) ?_
  refine jx_istore (pc := 869) C dL_law_869 (jset_6 jc_i) (by decide) ?_
  refine jx_aload_n (pc := 871) C dL_law_871 rfl ?_
  refine jx_callD (pc := 872) C (go_L_97 C hS6.1 (Nat.le_of_ble_eq_true rfl) dL_law_872) (t_X6_thrown hS6.1) (by decide) (by decide) ⟨hk, hn⟩ ?_
  refine jx_iload (pc := 875) C dL_law_875 rfl ?_
  refine jx_icmp_eq (pc := 877) C (tgt := 882) dL_law_877 (by decide) (fun c877 => ?_) (fun c877 => (by exfalso; exact c877 h6))
  refine jx_iload (pc := 882) C dL_law_882 rfl ?_
  refine jx_if_ne (pc := 884) C (tgt := 899) dL_law_884 (by decide) (fun c884 => ?_) (fun c884 => ?_)
  · refine jx_goto (pc := 899) C (tgt := 1701) dL_law_899 (by decide) ?_
    exact jx_forget jl_59 (hx _ _ _ inv2)
  · have hr2 := hr2 ((nI_eq0 (Nat.lt_of_le_of_lt (le_takeAll (f := I (x + 1)) (q := q) (t := t) (ch := ch)) (by decide))).mp c884)
    refine jx_aload_n (pc := 887) C dL_law_887 rfl ?_
    refine jx_iconst (pc := 888) C dL_law_888 nc_0 ?_
    refine jx_lald (pc := 889) (j := 0) C hO (by decide) (by decide) dL_law_889 ?_
    refine jx_iload (pc := 890) C dL_law_890 rfl ?_
    refine jx_i2l (pc := 892) C dL_law_892 ?_
    refine jx_lcmp (pc := 893) C dL_law_893 ?_
    refine jx_if_eq (pc := 894) C (tgt := 899) dL_law_894 (by decide) (fun c894 => ?_) (fun c894 => (by exfalso; exact c894 (by rw [hr2.2, hr2.1]; exact lg_eq _)))
    refine jx_goto (pc := 899) C (tgt := 1701) dL_law_899 (by decide) ?_
    exact jx_forget jl_59 (hx _ _ _ inv2)
set_option maxHeartbeats 4000000 in
theorem lp_law_12 {p : Program} {l : Launch} {e : Env} {s : State} {m : MethodId} {args : Array Value} {below : List Frame} {meth : Method} {c : Code} {D : va_G} {cA : Nat → ClassId} {N0 : Nat} {Sh : jS} {I : jI} {P : jP} {L : jL} {Qf : State → Prop} {k n : Nat} (C : jC p room_1 s m args meth c D cA N0 cL_law 9 RL 10) (hnc : jNc s) (hst : l.stackTraces = false) {b Ls : Nat} {xs : Nat → Int32} (hX : va_X b Ls xs s s.heap) (hbl : b < s.heap.size) (hbN : b < N0) (hLs : Ls ≤ 3072) {y x o : Nat} (S : cS Sh y) (hS6 : mS Sh x) (hO : Sh o = some (11, 1)) (hyx : y + 366 ≤ x) {i : Nat} (hi : 6 * i + 6 ≤ Ls) (hk : k + 1 ≤ room_1.cells) (hn : n + 6 ≤ room_1.slots) (inv : lI i I P y x) (hx : ∀ (I' : jI) (P' : jP) (L' : jL), lI (i + 1) I' P' y x → jJ p l e room_1 s m args below meth c D cA N0 9 Qf (fun _ => True) Sh I' P' L' (k + 1) (n + 6) 1701 [some (.ref b), some (.ref y), some (.ref x), some (.ref o), some (.int (nI (6 * i))), none, none, none, none] []) : jJ p l e room_1 s m args below meth c D cA N0 9 Qf (fun _ => True) Sh I P L (k) (n) 902 [some (.ref b), some (.ref y), some (.ref x), some (.ref o), some (.int (nI (6 * i))), none, none, none, none] [] := by
  obtain ⟨q, t, pst, ch, R, hP, h3, h5, hpa, htx, hb1, hb2⟩ := inv
  have hq6 := R.q6
  have hk0 : k ≤ room_1.cells := by omega
  have hn0 : n ≤ room_1.slots := by omega
  refine jx_aload_n (pc := 902) C dL_law_902 rfl ?_
  refine jx_aload_n (pc := 903) C dL_law_903 rfl ?_
  refine jx_callW (pc := 904) C hnc (As := [.ref y, .ref o]) (rest := []) ky_L_undo (jWS_in 770 (by decide +kernel) rfl) (jWS_in 768 (by decide +kernel) rfl) ks_L_undo ki_L_undo rfl (Nat.le_of_ble_eq_true rfl) dL_law_904 (t_L_undo hst S R hO) (by decide) (by decide) ⟨hk, hn⟩ ?_
  intro v1 I1 P1 L1 q1
  have ev1 := q1.1
  subst ev1
  have f1 : ∀ z, y + 366 ≤ z → I1 z = I z := fun z hz => q1.2.1 z (Or.inr hz)
  have f2 : P1 x = P x := q1.2.2.1 x (Or.inr hyx)
  have hP1 := hP.ag f2
  have e1 : I1 (x + 1) = I (x + 1) := f1 _ (by omega)
  have e3 : I1 x 3 = nI q := by rw [f1 x hyx]; exact h3
  have e5 : I1 x 5 = nI t := by rw [f1 x hyx]; exact h5
  refine jx_istore (pc := 907) C dL_law_907 (jset_5 jc_i) (by decide) ?_
  refine jx_aload_n (pc := 909) C dL_law_909 rfl ?_
  refine jx_call (pc := 910) C (go_L_142 C hS6.1 (Nat.le_of_ble_eq_true rfl) dL_law_910) (t_X6_undo hS6 hP1 e3 hq6) (by decide) (by decide) (fun _ _ => trivial) ⟨hk, hn⟩ (fun v2 z2 Sh2 I2 P2 L2 q2 => ?_)
  obtain ⟨eS, q2⟩ := q2
  subst eS
  have hE9 := lE_undo hyx hP h3 h5 hpa htx hb1 hb2 hq6 R.K q1 q2
  obtain ⟨inv2, -, eP2, eL2, r2, ev2, h6, hr2⟩ := hE9
  subst ev2
  subst eL2
  refine jx_sz (fun _ _ => trivial) ?_
  refine jx_istore (pc := 913) C dL_law_913 (jset_6 jc_i) (by decide) ?_
  refine jx_aload_n (pc := 915) C dL_law_915 rfl ?_
  refine jx_callD (pc := 916) C (go_L_97 C hS6.1 (Nat.le_of_ble_eq_true rfl) dL_law_916) (t_X6_thrown hS6.1) (by decide) (by decide) ⟨hk, hn⟩ ?_
  refine jx_iload (pc := 919) C dL_law_919 rfl ?_
  refine jx_icmp_eq (pc := 921) C (tgt := 926) dL_law_921 (by decide) (fun c921 => ?_) (fun c921 => (by exfalso; exact c921 h6))
  refine jx_iload (pc := 926) C dL_law_926 rfl ?_
  refine jx_if_ne (pc := 928) C (tgt := 943) dL_law_928 (by decide) (fun c928 => ?_) (fun c928 => ?_)
  · refine jx_goto (pc := 943) C (tgt := 1701) dL_law_943 (by decide) ?_
    exact jx_forget jl_59 (hx _ _ _ inv2)
  · have hr2 := hr2 ((nI_eq0 (Nat.lt_of_le_of_lt (le_undo (f := I (x + 1)) (q := q) (t := t) (ch := ch)) (by decide))).mp c928)
    refine jx_aload_n (pc := 931) C dL_law_931 rfl ?_
    refine jx_iconst (pc := 932) C dL_law_932 nc_0 ?_
    refine jx_lald (pc := 933) (j := 0) C hO (by decide) (by decide) dL_law_933 ?_
    refine jx_iload (pc := 934) C dL_law_934 rfl ?_
    refine jx_i2l (pc := 936) C dL_law_936 ?_
    refine jx_lcmp (pc := 937) C dL_law_937 ?_
    refine jx_if_eq (pc := 938) C (tgt := 943) dL_law_938 (by decide) (fun c938 => ?_) (fun c938 => (by exfalso; exact c938 (by rw [hr2.2, hr2.1]; exact lg_eq _)))
    refine jx_goto (pc := 943) C (tgt := 1701) dL_law_943 (by decide) ?_
    exact jx_forget jl_59 (hx _ _ _ inv2)
set_option maxHeartbeats 4000000 in
theorem lp_law_13 {p : Program} {l : Launch} {e : Env} {s : State} {m : MethodId} {args : Array Value} {below : List Frame} {meth : Method} {c : Code} {D : va_G} {cA : Nat → ClassId} {N0 : Nat} {Sh : jS} {I : jI} {P : jP} {L : jL} {Qf : State → Prop} {k n : Nat} (C : jC p room_1 s m args meth c D cA N0 cL_law 9 RL 10) (hnc : jNc s) (hst : l.stackTraces = false) {b Ls : Nat} {xs : Nat → Int32} (hX : va_X b Ls xs s s.heap) (hbl : b < s.heap.size) (hbN : b < N0) (hLs : Ls ≤ 3072) {y x o : Nat} (S : cS Sh y) (hS6 : mS Sh x) (hO : Sh o = some (11, 1)) (hyx : y + 366 ≤ x) {i : Nat} (hi : 6 * i + 6 ≤ Ls) (hk : k + 1 ≤ room_1.cells) (hn : n + 6 ≤ room_1.slots) (inv : lI i I P y x) (hx : ∀ (I' : jI) (P' : jP) (L' : jL), lI (i + 1) I' P' y x → jJ p l e room_1 s m args below meth c D cA N0 9 Qf (fun _ => True) Sh I' P' L' (k + 1) (n + 6) 1701 [some (.ref b), some (.ref y), some (.ref x), some (.ref o), some (.int (nI (6 * i))), none, none, none, none] []) : jJ p l e room_1 s m args below meth c D cA N0 9 Qf (fun _ => True) Sh I P L (k) (n) 946 [some (.ref b), some (.ref y), some (.ref x), some (.ref o), some (.int (nI (6 * i))), none, none, none, none] [] := by
  obtain ⟨q, t, pst, ch, R, hP, h3, h5, hpa, htx, hb1, hb2⟩ := inv
  have hq6 := R.q6
  have hk0 : k ≤ room_1.cells := by omega
  have hn0 : n ≤ room_1.slots := by omega
  refine jx_aload_n (pc := 946) C dL_law_946 rfl ?_
  refine jx_aload_n (pc := 947) C dL_law_947 rfl ?_
  refine jx_iload (pc := 948) C dL_law_948 rfl ?_
  refine jx_iconst (pc := 950) C dL_law_950 nc_1 ?_
  refine jx_iaddN (pc := 951) C dL_law_951 ?_
  refine jx_sld (pc := 952) C hX hbl hbN (by omega) (by omega) dL_law_952 ?_
  refine jx_aload_n (pc := 953) C dL_law_953 rfl ?_
  refine jx_iload (pc := 954) C dL_law_954 rfl ?_
  refine jx_iconst (pc := 956) C dL_law_956 nc_2 ?_
  refine jx_iaddN (pc := 957) C dL_law_957 ?_
  refine jx_sld (pc := 958) C hX hbl hbN (by omega) (by omega) dL_law_958 ?_
  refine jx_aload_n (pc := 959) C dL_law_959 rfl ?_
  refine jx_callW (pc := 960) C hnc (As := [.ref y, .int (xs (6 * i + 1)), .int (xs (6 * i + 2)), .ref o]) (rest := []) ky_L_weaver (jWS_in 778 (by decide +kernel) rfl) (jWS_in 776 (by decide +kernel) rfl) ks_L_weaver ki_L_weaver rfl (Nat.le_of_ble_eq_true rfl) dL_law_960 (t_L_weaver hst S R hO) (by decide) (by decide) ⟨hk, hn⟩ ?_
  intro v1 I1 P1 L1 q1
  have ev1 := q1.1
  subst ev1
  have f1 : ∀ z, y + 366 ≤ z → I1 z = I z := fun z hz => q1.2.1 z (Or.inr hz)
  have f2 : P1 x = P x := q1.2.2.1 x (Or.inr hyx)
  have hP1 := hP.ag f2
  have e1 : I1 (x + 1) = I (x + 1) := f1 _ (by omega)
  have e3 : I1 x 3 = nI q := by rw [f1 x hyx]; exact h3
  have e5 : I1 x 5 = nI t := by rw [f1 x hyx]; exact h5
  refine jx_istore (pc := 963) C dL_law_963 (jset_5 jc_i) (by decide) ?_
  refine jx_aload_n (pc := 965) C dL_law_965 rfl ?_
  refine jx_aload_n (pc := 966) C dL_law_966 rfl ?_
  refine jx_iload (pc := 967) C dL_law_967 rfl ?_
  refine jx_iconst (pc := 969) C dL_law_969 nc_1 ?_
  refine jx_iaddN (pc := 970) C dL_law_970 ?_
  refine jx_sld (pc := 971) C hX hbl hbN (by omega) (by omega) dL_law_971 ?_
  refine jx_aload_n (pc := 972) C dL_law_972 rfl ?_
  refine jx_iload (pc := 973) C dL_law_973 rfl ?_
  refine jx_iconst (pc := 975) C dL_law_975 nc_2 ?_
  refine jx_iaddN (pc := 976) C dL_law_976 ?_
  refine jx_sld (pc := 977) C hX hbl hbN (by omega) (by omega) dL_law_977 ?_
  refine jx_call (pc := 978) C (go_L_145 C hS6.1 (Nat.le_of_ble_eq_true rfl) dL_law_978) (t_X6_weaver hS6 hP1) (by decide) (by decide) (fun _ _ => trivial) ⟨hk, hn⟩ (fun v2 z2 Sh2 I2 P2 L2 q2 => ?_)
  obtain ⟨eS, q2⟩ := q2
  subst eS
  rw [e1] at q2
  have hE9 := lE_qu hyx hP h3 h5 hpa htx hb1 hb2 q1 q2
  obtain ⟨inv2, -, eP2, eL2, r2, ev2, h6, hr2⟩ := hE9
  subst ev2
  subst eL2
  refine jx_sz (fun _ _ => trivial) ?_
  refine jx_istore (pc := 981) C dL_law_981 (jset_6 jc_i) (by decide) ?_
  refine jx_aload_n (pc := 983) C dL_law_983 rfl ?_
  refine jx_callD (pc := 984) C (go_L_97 C hS6.1 (Nat.le_of_ble_eq_true rfl) dL_law_984) (t_X6_thrown hS6.1) (by decide) (by decide) ⟨hk, hn⟩ ?_
  refine jx_iload (pc := 987) C dL_law_987 rfl ?_
  refine jx_icmp_eq (pc := 989) C (tgt := 994) dL_law_989 (by decide) (fun c989 => ?_) (fun c989 => (by exfalso; exact c989 h6))
  refine jx_iload (pc := 994) C dL_law_994 rfl ?_
  refine jx_if_ne (pc := 996) C (tgt := 1011) dL_law_996 (by decide) (fun c996 => ?_) (fun c996 => ?_)
  · refine jx_goto (pc := 1011) C (tgt := 1701) dL_law_1011 (by decide) ?_
    exact jx_forget jl_59 (hx _ _ _ inv2)
  · have hr2 := hr2 ((nI_eq0 (Nat.lt_of_le_of_lt (le_weaver (f := I (x + 1)) (q := q) (t := t) (ch := ch) (wv := (xs (6 * i + 1))) (kv := (xs (6 * i + 2)))) (by decide))).mp c996)
    refine jx_aload_n (pc := 999) C dL_law_999 rfl ?_
    refine jx_iconst (pc := 1000) C dL_law_1000 nc_0 ?_
    refine jx_lald (pc := 1001) (j := 0) C hO (by decide) (by decide) dL_law_1001 ?_
    refine jx_iload (pc := 1002) C dL_law_1002 rfl ?_
    refine jx_i2l (pc := 1004) C dL_law_1004 ?_
    refine jx_lcmp (pc := 1005) C dL_law_1005 ?_
    refine jx_if_eq (pc := 1006) C (tgt := 1011) dL_law_1006 (by decide) (fun c1006 => ?_) (fun c1006 => (by exfalso; exact c1006 (by rw [hr2.2, hr2.1]; exact lg_eq _)))
    refine jx_goto (pc := 1011) C (tgt := 1701) dL_law_1011 (by decide) ?_
    exact jx_forget jl_59 (hx _ _ _ inv2)
set_option maxHeartbeats 4000000 in
theorem lp_law_14 {p : Program} {l : Launch} {e : Env} {s : State} {m : MethodId} {args : Array Value} {below : List Frame} {meth : Method} {c : Code} {D : va_G} {cA : Nat → ClassId} {N0 : Nat} {Sh : jS} {I : jI} {P : jP} {L : jL} {Qf : State → Prop} {k n : Nat} (C : jC p room_1 s m args meth c D cA N0 cL_law 9 RL 10) (hnc : jNc s) (hst : l.stackTraces = false) {b Ls : Nat} {xs : Nat → Int32} (hX : va_X b Ls xs s s.heap) (hbl : b < s.heap.size) (hbN : b < N0) (hLs : Ls ≤ 3072) {y x o : Nat} (S : cS Sh y) (hS6 : mS Sh x) (hO : Sh o = some (11, 1)) (hyx : y + 366 ≤ x) {i : Nat} (hi : 6 * i + 6 ≤ Ls) (hk : k + 1 ≤ room_1.cells) (hn : n + 6 ≤ room_1.slots) (inv : lI i I P y x) (hx : ∀ (I' : jI) (P' : jP) (L' : jL), lI (i + 1) I' P' y x → jJ p l e room_1 s m args below meth c D cA N0 9 Qf (fun _ => True) Sh I' P' L' (k + 1) (n + 6) 1701 [some (.ref b), some (.ref y), some (.ref x), some (.ref o), some (.int (nI (6 * i))), none, none, none, none] []) : jJ p l e room_1 s m args below meth c D cA N0 9 Qf (fun _ => True) Sh I P L (k) (n) 1014 [some (.ref b), some (.ref y), some (.ref x), some (.ref o), some (.int (nI (6 * i))), none, none, none, none] [] := by
  obtain ⟨q, t, pst, ch, R, hP, h3, h5, hpa, htx, hb1, hb2⟩ := inv
  have hq6 := R.q6
  have hk0 : k ≤ room_1.cells := by omega
  have hn0 : n ≤ room_1.slots := by omega
  refine jx_aload_n (pc := 1014) C dL_law_1014 rfl ?_
  refine jx_aload_n (pc := 1015) C dL_law_1015 rfl ?_
  refine jx_iload (pc := 1016) C dL_law_1016 rfl ?_
  refine jx_iconst (pc := 1018) C dL_law_1018 nc_1 ?_
  refine jx_iaddN (pc := 1019) C dL_law_1019 ?_
  refine jx_sld (pc := 1020) C hX hbl hbN (by omega) (by omega) dL_law_1020 ?_
  refine jx_aload_n (pc := 1021) C dL_law_1021 rfl ?_
  refine jx_iload (pc := 1022) C dL_law_1022 rfl ?_
  refine jx_iconst (pc := 1024) C dL_law_1024 nc_2 ?_
  refine jx_iaddN (pc := 1025) C dL_law_1025 ?_
  refine jx_sld (pc := 1026) C hX hbl hbN (by omega) (by omega) dL_law_1026 ?_
  refine jx_aload_n (pc := 1027) C dL_law_1027 rfl ?_
  refine jx_callW (pc := 1028) C hnc (As := [.ref y, .int (xs (6 * i + 1)), .int (xs (6 * i + 2)), .ref o]) (rest := []) ky_L_share (jWS_in 786 (by decide +kernel) rfl) (jWS_in 784 (by decide +kernel) rfl) ks_L_share ki_L_share rfl (Nat.le_of_ble_eq_true rfl) dL_law_1028 (t_L_share hst S R hO) (by decide) (by decide) ⟨hk, hn⟩ ?_
  intro v1 I1 P1 L1 q1
  have ev1 := q1.1
  subst ev1
  have f1 : ∀ z, y + 366 ≤ z → I1 z = I z := fun z hz => q1.2.1 z (Or.inr hz)
  have f2 : P1 x = P x := q1.2.2.1 x (Or.inr hyx)
  have hP1 := hP.ag f2
  have e1 : I1 (x + 1) = I (x + 1) := f1 _ (by omega)
  have e3 : I1 x 3 = nI q := by rw [f1 x hyx]; exact h3
  have e5 : I1 x 5 = nI t := by rw [f1 x hyx]; exact h5
  refine jx_istore (pc := 1031) C dL_law_1031 (jset_5 jc_i) (by decide) ?_
  refine jx_aload_n (pc := 1033) C dL_law_1033 rfl ?_
  refine jx_aload_n (pc := 1034) C dL_law_1034 rfl ?_
  refine jx_iload (pc := 1035) C dL_law_1035 rfl ?_
  refine jx_iconst (pc := 1037) C dL_law_1037 nc_1 ?_
  refine jx_iaddN (pc := 1038) C dL_law_1038 ?_
  refine jx_sld (pc := 1039) C hX hbl hbN (by omega) (by omega) dL_law_1039 ?_
  refine jx_aload_n (pc := 1040) C dL_law_1040 rfl ?_
  refine jx_iload (pc := 1041) C dL_law_1041 rfl ?_
  refine jx_iconst (pc := 1043) C dL_law_1043 nc_2 ?_
  refine jx_iaddN (pc := 1044) C dL_law_1044 ?_
  refine jx_sld (pc := 1045) C hX hbl hbN (by omega) (by omega) dL_law_1045 ?_
  refine jx_call (pc := 1046) C (go_L_148 C hS6.1 (Nat.le_of_ble_eq_true rfl) dL_law_1046) (t_X6_share hS6 hP1) (by decide) (by decide) (fun _ _ => trivial) ⟨hk, hn⟩ (fun v2 z2 Sh2 I2 P2 L2 q2 => ?_)
  obtain ⟨eS, q2⟩ := q2
  subst eS
  rw [e1] at q2
  have hE9 := lE_qu hyx hP h3 h5 hpa htx hb1 hb2 q1 q2
  obtain ⟨inv2, -, eP2, eL2, r2, ev2, h6, hr2⟩ := hE9
  subst ev2
  subst eL2
  refine jx_sz (fun _ _ => trivial) ?_
  refine jx_istore (pc := 1049) C dL_law_1049 (jset_6 jc_i) (by decide) ?_
  refine jx_aload_n (pc := 1051) C dL_law_1051 rfl ?_
  refine jx_callD (pc := 1052) C (go_L_97 C hS6.1 (Nat.le_of_ble_eq_true rfl) dL_law_1052) (t_X6_thrown hS6.1) (by decide) (by decide) ⟨hk, hn⟩ ?_
  refine jx_iload (pc := 1055) C dL_law_1055 rfl ?_
  refine jx_icmp_eq (pc := 1057) C (tgt := 1062) dL_law_1057 (by decide) (fun c1057 => ?_) (fun c1057 => (by exfalso; exact c1057 h6))
  refine jx_iload (pc := 1062) C dL_law_1062 rfl ?_
  refine jx_if_ne (pc := 1064) C (tgt := 1079) dL_law_1064 (by decide) (fun c1064 => ?_) (fun c1064 => ?_)
  · refine jx_goto (pc := 1079) C (tgt := 1701) dL_law_1079 (by decide) ?_
    exact jx_forget jl_59 (hx _ _ _ inv2)
  · have hr2 := hr2 ((nI_eq0 (Nat.lt_of_le_of_lt (le_share (f := I (x + 1)) (q := q) (t := t) (ch := ch) (wv := (xs (6 * i + 1))) (cv := (xs (6 * i + 2)))) (by decide))).mp c1064)
    refine jx_aload_n (pc := 1067) C dL_law_1067 rfl ?_
    refine jx_iconst (pc := 1068) C dL_law_1068 nc_0 ?_
    refine jx_lald (pc := 1069) (j := 0) C hO (by decide) (by decide) dL_law_1069 ?_
    refine jx_iload (pc := 1070) C dL_law_1070 rfl ?_
    refine jx_i2l (pc := 1072) C dL_law_1072 ?_
    refine jx_lcmp (pc := 1073) C dL_law_1073 ?_
    refine jx_if_eq (pc := 1074) C (tgt := 1079) dL_law_1074 (by decide) (fun c1074 => ?_) (fun c1074 => (by exfalso; exact c1074 (by rw [hr2.2, hr2.1]; exact lg_eq _)))
    refine jx_goto (pc := 1079) C (tgt := 1701) dL_law_1079 (by decide) ?_
    exact jx_forget jl_59 (hx _ _ _ inv2)
set_option maxHeartbeats 4000000 in
theorem lp_law_15 {p : Program} {l : Launch} {e : Env} {s : State} {m : MethodId} {args : Array Value} {below : List Frame} {meth : Method} {c : Code} {D : va_G} {cA : Nat → ClassId} {N0 : Nat} {Sh : jS} {I : jI} {P : jP} {L : jL} {Qf : State → Prop} {k n : Nat} (C : jC p room_1 s m args meth c D cA N0 cL_law 9 RL 10) (hnc : jNc s) (hst : l.stackTraces = false) {b Ls : Nat} {xs : Nat → Int32} (hX : va_X b Ls xs s s.heap) (hbl : b < s.heap.size) (hbN : b < N0) (hLs : Ls ≤ 3072) {y x o : Nat} (S : cS Sh y) (hS6 : mS Sh x) (hO : Sh o = some (11, 1)) (hyx : y + 366 ≤ x) {i : Nat} (hi : 6 * i + 6 ≤ Ls) (hk : k + 1 ≤ room_1.cells) (hn : n + 6 ≤ room_1.slots) (inv : lI i I P y x) (hx : ∀ (I' : jI) (P' : jP) (L' : jL), lI (i + 1) I' P' y x → jJ p l e room_1 s m args below meth c D cA N0 9 Qf (fun _ => True) Sh I' P' L' (k + 1) (n + 6) 1701 [some (.ref b), some (.ref y), some (.ref x), some (.ref o), some (.int (nI (6 * i))), none, none, none, none] []) : jJ p l e room_1 s m args below meth c D cA N0 9 Qf (fun _ => True) Sh I P L (k) (n) 1082 [some (.ref b), some (.ref y), some (.ref x), some (.ref o), some (.int (nI (6 * i))), none, none, none, none] [] := by
  obtain ⟨q, t, pst, ch, R, hP, h3, h5, hpa, htx, hb1, hb2⟩ := inv
  have hq6 := R.q6
  have hk0 : k ≤ room_1.cells := by omega
  have hn0 : n ≤ room_1.slots := by omega
  refine jx_aload_n (pc := 1082) C dL_law_1082 rfl ?_
  refine jx_aload_n (pc := 1083) C dL_law_1083 rfl ?_
  refine jx_iload (pc := 1084) C dL_law_1084 rfl ?_
  refine jx_iconst (pc := 1086) C dL_law_1086 nc_1 ?_
  refine jx_iaddN (pc := 1087) C dL_law_1087 ?_
  refine jx_sld (pc := 1088) C hX hbl hbN (by omega) (by omega) dL_law_1088 ?_
  refine jx_aload_n (pc := 1089) C dL_law_1089 rfl ?_
  refine jx_iload (pc := 1090) C dL_law_1090 rfl ?_
  refine jx_iconst (pc := 1092) C dL_law_1092 nc_2 ?_
  refine jx_iaddN (pc := 1093) C dL_law_1093 ?_
  refine jx_sld (pc := 1094) C hX hbl hbN (by omega) (by omega) dL_law_1094 ?_
  refine jx_aload_n (pc := 1095) C dL_law_1095 rfl ?_
  refine jx_callW (pc := 1096) C hnc (As := [.ref y, .int (xs (6 * i + 1)), .int (xs (6 * i + 2)), .ref o]) (rest := []) ky_L_orderOf (jWS_in 793 (by decide +kernel) rfl) (jWS_in 791 (by decide +kernel) rfl) ks_L_orderOf ki_L_orderOf rfl (Nat.le_of_ble_eq_true rfl) dL_law_1096 (t_L_orderOf hst S R hO) (by decide) (by decide) ⟨hk, hn⟩ ?_
  intro v1 I1 P1 L1 q1
  have ev1 := q1.1
  subst ev1
  have f1 : ∀ z, y + 366 ≤ z → I1 z = I z := fun z hz => q1.2.1 z (Or.inr hz)
  have f2 : P1 x = P x := q1.2.2.1 x (Or.inr hyx)
  have hP1 := hP.ag f2
  have e1 : I1 (x + 1) = I (x + 1) := f1 _ (by omega)
  have e3 : I1 x 3 = nI q := by rw [f1 x hyx]; exact h3
  have e5 : I1 x 5 = nI t := by rw [f1 x hyx]; exact h5
  refine jx_istore (pc := 1099) C dL_law_1099 (jset_5 jc_i) (by decide) ?_
  refine jx_aload_n (pc := 1101) C dL_law_1101 rfl ?_
  refine jx_aload_n (pc := 1102) C dL_law_1102 rfl ?_
  refine jx_iload (pc := 1103) C dL_law_1103 rfl ?_
  refine jx_iconst (pc := 1105) C dL_law_1105 nc_1 ?_
  refine jx_iaddN (pc := 1106) C dL_law_1106 ?_
  refine jx_sld (pc := 1107) C hX hbl hbN (by omega) (by omega) dL_law_1107 ?_
  refine jx_aload_n (pc := 1108) C dL_law_1108 rfl ?_
  refine jx_iload (pc := 1109) C dL_law_1109 rfl ?_
  refine jx_iconst (pc := 1111) C dL_law_1111 nc_2 ?_
  refine jx_iaddN (pc := 1112) C dL_law_1112 ?_
  refine jx_sld (pc := 1113) C hX hbl hbN (by omega) (by omega) dL_law_1113 ?_
  have hok : sOK (I1 (x + 1)) := by rw [e1]; exact R.V.1
  refine jx_call (pc := 1114) C (go_L_151 C hS6.1 (Nat.le_of_ble_eq_true rfl) dL_law_1114) (t_X6_orderOf hS6 hP1 hok) (by decide) (by decide) (fun _ _ => trivial) ⟨hk, hn⟩ (fun v2 z2 Sh2 I2 P2 L2 q2 => ?_)
  obtain ⟨eS, q2⟩ := q2
  subst eS
  rw [e1] at q2
  have hE9 := lE_qu hyx hP h3 h5 hpa htx hb1 hb2 q1 q2
  obtain ⟨inv2, -, eP2, eL2, r2, ev2, h6, hr2⟩ := hE9
  subst ev2
  subst eL2
  refine jx_sz (fun _ _ => trivial) ?_
  refine jx_istore (pc := 1117) C dL_law_1117 (jset_6 jc_i) (by decide) ?_
  refine jx_aload_n (pc := 1119) C dL_law_1119 rfl ?_
  refine jx_callD (pc := 1120) C (go_L_97 C hS6.1 (Nat.le_of_ble_eq_true rfl) dL_law_1120) (t_X6_thrown hS6.1) (by decide) (by decide) ⟨hk, hn⟩ ?_
  refine jx_iload (pc := 1123) C dL_law_1123 rfl ?_
  refine jx_icmp_eq (pc := 1125) C (tgt := 1130) dL_law_1125 (by decide) (fun c1125 => ?_) (fun c1125 => (by exfalso; exact c1125 h6))
  refine jx_iload (pc := 1130) C dL_law_1130 rfl ?_
  refine jx_if_ne (pc := 1132) C (tgt := 1147) dL_law_1132 (by decide) (fun c1132 => ?_) (fun c1132 => ?_)
  · refine jx_goto (pc := 1147) C (tgt := 1701) dL_law_1147 (by decide) ?_
    exact jx_forget jl_59 (hx _ _ _ inv2)
  · have hr2 := hr2 ((nI_eq0 (Nat.lt_of_le_of_lt (le_orderOf (f := I (x + 1)) (q := q) (t := t) (ch := ch) (pv := (xs (6 * i + 1))) (kv := (xs (6 * i + 2)))) (by decide))).mp c1132)
    refine jx_aload_n (pc := 1135) C dL_law_1135 rfl ?_
    refine jx_iconst (pc := 1136) C dL_law_1136 nc_0 ?_
    refine jx_lald (pc := 1137) (j := 0) C hO (by decide) (by decide) dL_law_1137 ?_
    refine jx_iload (pc := 1138) C dL_law_1138 rfl ?_
    refine jx_i2l (pc := 1140) C dL_law_1140 ?_
    refine jx_lcmp (pc := 1141) C dL_law_1141 ?_
    refine jx_if_eq (pc := 1142) C (tgt := 1147) dL_law_1142 (by decide) (fun c1142 => ?_) (fun c1142 => (by exfalso; exact c1142 (by rw [hr2.2, hr2.1]; exact lg_eq _)))
    refine jx_goto (pc := 1147) C (tgt := 1701) dL_law_1147 (by decide) ?_
    exact jx_forget jl_59 (hx _ _ _ inv2)
set_option maxHeartbeats 4000000 in
theorem lp_law_16 {p : Program} {l : Launch} {e : Env} {s : State} {m : MethodId} {args : Array Value} {below : List Frame} {meth : Method} {c : Code} {D : va_G} {cA : Nat → ClassId} {N0 : Nat} {Sh : jS} {I : jI} {P : jP} {L : jL} {Qf : State → Prop} {k n : Nat} (C : jC p room_1 s m args meth c D cA N0 cL_law 9 RL 10) (hnc : jNc s) (hst : l.stackTraces = false) {b Ls : Nat} {xs : Nat → Int32} (hX : va_X b Ls xs s s.heap) (hbl : b < s.heap.size) (hbN : b < N0) (hLs : Ls ≤ 3072) {y x o : Nat} (S : cS Sh y) (hS6 : mS Sh x) (hO : Sh o = some (11, 1)) (hyx : y + 366 ≤ x) {i : Nat} (hi : 6 * i + 6 ≤ Ls) (hk : k + 1 ≤ room_1.cells) (hn : n + 6 ≤ room_1.slots) (inv : lI i I P y x) (hx : ∀ (I' : jI) (P' : jP) (L' : jL), lI (i + 1) I' P' y x → jJ p l e room_1 s m args below meth c D cA N0 9 Qf (fun _ => True) Sh I' P' L' (k + 1) (n + 6) 1701 [some (.ref b), some (.ref y), some (.ref x), some (.ref o), some (.int (nI (6 * i))), none, none, none, none] []) : jJ p l e room_1 s m args below meth c D cA N0 9 Qf (fun _ => True) Sh I P L (k) (n) 1150 [some (.ref b), some (.ref y), some (.ref x), some (.ref o), some (.int (nI (6 * i))), none, none, none, none] [] := by
  obtain ⟨q, t, pst, ch, R, hP, h3, h5, hpa, htx, hb1, hb2⟩ := inv
  have hq6 := R.q6
  have hk0 : k ≤ room_1.cells := by omega
  have hn0 : n ≤ room_1.slots := by omega
  refine jx_aload_n (pc := 1150) C dL_law_1150 rfl ?_
  refine jx_aload_n (pc := 1151) C dL_law_1151 rfl ?_
  refine jx_iload (pc := 1152) C dL_law_1152 rfl ?_
  refine jx_iconst (pc := 1154) C dL_law_1154 nc_1 ?_
  refine jx_iaddN (pc := 1155) C dL_law_1155 ?_
  refine jx_sld (pc := 1156) C hX hbl hbN (by omega) (by omega) dL_law_1156 ?_
  refine jx_aload_n (pc := 1157) C dL_law_1157 rfl ?_
  refine jx_iload (pc := 1158) C dL_law_1158 rfl ?_
  refine jx_iconst (pc := 1160) C dL_law_1160 nc_2 ?_
  refine jx_iaddN (pc := 1161) C dL_law_1161 ?_
  refine jx_sld (pc := 1162) C hX hbl hbN (by omega) (by omega) dL_law_1162 ?_
  refine jx_aload_n (pc := 1163) C dL_law_1163 rfl ?_
  refine jx_callW (pc := 1164) C hnc (As := [.ref y, .int (xs (6 * i + 1)), .int (xs (6 * i + 2)), .ref o]) (rest := []) ky_L_wovenBy (jWS_in 801 (by decide +kernel) rfl) (jWS_in 799 (by decide +kernel) rfl) ks_L_wovenBy ki_L_wovenBy rfl (Nat.le_of_ble_eq_true rfl) dL_law_1164 (t_L_wovenBy hst S R hO) (by decide) (by decide) ⟨hk, hn⟩ ?_
  intro v1 I1 P1 L1 q1
  have ev1 := q1.1
  subst ev1
  have f1 : ∀ z, y + 366 ≤ z → I1 z = I z := fun z hz => q1.2.1 z (Or.inr hz)
  have f2 : P1 x = P x := q1.2.2.1 x (Or.inr hyx)
  have hP1 := hP.ag f2
  have e1 : I1 (x + 1) = I (x + 1) := f1 _ (by omega)
  have e3 : I1 x 3 = nI q := by rw [f1 x hyx]; exact h3
  have e5 : I1 x 5 = nI t := by rw [f1 x hyx]; exact h5
  refine jx_istore (pc := 1167) C dL_law_1167 (jset_5 jc_i) (by decide) ?_
  refine jx_aload_n (pc := 1169) C dL_law_1169 rfl ?_
  refine jx_aload_n (pc := 1170) C dL_law_1170 rfl ?_
  refine jx_iload (pc := 1171) C dL_law_1171 rfl ?_
  refine jx_iconst (pc := 1173) C dL_law_1173 nc_1 ?_
  refine jx_iaddN (pc := 1174) C dL_law_1174 ?_
  refine jx_sld (pc := 1175) C hX hbl hbN (by omega) (by omega) dL_law_1175 ?_
  refine jx_aload_n (pc := 1176) C dL_law_1176 rfl ?_
  refine jx_iload (pc := 1177) C dL_law_1177 rfl ?_
  refine jx_iconst (pc := 1179) C dL_law_1179 nc_2 ?_
  refine jx_iaddN (pc := 1180) C dL_law_1180 ?_
  refine jx_sld (pc := 1181) C hX hbl hbN (by omega) (by omega) dL_law_1181 ?_
  have hok : sOK (I1 (x + 1)) := by rw [e1]; exact R.V.1
  refine jx_call (pc := 1182) C (go_L_154 C hS6.1 (Nat.le_of_ble_eq_true rfl) dL_law_1182) (t_X6_wovenBy hS6 hP1 hok) (by decide) (by decide) (fun _ _ => trivial) ⟨hk, hn⟩ (fun v2 z2 Sh2 I2 P2 L2 q2 => ?_)
  obtain ⟨eS, q2⟩ := q2
  subst eS
  rw [e1] at q2
  have hE9 := lE_qu hyx hP h3 h5 hpa htx hb1 hb2 q1 q2
  obtain ⟨inv2, -, eP2, eL2, r2, ev2, h6, hr2⟩ := hE9
  subst ev2
  subst eL2
  refine jx_sz (fun _ _ => trivial) ?_
  refine jx_istore (pc := 1185) C dL_law_1185 (jset_6 jc_i) (by decide) ?_
  refine jx_aload_n (pc := 1187) C dL_law_1187 rfl ?_
  refine jx_callD (pc := 1188) C (go_L_97 C hS6.1 (Nat.le_of_ble_eq_true rfl) dL_law_1188) (t_X6_thrown hS6.1) (by decide) (by decide) ⟨hk, hn⟩ ?_
  refine jx_iload (pc := 1191) C dL_law_1191 rfl ?_
  refine jx_icmp_eq (pc := 1193) C (tgt := 1198) dL_law_1193 (by decide) (fun c1193 => ?_) (fun c1193 => (by exfalso; exact c1193 h6))
  refine jx_iload (pc := 1198) C dL_law_1198 rfl ?_
  refine jx_if_ne (pc := 1200) C (tgt := 1215) dL_law_1200 (by decide) (fun c1200 => ?_) (fun c1200 => ?_)
  · refine jx_goto (pc := 1215) C (tgt := 1701) dL_law_1215 (by decide) ?_
    exact jx_forget jl_59 (hx _ _ _ inv2)
  · have hr2 := hr2 ((nI_eq0 (Nat.lt_of_le_of_lt (le_wovenBy (f := I (x + 1)) (q := q) (t := t) (ch := ch) (pv := (xs (6 * i + 1))) (wv := (xs (6 * i + 2)))) (by decide))).mp c1200)
    refine jx_aload_n (pc := 1203) C dL_law_1203 rfl ?_
    refine jx_iconst (pc := 1204) C dL_law_1204 nc_0 ?_
    refine jx_lald (pc := 1205) (j := 0) C hO (by decide) (by decide) dL_law_1205 ?_
    refine jx_iload (pc := 1206) C dL_law_1206 rfl ?_
    refine jx_i2l (pc := 1208) C dL_law_1208 ?_
    refine jx_lcmp (pc := 1209) C dL_law_1209 ?_
    refine jx_if_eq (pc := 1210) C (tgt := 1215) dL_law_1210 (by decide) (fun c1210 => ?_) (fun c1210 => (by exfalso; exact c1210 (by rw [hr2.2, hr2.1]; exact lg_eq _)))
    refine jx_goto (pc := 1215) C (tgt := 1701) dL_law_1215 (by decide) ?_
    exact jx_forget jl_59 (hx _ _ _ inv2)
set_option maxHeartbeats 4000000 in
theorem lp_law_17 {p : Program} {l : Launch} {e : Env} {s : State} {m : MethodId} {args : Array Value} {below : List Frame} {meth : Method} {c : Code} {D : va_G} {cA : Nat → ClassId} {N0 : Nat} {Sh : jS} {I : jI} {P : jP} {L : jL} {Qf : State → Prop} {k n : Nat} (C : jC p room_1 s m args meth c D cA N0 cL_law 9 RL 10) (hnc : jNc s) (hst : l.stackTraces = false) {b Ls : Nat} {xs : Nat → Int32} (hX : va_X b Ls xs s s.heap) (hbl : b < s.heap.size) (hbN : b < N0) (hLs : Ls ≤ 3072) {y x o : Nat} (S : cS Sh y) (hS6 : mS Sh x) (hO : Sh o = some (11, 1)) (hyx : y + 366 ≤ x) {i : Nat} (hi : 6 * i + 6 ≤ Ls) (hk : k + 1 ≤ room_1.cells) (hn : n + 6 ≤ room_1.slots) (inv : lI i I P y x) (hx : ∀ (I' : jI) (P' : jP) (L' : jL), lI (i + 1) I' P' y x → jJ p l e room_1 s m args below meth c D cA N0 9 Qf (fun _ => True) Sh I' P' L' (k + 1) (n + 6) 1701 [some (.ref b), some (.ref y), some (.ref x), some (.ref o), some (.int (nI (6 * i))), none, none, none, none] []) : jJ p l e room_1 s m args below meth c D cA N0 9 Qf (fun _ => True) Sh I P L (k) (n) 1218 [some (.ref b), some (.ref y), some (.ref x), some (.ref o), some (.int (nI (6 * i))), none, none, none, none] [] := by
  obtain ⟨q, t, pst, ch, R, hP, h3, h5, hpa, htx, hb1, hb2⟩ := inv
  have hq6 := R.q6
  have hk0 : k ≤ room_1.cells := by omega
  have hn0 : n ≤ room_1.slots := by omega
  refine jx_aload_n (pc := 1218) C dL_law_1218 rfl ?_
  refine jx_aload_n (pc := 1219) C dL_law_1219 rfl ?_
  refine jx_iload (pc := 1220) C dL_law_1220 rfl ?_
  refine jx_iconst (pc := 1222) C dL_law_1222 nc_1 ?_
  refine jx_iaddN (pc := 1223) C dL_law_1223 ?_
  refine jx_sld (pc := 1224) C hX hbl hbN (by omega) (by omega) dL_law_1224 ?_
  refine jx_aload_n (pc := 1225) C dL_law_1225 rfl ?_
  refine jx_iload (pc := 1226) C dL_law_1226 rfl ?_
  refine jx_iconst (pc := 1228) C dL_law_1228 nc_2 ?_
  refine jx_iaddN (pc := 1229) C dL_law_1229 ?_
  refine jx_sld (pc := 1230) C hX hbl hbN (by omega) (by omega) dL_law_1230 ?_
  refine jx_aload_n (pc := 1231) C dL_law_1231 rfl ?_
  refine jx_callW (pc := 1232) C hnc (As := [.ref y, .int (xs (6 * i + 1)), .int (xs (6 * i + 2)), .ref o]) (rest := []) ky_L_next (jWS_in 809 (by decide +kernel) rfl) (jWS_in 807 (by decide +kernel) rfl) ks_L_next ki_L_next rfl (Nat.le_of_ble_eq_true rfl) dL_law_1232 (t_L_next hst S R hO) (by decide) (by decide) ⟨hk, hn⟩ ?_
  intro v1 I1 P1 L1 q1
  have ev1 := q1.1
  subst ev1
  have f1 : ∀ z, y + 366 ≤ z → I1 z = I z := fun z hz => q1.2.1 z (Or.inr hz)
  have f2 : P1 x = P x := q1.2.2.1 x (Or.inr hyx)
  have hP1 := hP.ag f2
  have e1 : I1 (x + 1) = I (x + 1) := f1 _ (by omega)
  have e3 : I1 x 3 = nI q := by rw [f1 x hyx]; exact h3
  have e5 : I1 x 5 = nI t := by rw [f1 x hyx]; exact h5
  refine jx_istore (pc := 1235) C dL_law_1235 (jset_5 jc_i) (by decide) ?_
  refine jx_aload_n (pc := 1237) C dL_law_1237 rfl ?_
  refine jx_aload_n (pc := 1238) C dL_law_1238 rfl ?_
  refine jx_iload (pc := 1239) C dL_law_1239 rfl ?_
  refine jx_iconst (pc := 1241) C dL_law_1241 nc_1 ?_
  refine jx_iaddN (pc := 1242) C dL_law_1242 ?_
  refine jx_sld (pc := 1243) C hX hbl hbN (by omega) (by omega) dL_law_1243 ?_
  refine jx_aload_n (pc := 1244) C dL_law_1244 rfl ?_
  refine jx_iload (pc := 1245) C dL_law_1245 rfl ?_
  refine jx_iconst (pc := 1247) C dL_law_1247 nc_2 ?_
  refine jx_iaddN (pc := 1248) C dL_law_1248 ?_
  refine jx_sld (pc := 1249) C hX hbl hbN (by omega) (by omega) dL_law_1249 ?_
  have hok : sOK (I1 (x + 1)) := by rw [e1]; exact R.V.1
  refine jx_call (pc := 1250) C (go_L_157 C hS6.1 (Nat.le_of_ble_eq_true rfl) dL_law_1250) (t_X6_next hS6 hP1 hok) (by decide) (by decide) (fun _ _ => trivial) ⟨hk, hn⟩ (fun v2 z2 Sh2 I2 P2 L2 q2 => ?_)
  obtain ⟨eS, q2⟩ := q2
  subst eS
  rw [e1] at q2
  have hE9 := lE_qu hyx hP h3 h5 hpa htx hb1 hb2 q1 q2
  obtain ⟨inv2, -, eP2, eL2, r2, ev2, h6, hr2⟩ := hE9
  subst ev2
  subst eL2
  refine jx_sz (fun _ _ => trivial) ?_
  refine jx_istore (pc := 1253) C dL_law_1253 (jset_6 jc_i) (by decide) ?_
  refine jx_aload_n (pc := 1255) C dL_law_1255 rfl ?_
  refine jx_callD (pc := 1256) C (go_L_97 C hS6.1 (Nat.le_of_ble_eq_true rfl) dL_law_1256) (t_X6_thrown hS6.1) (by decide) (by decide) ⟨hk, hn⟩ ?_
  refine jx_iload (pc := 1259) C dL_law_1259 rfl ?_
  refine jx_icmp_eq (pc := 1261) C (tgt := 1266) dL_law_1261 (by decide) (fun c1261 => ?_) (fun c1261 => (by exfalso; exact c1261 h6))
  refine jx_iload (pc := 1266) C dL_law_1266 rfl ?_
  refine jx_if_ne (pc := 1268) C (tgt := 1283) dL_law_1268 (by decide) (fun c1268 => ?_) (fun c1268 => ?_)
  · refine jx_goto (pc := 1283) C (tgt := 1701) dL_law_1283 (by decide) ?_
    exact jx_forget jl_59 (hx _ _ _ inv2)
  · have hr2 := hr2 ((nI_eq0 (Nat.lt_of_le_of_lt (le_next (f := I (x + 1)) (q := q) (t := t) (ch := ch) (wv := (xs (6 * i + 1))) (kv := (xs (6 * i + 2)))) (by decide))).mp c1268)
    refine jx_aload_n (pc := 1271) C dL_law_1271 rfl ?_
    refine jx_iconst (pc := 1272) C dL_law_1272 nc_0 ?_
    refine jx_lald (pc := 1273) (j := 0) C hO (by decide) (by decide) dL_law_1273 ?_
    refine jx_iload (pc := 1274) C dL_law_1274 rfl ?_
    refine jx_i2l (pc := 1276) C dL_law_1276 ?_
    refine jx_lcmp (pc := 1277) C dL_law_1277 ?_
    refine jx_if_eq (pc := 1278) C (tgt := 1283) dL_law_1278 (by decide) (fun c1278 => ?_) (fun c1278 => (by exfalso; exact c1278 (by rw [hr2.2, hr2.1]; exact lg_eq _)))
    refine jx_goto (pc := 1283) C (tgt := 1701) dL_law_1283 (by decide) ?_
    exact jx_forget jl_59 (hx _ _ _ inv2)
set_option maxHeartbeats 4000000 in
theorem lp_law_18 {p : Program} {l : Launch} {e : Env} {s : State} {m : MethodId} {args : Array Value} {below : List Frame} {meth : Method} {c : Code} {D : va_G} {cA : Nat → ClassId} {N0 : Nat} {Sh : jS} {I : jI} {P : jP} {L : jL} {Qf : State → Prop} {k n : Nat} (C : jC p room_1 s m args meth c D cA N0 cL_law 9 RL 10) (hnc : jNc s) (hst : l.stackTraces = false) {b Ls : Nat} {xs : Nat → Int32} (hX : va_X b Ls xs s s.heap) (hbl : b < s.heap.size) (hbN : b < N0) (hLs : Ls ≤ 3072) {y x o : Nat} (S : cS Sh y) (hS6 : mS Sh x) (hO : Sh o = some (11, 1)) (hyx : y + 366 ≤ x) {i : Nat} (hi : 6 * i + 6 ≤ Ls) (hk : k + 1 ≤ room_1.cells) (hn : n + 6 ≤ room_1.slots) (inv : lI i I P y x) (hx : ∀ (I' : jI) (P' : jP) (L' : jL), lI (i + 1) I' P' y x → jJ p l e room_1 s m args below meth c D cA N0 9 Qf (fun _ => True) Sh I' P' L' (k + 1) (n + 6) 1701 [some (.ref b), some (.ref y), some (.ref x), some (.ref o), some (.int (nI (6 * i))), none, none, none, none] []) : jJ p l e room_1 s m args below meth c D cA N0 9 Qf (fun _ => True) Sh I P L (k) (n) 1286 [some (.ref b), some (.ref y), some (.ref x), some (.ref o), some (.int (nI (6 * i))), none, none, none, none] [] := by
  obtain ⟨q, t, pst, ch, R, hP, h3, h5, hpa, htx, hb1, hb2⟩ := inv
  have hq6 := R.q6
  have hk0 : k ≤ room_1.cells := by omega
  have hn0 : n ≤ room_1.slots := by omega
  refine jx_aload_n (pc := 1286) C dL_law_1286 rfl ?_
  refine jx_aload_n (pc := 1287) C dL_law_1287 rfl ?_
  refine jx_iload (pc := 1288) C dL_law_1288 rfl ?_
  refine jx_iconst (pc := 1290) C dL_law_1290 nc_1 ?_
  refine jx_iaddN (pc := 1291) C dL_law_1291 ?_
  refine jx_sld (pc := 1292) C hX hbl hbN (by omega) (by omega) dL_law_1292 ?_
  refine jx_aload_n (pc := 1293) C dL_law_1293 rfl ?_
  refine jx_callW (pc := 1294) C hnc (As := [.ref y, .int (xs (6 * i + 1)), .ref o]) (rest := []) ky_L_count (jWS_in 817 (by decide +kernel) rfl) (jWS_in 815 (by decide +kernel) rfl) ks_L_count ki_L_count rfl (Nat.le_of_ble_eq_true rfl) dL_law_1294 (t_L_count hst S R hO) (by decide) (by decide) ⟨hk, hn⟩ ?_
  intro v1 I1 P1 L1 q1
  have ev1 := q1.1
  subst ev1
  have f1 : ∀ z, y + 366 ≤ z → I1 z = I z := fun z hz => q1.2.1 z (Or.inr hz)
  have f2 : P1 x = P x := q1.2.2.1 x (Or.inr hyx)
  have hP1 := hP.ag f2
  have e1 : I1 (x + 1) = I (x + 1) := f1 _ (by omega)
  have e3 : I1 x 3 = nI q := by rw [f1 x hyx]; exact h3
  have e5 : I1 x 5 = nI t := by rw [f1 x hyx]; exact h5
  refine jx_istore (pc := 1297) C dL_law_1297 (jset_5 jc_i) (by decide) ?_
  refine jx_aload_n (pc := 1299) C dL_law_1299 rfl ?_
  refine jx_aload_n (pc := 1300) C dL_law_1300 rfl ?_
  refine jx_iload (pc := 1301) C dL_law_1301 rfl ?_
  refine jx_iconst (pc := 1303) C dL_law_1303 nc_1 ?_
  refine jx_iaddN (pc := 1304) C dL_law_1304 ?_
  refine jx_sld (pc := 1305) C hX hbl hbN (by omega) (by omega) dL_law_1305 ?_
  refine jx_call (pc := 1306) C (go_L_160 C hS6.1 (Nat.le_of_ble_eq_true rfl) dL_law_1306) (t_X6_count hS6 hP1) (by decide) (by decide) (fun _ _ => trivial) ⟨hk, hn⟩ (fun v2 z2 Sh2 I2 P2 L2 q2 => ?_)
  obtain ⟨eS, q2⟩ := q2
  subst eS
  rw [e1, e3] at q2
  have hE9 := lE_qu hyx hP h3 h5 hpa htx hb1 hb2 q1 q2
  obtain ⟨inv2, -, eP2, eL2, r2, ev2, h6, hr2⟩ := hE9
  subst ev2
  subst eL2
  refine jx_sz (fun _ _ => trivial) ?_
  refine jx_istore (pc := 1309) C dL_law_1309 (jset_6 jc_i) (by decide) ?_
  refine jx_aload_n (pc := 1311) C dL_law_1311 rfl ?_
  refine jx_callD (pc := 1312) C (go_L_97 C hS6.1 (Nat.le_of_ble_eq_true rfl) dL_law_1312) (t_X6_thrown hS6.1) (by decide) (by decide) ⟨hk, hn⟩ ?_
  refine jx_iload (pc := 1315) C dL_law_1315 rfl ?_
  refine jx_icmp_eq (pc := 1317) C (tgt := 1322) dL_law_1317 (by decide) (fun c1317 => ?_) (fun c1317 => (by exfalso; exact c1317 h6))
  refine jx_iload (pc := 1322) C dL_law_1322 rfl ?_
  refine jx_if_ne (pc := 1324) C (tgt := 1339) dL_law_1324 (by decide) (fun c1324 => ?_) (fun c1324 => ?_)
  · refine jx_goto (pc := 1339) C (tgt := 1701) dL_law_1339 (by decide) ?_
    exact jx_forget jl_59 (hx _ _ _ inv2)
  · have hr2 := hr2 ((nI_eq0 (Nat.lt_of_le_of_lt (le_count (f := I (x + 1)) (q := q) (t := t) (ch := ch) (kv := (xs (6 * i + 1)))) (by decide))).mp c1324)
    refine jx_aload_n (pc := 1327) C dL_law_1327 rfl ?_
    refine jx_iconst (pc := 1328) C dL_law_1328 nc_0 ?_
    refine jx_lald (pc := 1329) (j := 0) C hO (by decide) (by decide) dL_law_1329 ?_
    refine jx_iload (pc := 1330) C dL_law_1330 rfl ?_
    refine jx_i2l (pc := 1332) C dL_law_1332 ?_
    refine jx_lcmp (pc := 1333) C dL_law_1333 ?_
    refine jx_if_eq (pc := 1334) C (tgt := 1339) dL_law_1334 (by decide) (fun c1334 => ?_) (fun c1334 => (by exfalso; exact c1334 (by rw [hr2.2, hr2.1]; exact lg_eq _)))
    refine jx_goto (pc := 1339) C (tgt := 1701) dL_law_1339 (by decide) ?_
    exact jx_forget jl_59 (hx _ _ _ inv2)
set_option maxHeartbeats 4000000 in
theorem lp_law_19 {p : Program} {l : Launch} {e : Env} {s : State} {m : MethodId} {args : Array Value} {below : List Frame} {meth : Method} {c : Code} {D : va_G} {cA : Nat → ClassId} {N0 : Nat} {Sh : jS} {I : jI} {P : jP} {L : jL} {Qf : State → Prop} {k n : Nat} (C : jC p room_1 s m args meth c D cA N0 cL_law 9 RL 10) (hnc : jNc s) (hst : l.stackTraces = false) {b Ls : Nat} {xs : Nat → Int32} (hX : va_X b Ls xs s s.heap) (hbl : b < s.heap.size) (hbN : b < N0) (hLs : Ls ≤ 3072) {y x o : Nat} (S : cS Sh y) (hS6 : mS Sh x) (hO : Sh o = some (11, 1)) (hyx : y + 366 ≤ x) {i : Nat} (hi : 6 * i + 6 ≤ Ls) (hk : k + 1 ≤ room_1.cells) (hn : n + 6 ≤ room_1.slots) (inv : lI i I P y x) (hx : ∀ (I' : jI) (P' : jP) (L' : jL), lI (i + 1) I' P' y x → jJ p l e room_1 s m args below meth c D cA N0 9 Qf (fun _ => True) Sh I' P' L' (k + 1) (n + 6) 1701 [some (.ref b), some (.ref y), some (.ref x), some (.ref o), some (.int (nI (6 * i))), none, none, none, none] []) : jJ p l e room_1 s m args below meth c D cA N0 9 Qf (fun _ => True) Sh I P L (k) (n) 1342 [some (.ref b), some (.ref y), some (.ref x), some (.ref o), some (.int (nI (6 * i))), none, none, none, none] [] := by
  obtain ⟨q, t, pst, ch, R, hP, h3, h5, hpa, htx, hb1, hb2⟩ := inv
  have hq6 := R.q6
  have hk0 : k ≤ room_1.cells := by omega
  have hn0 : n ≤ room_1.slots := by omega
  refine jx_aload_n (pc := 1342) C dL_law_1342 rfl ?_
  refine jx_aload_n (pc := 1343) C dL_law_1343 rfl ?_
  refine jx_iload (pc := 1344) C dL_law_1344 rfl ?_
  refine jx_iconst (pc := 1346) C dL_law_1346 nc_1 ?_
  refine jx_iaddN (pc := 1347) C dL_law_1347 ?_
  refine jx_sld (pc := 1348) C hX hbl hbN (by omega) (by omega) dL_law_1348 ?_
  refine jx_aload_n (pc := 1349) C dL_law_1349 rfl ?_
  refine jx_callW (pc := 1350) C hnc (As := [.ref y, .int (xs (6 * i + 1)), .ref o]) (rest := []) ky_L_setting (jWS_in 825 (by decide +kernel) rfl) (jWS_in 823 (by decide +kernel) rfl) ks_L_setting ki_L_setting rfl (Nat.le_of_ble_eq_true rfl) dL_law_1350 (t_L_setting hst S R hO) (by decide) (by decide) ⟨hk, hn⟩ ?_
  intro v1 I1 P1 L1 q1
  have ev1 := q1.1
  subst ev1
  have f1 : ∀ z, y + 366 ≤ z → I1 z = I z := fun z hz => q1.2.1 z (Or.inr hz)
  have f2 : P1 x = P x := q1.2.2.1 x (Or.inr hyx)
  have hP1 := hP.ag f2
  have e1 : I1 (x + 1) = I (x + 1) := f1 _ (by omega)
  have e3 : I1 x 3 = nI q := by rw [f1 x hyx]; exact h3
  have e5 : I1 x 5 = nI t := by rw [f1 x hyx]; exact h5
  refine jx_istore (pc := 1353) C dL_law_1353 (jset_5 jc_i) (by decide) ?_
  refine jx_aload_n (pc := 1355) C dL_law_1355 rfl ?_
  refine jx_aload_n (pc := 1356) C dL_law_1356 rfl ?_
  refine jx_iload (pc := 1357) C dL_law_1357 rfl ?_
  refine jx_iconst (pc := 1359) C dL_law_1359 nc_1 ?_
  refine jx_iaddN (pc := 1360) C dL_law_1360 ?_
  refine jx_sld (pc := 1361) C hX hbl hbN (by omega) (by omega) dL_law_1361 ?_
  refine jx_call (pc := 1362) C (go_L_163 C hS6.1 (Nat.le_of_ble_eq_true rfl) dL_law_1362) (t_X6_setting hS6 hP1) (by decide) (by decide) (fun _ _ => trivial) ⟨hk, hn⟩ (fun v2 z2 Sh2 I2 P2 L2 q2 => ?_)
  obtain ⟨eS, q2⟩ := q2
  subst eS
  rw [e1] at q2
  have hE9 := lE_qu hyx hP h3 h5 hpa htx hb1 hb2 q1 q2
  obtain ⟨inv2, -, eP2, eL2, r2, ev2, h6, hr2⟩ := hE9
  subst ev2
  subst eL2
  refine jx_sz (fun _ _ => trivial) ?_
  refine jx_istore (pc := 1365) C dL_law_1365 (jset_6 jc_i) (by decide) ?_
  refine jx_aload_n (pc := 1367) C dL_law_1367 rfl ?_
  refine jx_callD (pc := 1368) C (go_L_97 C hS6.1 (Nat.le_of_ble_eq_true rfl) dL_law_1368) (t_X6_thrown hS6.1) (by decide) (by decide) ⟨hk, hn⟩ ?_
  refine jx_iload (pc := 1371) C dL_law_1371 rfl ?_
  refine jx_icmp_eq (pc := 1373) C (tgt := 1378) dL_law_1373 (by decide) (fun c1373 => ?_) (fun c1373 => (by exfalso; exact c1373 h6))
  refine jx_iload (pc := 1378) C dL_law_1378 rfl ?_
  refine jx_if_ne (pc := 1380) C (tgt := 1395) dL_law_1380 (by decide) (fun c1380 => ?_) (fun c1380 => ?_)
  · refine jx_goto (pc := 1395) C (tgt := 1701) dL_law_1395 (by decide) ?_
    exact jx_forget jl_59 (hx _ _ _ inv2)
  · have hr2 := hr2 ((nI_eq0 (Nat.lt_of_le_of_lt (le_setting (f := I (x + 1)) (q := q) (t := t) (ch := ch) (sv := (xs (6 * i + 1)))) (by decide))).mp c1380)
    refine jx_aload_n (pc := 1383) C dL_law_1383 rfl ?_
    refine jx_iconst (pc := 1384) C dL_law_1384 nc_0 ?_
    refine jx_lald (pc := 1385) (j := 0) C hO (by decide) (by decide) dL_law_1385 ?_
    refine jx_iload (pc := 1386) C dL_law_1386 rfl ?_
    refine jx_i2l (pc := 1388) C dL_law_1388 ?_
    refine jx_lcmp (pc := 1389) C dL_law_1389 ?_
    refine jx_if_eq (pc := 1390) C (tgt := 1395) dL_law_1390 (by decide) (fun c1390 => ?_) (fun c1390 => (by exfalso; exact c1390 (by rw [hr2.2, hr2.1]; exact lg_eq _)))
    refine jx_goto (pc := 1395) C (tgt := 1701) dL_law_1395 (by decide) ?_
    exact jx_forget jl_59 (hx _ _ _ inv2)
set_option maxHeartbeats 4000000 in
theorem lp_law_20 {p : Program} {l : Launch} {e : Env} {s : State} {m : MethodId} {args : Array Value} {below : List Frame} {meth : Method} {c : Code} {D : va_G} {cA : Nat → ClassId} {N0 : Nat} {Sh : jS} {I : jI} {P : jP} {L : jL} {Qf : State → Prop} {k n : Nat} (C : jC p room_1 s m args meth c D cA N0 cL_law 9 RL 10) (hnc : jNc s) (hst : l.stackTraces = false) {b Ls : Nat} {xs : Nat → Int32} (hX : va_X b Ls xs s s.heap) (hbl : b < s.heap.size) (hbN : b < N0) (hLs : Ls ≤ 3072) {y x o : Nat} (S : cS Sh y) (hS6 : mS Sh x) (hO : Sh o = some (11, 1)) (hyx : y + 366 ≤ x) {i : Nat} (hi : 6 * i + 6 ≤ Ls) (hk : k + 1 ≤ room_1.cells) (hn : n + 6 ≤ room_1.slots) (inv : lI i I P y x) (hx : ∀ (I' : jI) (P' : jP) (L' : jL), lI (i + 1) I' P' y x → jJ p l e room_1 s m args below meth c D cA N0 9 Qf (fun _ => True) Sh I' P' L' (k + 1) (n + 6) 1701 [some (.ref b), some (.ref y), some (.ref x), some (.ref o), some (.int (nI (6 * i))), none, none, none, none] []) : jJ p l e room_1 s m args below meth c D cA N0 9 Qf (fun _ => True) Sh I P L (k) (n) 1398 [some (.ref b), some (.ref y), some (.ref x), some (.ref o), some (.int (nI (6 * i))), none, none, none, none] [] := by
  obtain ⟨q, t, pst, ch, R, hP, h3, h5, hpa, htx, hb1, hb2⟩ := inv
  have hq6 := R.q6
  have hk0 : k ≤ room_1.cells := by omega
  have hn0 : n ≤ room_1.slots := by omega
  refine jx_aload_n (pc := 1398) C dL_law_1398 rfl ?_
  refine jx_aload_n (pc := 1399) C dL_law_1399 rfl ?_
  refine jx_iload (pc := 1400) C dL_law_1400 rfl ?_
  refine jx_iconst (pc := 1402) C dL_law_1402 nc_1 ?_
  refine jx_iaddN (pc := 1403) C dL_law_1403 ?_
  refine jx_sld (pc := 1404) C hX hbl hbN (by omega) (by omega) dL_law_1404 ?_
  refine jx_aload_n (pc := 1405) C dL_law_1405 rfl ?_
  refine jx_iload (pc := 1406) C dL_law_1406 rfl ?_
  refine jx_iconst (pc := 1408) C dL_law_1408 nc_2 ?_
  refine jx_iaddN (pc := 1409) C dL_law_1409 ?_
  refine jx_sld (pc := 1410) C hX hbl hbN (by omega) (by omega) dL_law_1410 ?_
  refine jx_aload_n (pc := 1411) C dL_law_1411 rfl ?_
  refine jx_callW (pc := 1412) C hnc (As := [.ref y, .int (xs (6 * i + 1)), .int (xs (6 * i + 2)), .ref o]) (rest := []) ky_L_ifPassed (jWS_in 832 (by decide +kernel) rfl) (jWS_in 830 (by decide +kernel) rfl) ks_L_ifPassed ki_L_ifPassed rfl (Nat.le_of_ble_eq_true rfl) dL_law_1412 (t_L_ifPassed hst S R hO) (by decide) (by decide) ⟨hk, hn⟩ ?_
  intro v1 I1 P1 L1 q1
  have ev1 := q1.1
  subst ev1
  have f1 : ∀ z, y + 366 ≤ z → I1 z = I z := fun z hz => q1.2.1 z (Or.inr hz)
  have f2 : P1 x = P x := q1.2.2.1 x (Or.inr hyx)
  have hP1 := hP.ag f2
  have e1 : I1 (x + 1) = I (x + 1) := f1 _ (by omega)
  have e3 : I1 x 3 = nI q := by rw [f1 x hyx]; exact h3
  have e5 : I1 x 5 = nI t := by rw [f1 x hyx]; exact h5
  refine jx_istore (pc := 1415) C dL_law_1415 (jset_5 jc_i) (by decide) ?_
  refine jx_aload_n (pc := 1417) C dL_law_1417 rfl ?_
  refine jx_aload_n (pc := 1418) C dL_law_1418 rfl ?_
  refine jx_iload (pc := 1419) C dL_law_1419 rfl ?_
  refine jx_iconst (pc := 1421) C dL_law_1421 nc_1 ?_
  refine jx_iaddN (pc := 1422) C dL_law_1422 ?_
  refine jx_sld (pc := 1423) C hX hbl hbN (by omega) (by omega) dL_law_1423 ?_
  refine jx_aload_n (pc := 1424) C dL_law_1424 rfl ?_
  refine jx_iload (pc := 1425) C dL_law_1425 rfl ?_
  refine jx_iconst (pc := 1427) C dL_law_1427 nc_2 ?_
  refine jx_iaddN (pc := 1428) C dL_law_1428 ?_
  refine jx_sld (pc := 1429) C hX hbl hbN (by omega) (by omega) dL_law_1429 ?_
  have hok : sOK (I1 (x + 1)) := by rw [e1]; exact R.V.1
  refine jx_call (pc := 1430) C (go_L_166 C hS6.1 (Nat.le_of_ble_eq_true rfl) dL_law_1430) (t_X6_ifPassed hS6 hP1 hok) (by decide) (by decide) (fun _ _ => trivial) ⟨hk, hn⟩ (fun v2 z2 Sh2 I2 P2 L2 q2 => ?_)
  obtain ⟨eS, q2⟩ := q2
  subst eS
  rw [e1] at q2
  have hE9 := lE_qu hyx hP h3 h5 hpa htx hb1 hb2 q1 q2
  obtain ⟨inv2, -, eP2, eL2, r2, ev2, h6, hr2⟩ := hE9
  subst ev2
  subst eL2
  refine jx_sz (fun _ _ => trivial) ?_
  refine jx_istore (pc := 1433) C dL_law_1433 (jset_6 jc_i) (by decide) ?_
  refine jx_aload_n (pc := 1435) C dL_law_1435 rfl ?_
  refine jx_callD (pc := 1436) C (go_L_97 C hS6.1 (Nat.le_of_ble_eq_true rfl) dL_law_1436) (t_X6_thrown hS6.1) (by decide) (by decide) ⟨hk, hn⟩ ?_
  refine jx_iload (pc := 1439) C dL_law_1439 rfl ?_
  refine jx_icmp_eq (pc := 1441) C (tgt := 1446) dL_law_1441 (by decide) (fun c1441 => ?_) (fun c1441 => (by exfalso; exact c1441 h6))
  refine jx_iload (pc := 1446) C dL_law_1446 rfl ?_
  refine jx_if_ne (pc := 1448) C (tgt := 1463) dL_law_1448 (by decide) (fun c1448 => ?_) (fun c1448 => ?_)
  · refine jx_goto (pc := 1463) C (tgt := 1701) dL_law_1463 (by decide) ?_
    exact jx_forget jl_59 (hx _ _ _ inv2)
  · have hr2 := hr2 ((nI_eq0 (Nat.lt_of_le_of_lt (le_ifPassed (f := I (x + 1)) (q := q) (t := t) (ch := ch) (hv := (xs (6 * i + 1))) (kv := (xs (6 * i + 2)))) (by decide))).mp c1448)
    refine jx_aload_n (pc := 1451) C dL_law_1451 rfl ?_
    refine jx_iconst (pc := 1452) C dL_law_1452 nc_0 ?_
    refine jx_lald (pc := 1453) (j := 0) C hO (by decide) (by decide) dL_law_1453 ?_
    refine jx_iload (pc := 1454) C dL_law_1454 rfl ?_
    refine jx_i2l (pc := 1456) C dL_law_1456 ?_
    refine jx_lcmp (pc := 1457) C dL_law_1457 ?_
    refine jx_if_eq (pc := 1458) C (tgt := 1463) dL_law_1458 (by decide) (fun c1458 => ?_) (fun c1458 => (by exfalso; exact c1458 (by rw [hr2.2, hr2.1]; exact lg_eq _)))
    refine jx_goto (pc := 1463) C (tgt := 1701) dL_law_1463 (by decide) ?_
    exact jx_forget jl_59 (hx _ _ _ inv2)
set_option maxHeartbeats 4000000 in
theorem lp_law_21 {p : Program} {l : Launch} {e : Env} {s : State} {m : MethodId} {args : Array Value} {below : List Frame} {meth : Method} {c : Code} {D : va_G} {cA : Nat → ClassId} {N0 : Nat} {Sh : jS} {I : jI} {P : jP} {L : jL} {Qf : State → Prop} {k n : Nat} (C : jC p room_1 s m args meth c D cA N0 cL_law 9 RL 10) (hnc : jNc s) (hst : l.stackTraces = false) {b Ls : Nat} {xs : Nat → Int32} (hX : va_X b Ls xs s s.heap) (hbl : b < s.heap.size) (hbN : b < N0) (hLs : Ls ≤ 3072) {y x o : Nat} (S : cS Sh y) (hS6 : mS Sh x) (hO : Sh o = some (11, 1)) (hyx : y + 366 ≤ x) {i : Nat} (hi : 6 * i + 6 ≤ Ls) (hk : k + 1 ≤ room_1.cells) (hn : n + 6 ≤ room_1.slots) (inv : lI i I P y x) (hx : ∀ (I' : jI) (P' : jP) (L' : jL), lI (i + 1) I' P' y x → jJ p l e room_1 s m args below meth c D cA N0 9 Qf (fun _ => True) Sh I' P' L' (k + 1) (n + 6) 1701 [some (.ref b), some (.ref y), some (.ref x), some (.ref o), some (.int (nI (6 * i))), none, none, none, none] []) : jJ p l e room_1 s m args below meth c D cA N0 9 Qf (fun _ => True) Sh I P L (k) (n) 1466 [some (.ref b), some (.ref y), some (.ref x), some (.ref o), some (.int (nI (6 * i))), none, none, none, none] [] := by
  obtain ⟨q, t, pst, ch, R, hP, h3, h5, hpa, htx, hb1, hb2⟩ := inv
  have hq6 := R.q6
  have hk0 : k ≤ room_1.cells := by omega
  have hn0 : n ≤ room_1.slots := by omega
  refine jx_aload_n (pc := 1466) C dL_law_1466 rfl ?_
  refine jx_aload_n (pc := 1467) C dL_law_1467 rfl ?_
  refine jx_iload (pc := 1468) C dL_law_1468 rfl ?_
  refine jx_iconst (pc := 1470) C dL_law_1470 nc_1 ?_
  refine jx_iaddN (pc := 1471) C dL_law_1471 ?_
  refine jx_sld (pc := 1472) C hX hbl hbN (by omega) (by omega) dL_law_1472 ?_
  refine jx_aload_n (pc := 1473) C dL_law_1473 rfl ?_
  refine jx_callW (pc := 1474) C hnc (As := [.ref y, .int (xs (6 * i + 1)), .ref o]) (rest := []) ky_L_doneIn (jWS_in 840 (by decide +kernel) rfl) (jWS_in 838 (by decide +kernel) rfl) ks_L_doneIn ki_L_doneIn rfl (Nat.le_of_ble_eq_true rfl) dL_law_1474 (t_L_doneIn hst S R hO) (by decide) (by decide) ⟨hk, hn⟩ ?_
  intro v1 I1 P1 L1 q1
  have ev1 := q1.1
  subst ev1
  have f1 : ∀ z, y + 366 ≤ z → I1 z = I z := fun z hz => q1.2.1 z (Or.inr hz)
  have f2 : P1 x = P x := q1.2.2.1 x (Or.inr hyx)
  have hP1 := hP.ag f2
  have e1 : I1 (x + 1) = I (x + 1) := f1 _ (by omega)
  have e3 : I1 x 3 = nI q := by rw [f1 x hyx]; exact h3
  have e5 : I1 x 5 = nI t := by rw [f1 x hyx]; exact h5
  refine jx_istore (pc := 1477) C dL_law_1477 (jset_5 jc_i) (by decide) ?_
  refine jx_aload_n (pc := 1479) C dL_law_1479 rfl ?_
  refine jx_aload_n (pc := 1480) C dL_law_1480 rfl ?_
  refine jx_iload (pc := 1481) C dL_law_1481 rfl ?_
  refine jx_iconst (pc := 1483) C dL_law_1483 nc_1 ?_
  refine jx_iaddN (pc := 1484) C dL_law_1484 ?_
  refine jx_sld (pc := 1485) C hX hbl hbN (by omega) (by omega) dL_law_1485 ?_
  have hok : sOK (I1 (x + 1)) := by rw [e1]; exact R.V.1
  refine jx_call (pc := 1486) C (go_L_169 C hS6.1 (Nat.le_of_ble_eq_true rfl) dL_law_1486) (t_X6_doneIn hS6 hP1 hok) (by decide) (by decide) (fun _ _ => trivial) ⟨hk, hn⟩ (fun v2 z2 Sh2 I2 P2 L2 q2 => ?_)
  obtain ⟨eS, q2⟩ := q2
  subst eS
  rw [e1] at q2
  have hE9 := lE_qu hyx hP h3 h5 hpa htx hb1 hb2 q1 q2
  obtain ⟨inv2, -, eP2, eL2, r2, ev2, h6, hr2⟩ := hE9
  subst ev2
  subst eL2
  refine jx_sz (fun _ _ => trivial) ?_
  refine jx_istore (pc := 1489) C dL_law_1489 (jset_6 jc_i) (by decide) ?_
  refine jx_aload_n (pc := 1491) C dL_law_1491 rfl ?_
  refine jx_callD (pc := 1492) C (go_L_97 C hS6.1 (Nat.le_of_ble_eq_true rfl) dL_law_1492) (t_X6_thrown hS6.1) (by decide) (by decide) ⟨hk, hn⟩ ?_
  refine jx_iload (pc := 1495) C dL_law_1495 rfl ?_
  refine jx_icmp_eq (pc := 1497) C (tgt := 1502) dL_law_1497 (by decide) (fun c1497 => ?_) (fun c1497 => (by exfalso; exact c1497 h6))
  refine jx_iload (pc := 1502) C dL_law_1502 rfl ?_
  refine jx_if_ne (pc := 1504) C (tgt := 1519) dL_law_1504 (by decide) (fun c1504 => ?_) (fun c1504 => ?_)
  · refine jx_goto (pc := 1519) C (tgt := 1701) dL_law_1519 (by decide) ?_
    exact jx_forget jl_59 (hx _ _ _ inv2)
  · have hr2 := hr2 ((nI_eq0 (Nat.lt_of_le_of_lt (le_doneIn (f := I (x + 1)) (q := q) (t := t) (ch := ch) (num := (xs (6 * i + 1)))) (by decide))).mp c1504)
    refine jx_aload_n (pc := 1507) C dL_law_1507 rfl ?_
    refine jx_iconst (pc := 1508) C dL_law_1508 nc_0 ?_
    refine jx_lald (pc := 1509) (j := 0) C hO (by decide) (by decide) dL_law_1509 ?_
    refine jx_iload (pc := 1510) C dL_law_1510 rfl ?_
    refine jx_i2l (pc := 1512) C dL_law_1512 ?_
    refine jx_lcmp (pc := 1513) C dL_law_1513 ?_
    refine jx_if_eq (pc := 1514) C (tgt := 1519) dL_law_1514 (by decide) (fun c1514 => ?_) (fun c1514 => (by exfalso; exact c1514 (by rw [hr2.2, hr2.1]; exact lg_eq _)))
    refine jx_goto (pc := 1519) C (tgt := 1701) dL_law_1519 (by decide) ?_
    exact jx_forget jl_59 (hx _ _ _ inv2)
set_option maxHeartbeats 4000000 in
theorem lp_law_22 {p : Program} {l : Launch} {e : Env} {s : State} {m : MethodId} {args : Array Value} {below : List Frame} {meth : Method} {c : Code} {D : va_G} {cA : Nat → ClassId} {N0 : Nat} {Sh : jS} {I : jI} {P : jP} {L : jL} {Qf : State → Prop} {k n : Nat} (C : jC p room_1 s m args meth c D cA N0 cL_law 9 RL 10) (hnc : jNc s) (hst : l.stackTraces = false) {b Ls : Nat} {xs : Nat → Int32} (hX : va_X b Ls xs s s.heap) (hbl : b < s.heap.size) (hbN : b < N0) (hLs : Ls ≤ 3072) {y x o : Nat} (S : cS Sh y) (hS6 : mS Sh x) (hO : Sh o = some (11, 1)) (hyx : y + 366 ≤ x) {i : Nat} (hi : 6 * i + 6 ≤ Ls) (hk : k + 1 ≤ room_1.cells) (hn : n + 6 ≤ room_1.slots) (inv : lI i I P y x) (hx : ∀ (I' : jI) (P' : jP) (L' : jL), lI (i + 1) I' P' y x → jJ p l e room_1 s m args below meth c D cA N0 9 Qf (fun _ => True) Sh I' P' L' (k + 1) (n + 6) 1701 [some (.ref b), some (.ref y), some (.ref x), some (.ref o), some (.int (nI (6 * i))), none, none, none, none] []) : jJ p l e room_1 s m args below meth c D cA N0 9 Qf (fun _ => True) Sh I P L (k) (n) 1522 [some (.ref b), some (.ref y), some (.ref x), some (.ref o), some (.int (nI (6 * i))), none, none, none, none] [] := by
  obtain ⟨q, t, pst, ch, R, hP, h3, h5, hpa, htx, hb1, hb2⟩ := inv
  have hq6 := R.q6
  have hk0 : k ≤ room_1.cells := by omega
  have hn0 : n ≤ room_1.slots := by omega
  refine jx_aload_n (pc := 1522) C dL_law_1522 rfl ?_
  refine jx_aload_n (pc := 1523) C dL_law_1523 rfl ?_
  refine jx_iload (pc := 1524) C dL_law_1524 rfl ?_
  refine jx_iconst (pc := 1526) C dL_law_1526 nc_1 ?_
  refine jx_iaddN (pc := 1527) C dL_law_1527 ?_
  refine jx_sld (pc := 1528) C hX hbl hbN (by omega) (by omega) dL_law_1528 ?_
  refine jx_aload_n (pc := 1529) C dL_law_1529 rfl ?_
  refine jx_callW (pc := 1530) C hnc (As := [.ref y, .int (xs (6 * i + 1)), .ref o]) (rest := []) ky_L_bestRule (jWS_in 847 (by decide +kernel) rfl) (jWS_in 845 (by decide +kernel) rfl) ks_L_bestRule ki_L_bestRule rfl (Nat.le_of_ble_eq_true rfl) dL_law_1530 (t_L_bestRule hst S R hO) (by decide) (by decide) ⟨hk, hn⟩ ?_
  intro v1 I1 P1 L1 q1
  have ev1 := q1.1
  subst ev1
  have f1 : ∀ z, y + 366 ≤ z → I1 z = I z := fun z hz => q1.2.1 z (Or.inr hz)
  have f2 : P1 x = P x := q1.2.2.1 x (Or.inr hyx)
  have hP1 := hP.ag f2
  have e1 : I1 (x + 1) = I (x + 1) := f1 _ (by omega)
  have e3 : I1 x 3 = nI q := by rw [f1 x hyx]; exact h3
  have e5 : I1 x 5 = nI t := by rw [f1 x hyx]; exact h5
  refine jx_istore (pc := 1533) C dL_law_1533 (jset_5 jc_i) (by decide) ?_
  refine jx_aload_n (pc := 1535) C dL_law_1535 rfl ?_
  refine jx_aload_n (pc := 1536) C dL_law_1536 rfl ?_
  refine jx_iload (pc := 1537) C dL_law_1537 rfl ?_
  refine jx_iconst (pc := 1539) C dL_law_1539 nc_1 ?_
  refine jx_iaddN (pc := 1540) C dL_law_1540 ?_
  refine jx_sld (pc := 1541) C hX hbl hbN (by omega) (by omega) dL_law_1541 ?_
  have hok : sOK (I1 (x + 1)) := by rw [e1]; exact R.V.1
  refine jx_call (pc := 1542) C (go_L_172 C hS6.1 (Nat.le_of_ble_eq_true rfl) dL_law_1542) (t_X6_bestRule hS6 hP1 hok) (by decide) (by decide) (fun _ _ => trivial) ⟨hk, hn⟩ (fun v2 z2 Sh2 I2 P2 L2 q2 => ?_)
  obtain ⟨eS, q2⟩ := q2
  subst eS
  rw [e1] at q2
  have hE9 := lE_qu hyx hP h3 h5 hpa htx hb1 hb2 q1 q2
  obtain ⟨inv2, -, eP2, eL2, r2, ev2, h6, hr2⟩ := hE9
  subst ev2
  subst eL2
  refine jx_sz (fun _ _ => trivial) ?_
  refine jx_istore (pc := 1545) C dL_law_1545 (jset_6 jc_i) (by decide) ?_
  refine jx_aload_n (pc := 1547) C dL_law_1547 rfl ?_
  refine jx_callD (pc := 1548) C (go_L_97 C hS6.1 (Nat.le_of_ble_eq_true rfl) dL_law_1548) (t_X6_thrown hS6.1) (by decide) (by decide) ⟨hk, hn⟩ ?_
  refine jx_iload (pc := 1551) C dL_law_1551 rfl ?_
  refine jx_icmp_eq (pc := 1553) C (tgt := 1558) dL_law_1553 (by decide) (fun c1553 => ?_) (fun c1553 => (by exfalso; exact c1553 h6))
  refine jx_iload (pc := 1558) C dL_law_1558 rfl ?_
  refine jx_if_ne (pc := 1560) C (tgt := 1575) dL_law_1560 (by decide) (fun c1560 => ?_) (fun c1560 => ?_)
  · refine jx_goto (pc := 1575) C (tgt := 1701) dL_law_1575 (by decide) ?_
    exact jx_forget jl_59 (hx _ _ _ inv2)
  · have hr2 := hr2 ((nI_eq0 (Nat.lt_of_le_of_lt (le_bestRule (f := I (x + 1)) (q := q) (t := t) (ch := ch) (hv := (xs (6 * i + 1)))) (by decide))).mp c1560)
    refine jx_aload_n (pc := 1563) C dL_law_1563 rfl ?_
    refine jx_iconst (pc := 1564) C dL_law_1564 nc_0 ?_
    refine jx_lald (pc := 1565) (j := 0) C hO (by decide) (by decide) dL_law_1565 ?_
    refine jx_iload (pc := 1566) C dL_law_1566 rfl ?_
    refine jx_i2l (pc := 1568) C dL_law_1568 ?_
    refine jx_lcmp (pc := 1569) C dL_law_1569 ?_
    refine jx_if_eq (pc := 1570) C (tgt := 1575) dL_law_1570 (by decide) (fun c1570 => ?_) (fun c1570 => (by exfalso; exact c1570 (by rw [hr2.2, hr2.1]; exact lg_eq _)))
    refine jx_goto (pc := 1575) C (tgt := 1701) dL_law_1575 (by decide) ?_
    exact jx_forget jl_59 (hx _ _ _ inv2)
set_option maxHeartbeats 4000000 in
theorem lp_law_23 {p : Program} {l : Launch} {e : Env} {s : State} {m : MethodId} {args : Array Value} {below : List Frame} {meth : Method} {c : Code} {D : va_G} {cA : Nat → ClassId} {N0 : Nat} {Sh : jS} {I : jI} {P : jP} {L : jL} {Qf : State → Prop} {k n : Nat} (C : jC p room_1 s m args meth c D cA N0 cL_law 9 RL 10) (hnc : jNc s) (hst : l.stackTraces = false) {b Ls : Nat} {xs : Nat → Int32} (hX : va_X b Ls xs s s.heap) (hbl : b < s.heap.size) (hbN : b < N0) (hLs : Ls ≤ 3072) {y x o : Nat} (S : cS Sh y) (hS6 : mS Sh x) (hO : Sh o = some (11, 1)) (hyx : y + 366 ≤ x) {i : Nat} (hi : 6 * i + 6 ≤ Ls) (hk : k + 1 ≤ room_1.cells) (hn : n + 6 ≤ room_1.slots) (inv : lI i I P y x) (hx : ∀ (I' : jI) (P' : jP) (L' : jL), lI (i + 1) I' P' y x → jJ p l e room_1 s m args below meth c D cA N0 9 Qf (fun _ => True) Sh I' P' L' (k + 1) (n + 6) 1701 [some (.ref b), some (.ref y), some (.ref x), some (.ref o), some (.int (nI (6 * i))), none, none, none, none] []) : jJ p l e room_1 s m args below meth c D cA N0 9 Qf (fun _ => True) Sh I P L (k) (n) 1578 [some (.ref b), some (.ref y), some (.ref x), some (.ref o), some (.int (nI (6 * i))), none, none, none, none] [] := by
  obtain ⟨q, t, pst, ch, R, hP, h3, h5, hpa, htx, hb1, hb2⟩ := inv
  have hq6 := R.q6
  have hk0 : k ≤ room_1.cells := by omega
  have hn0 : n ≤ room_1.slots := by omega
  refine jx_aload_n (pc := 1578) C dL_law_1578 rfl ?_
  refine jx_aload_n (pc := 1579) C dL_law_1579 rfl ?_
  refine jx_iload (pc := 1580) C dL_law_1580 rfl ?_
  refine jx_iconst (pc := 1582) C dL_law_1582 nc_1 ?_
  refine jx_iaddN (pc := 1583) C dL_law_1583 ?_
  refine jx_sld (pc := 1584) C hX hbl hbN (by omega) (by omega) dL_law_1584 ?_
  refine jx_aload_n (pc := 1585) C dL_law_1585 rfl ?_
  refine jx_iload (pc := 1586) C dL_law_1586 rfl ?_
  refine jx_iconst (pc := 1588) C dL_law_1588 nc_2 ?_
  refine jx_iaddN (pc := 1589) C dL_law_1589 ?_
  refine jx_sld (pc := 1590) C hX hbl hbN (by omega) (by omega) dL_law_1590 ?_
  refine jx_aload_n (pc := 1591) C dL_law_1591 rfl ?_
  refine jx_callW (pc := 1592) C hnc (As := [.ref y, .int (xs (6 * i + 1)), .int (xs (6 * i + 2)), .ref o]) (rest := []) ky_L_dueNow (jWS_in 854 (by decide +kernel) rfl) (jWS_in 852 (by decide +kernel) rfl) ks_L_dueNow ki_L_dueNow rfl (Nat.le_of_ble_eq_true rfl) dL_law_1592 (t_L_dueNow hst S R hO) (by decide) (by decide) ⟨hk, hn⟩ ?_
  intro v1 I1 P1 L1 q1
  have ev1 := q1.1
  subst ev1
  have f1 : ∀ z, y + 366 ≤ z → I1 z = I z := fun z hz => q1.2.1 z (Or.inr hz)
  have f2 : P1 x = P x := q1.2.2.1 x (Or.inr hyx)
  have hP1 := hP.ag f2
  have e1 : I1 (x + 1) = I (x + 1) := f1 _ (by omega)
  have e3 : I1 x 3 = nI q := by rw [f1 x hyx]; exact h3
  have e5 : I1 x 5 = nI t := by rw [f1 x hyx]; exact h5
  refine jx_istore (pc := 1595) C dL_law_1595 (jset_5 jc_i) (by decide) ?_
  refine jx_aload_n (pc := 1597) C dL_law_1597 rfl ?_
  refine jx_aload_n (pc := 1598) C dL_law_1598 rfl ?_
  refine jx_iload (pc := 1599) C dL_law_1599 rfl ?_
  refine jx_iconst (pc := 1601) C dL_law_1601 nc_1 ?_
  refine jx_iaddN (pc := 1602) C dL_law_1602 ?_
  refine jx_sld (pc := 1603) C hX hbl hbN (by omega) (by omega) dL_law_1603 ?_
  refine jx_aload_n (pc := 1604) C dL_law_1604 rfl ?_
  refine jx_iload (pc := 1605) C dL_law_1605 rfl ?_
  refine jx_iconst (pc := 1607) C dL_law_1607 nc_2 ?_
  refine jx_iaddN (pc := 1608) C dL_law_1608 ?_
  refine jx_sld (pc := 1609) C hX hbl hbN (by omega) (by omega) dL_law_1609 ?_
  have hok : sOK (I1 (x + 1)) := by rw [e1]; exact R.V.1
  refine jx_call (pc := 1610) C (go_L_175 C hS6.1 (Nat.le_of_ble_eq_true rfl) dL_law_1610) (t_X6_dueNow hS6 hP1 hok) (by decide) (by decide) (fun _ _ => trivial) ⟨hk, hn⟩ (fun v2 z2 Sh2 I2 P2 L2 q2 => ?_)
  obtain ⟨eS, q2⟩ := q2
  subst eS
  rw [e1] at q2
  have hE9 := lE_qu hyx hP h3 h5 hpa htx hb1 hb2 q1 q2
  obtain ⟨inv2, -, eP2, eL2, r2, ev2, h6, hr2⟩ := hE9
  subst ev2
  subst eL2
  refine jx_sz (fun _ _ => trivial) ?_
  refine jx_istore (pc := 1613) C dL_law_1613 (jset_6 jc_i) (by decide) ?_
  refine jx_aload_n (pc := 1615) C dL_law_1615 rfl ?_
  refine jx_callD (pc := 1616) C (go_L_97 C hS6.1 (Nat.le_of_ble_eq_true rfl) dL_law_1616) (t_X6_thrown hS6.1) (by decide) (by decide) ⟨hk, hn⟩ ?_
  refine jx_iload (pc := 1619) C dL_law_1619 rfl ?_
  refine jx_icmp_eq (pc := 1621) C (tgt := 1626) dL_law_1621 (by decide) (fun c1621 => ?_) (fun c1621 => (by exfalso; exact c1621 h6))
  refine jx_iload (pc := 1626) C dL_law_1626 rfl ?_
  refine jx_if_ne (pc := 1628) C (tgt := 1643) dL_law_1628 (by decide) (fun c1628 => ?_) (fun c1628 => ?_)
  · refine jx_goto (pc := 1643) C (tgt := 1701) dL_law_1643 (by decide) ?_
    exact jx_forget jl_59 (hx _ _ _ inv2)
  · have hr2 := hr2 ((nI_eq0 (Nat.lt_of_le_of_lt (le_dueNow (f := I (x + 1)) (q := q) (t := t) (ch := ch) (num := (xs (6 * i + 1))) (wv := (xs (6 * i + 2)))) (by decide))).mp c1628)
    refine jx_aload_n (pc := 1631) C dL_law_1631 rfl ?_
    refine jx_iconst (pc := 1632) C dL_law_1632 nc_0 ?_
    refine jx_lald (pc := 1633) (j := 0) C hO (by decide) (by decide) dL_law_1633 ?_
    refine jx_iload (pc := 1634) C dL_law_1634 rfl ?_
    refine jx_i2l (pc := 1636) C dL_law_1636 ?_
    refine jx_lcmp (pc := 1637) C dL_law_1637 ?_
    refine jx_if_eq (pc := 1638) C (tgt := 1643) dL_law_1638 (by decide) (fun c1638 => ?_) (fun c1638 => (by exfalso; exact c1638 (by rw [hr2.2, hr2.1]; exact lg_eq _)))
    refine jx_goto (pc := 1643) C (tgt := 1701) dL_law_1643 (by decide) ?_
    exact jx_forget jl_59 (hx _ _ _ inv2)
set_option maxHeartbeats 4000000 in
theorem lp_law_24 {p : Program} {l : Launch} {e : Env} {s : State} {m : MethodId} {args : Array Value} {below : List Frame} {meth : Method} {c : Code} {D : va_G} {cA : Nat → ClassId} {N0 : Nat} {Sh : jS} {I : jI} {P : jP} {L : jL} {Qf : State → Prop} {k n : Nat} (C : jC p room_1 s m args meth c D cA N0 cL_law 9 RL 10) (hnc : jNc s) (hst : l.stackTraces = false) {b Ls : Nat} {xs : Nat → Int32} (hX : va_X b Ls xs s s.heap) (hbl : b < s.heap.size) (hbN : b < N0) (hLs : Ls ≤ 3072) {y x o : Nat} (S : cS Sh y) (hS6 : mS Sh x) (hO : Sh o = some (11, 1)) (hyx : y + 366 ≤ x) {i : Nat} (hi : 6 * i + 6 ≤ Ls) (hk : k + 1 ≤ room_1.cells) (hn : n + 6 ≤ room_1.slots) (inv : lI i I P y x) (hx : ∀ (I' : jI) (P' : jP) (L' : jL), lI (i + 1) I' P' y x → jJ p l e room_1 s m args below meth c D cA N0 9 Qf (fun _ => True) Sh I' P' L' (k + 1) (n + 6) 1701 [some (.ref b), some (.ref y), some (.ref x), some (.ref o), some (.int (nI (6 * i))), none, none, none, none] []) : jJ p l e room_1 s m args below meth c D cA N0 9 Qf (fun _ => True) Sh I P L (k) (n) 1646 [some (.ref b), some (.ref y), some (.ref x), some (.ref o), some (.int (nI (6 * i))), none, none, none, none] [] := by
  obtain ⟨q, t, pst, ch, R, hP, h3, h5, hpa, htx, hb1, hb2⟩ := inv
  have hq6 := R.q6
  have hk0 : k ≤ room_1.cells := by omega
  have hn0 : n ≤ room_1.slots := by omega
  refine jx_aload_n (pc := 1646) C dL_law_1646 rfl ?_
  refine jx_callD (pc := 1647) C (go_L_176 C S.obj (Nat.le_of_ble_eq_true rfl) dL_law_1647) (t_X5_evenness S R (sB_he hb1 (by omega))) (by decide) (by decide) ⟨hk0, hn0⟩ ?_
  refine jx_dstore (pc := 1650) C dL_law_1650 (jsetw_5 jc_i) (by decide) ?_
  refine jx_aload_n (pc := 1652) C dL_law_1652 rfl ?_
  refine jx_callD (pc := 1653) C (go_L_180 C hS6.1 (Nat.le_of_ble_eq_true rfl) dL_law_1653) (t_X6_evenness hS6 hP) (by decide) (by decide) ⟨hk0, hn0⟩ ?_
  have inv2 : lI (i + 1) (jst I x 6 (nI 0)) P y x := by
    refine ⟨q, t, pst, ch, ?_, hP, ?_, ?_, fun i2 hi2 k2 hk2 => ?_, fun j hj => ?_, ?_, fun j hj => sB_mono (hb2 j hj) (by omega)⟩
    · rw [jst_ne (by omega)]
      exact R.keep (fun z z1 z2 => jst_ne (by omega)) rfl
    · rw [jst_eq, upd_n (by decide)]; exact h3
    · rw [jst_eq, upd_n (by decide)]; exact h5
    · rw [jst_ne (by omega)]; exact hpa i2 hi2 k2 hk2
    · rw [jst_ne (by omega)]; exact htx j hj
    · rw [jst_ne (by omega)]; exact sB_mono hb1 (by omega)
  refine jx_dstore (pc := 1656) C dL_law_1656 (jsetw_7 jc_n) (by decide) ?_
  refine jx_dload (pc := 1658) C dL_law_1658 rfl ?_
  refine jx_dload (pc := 1660) C dL_law_1660 rfl ?_
  refine jx_dcmp (pc := 1662) C dL_law_1662 ?_
  refine jx_if_eq (pc := 1663) C (tgt := 1684) dL_law_1663 (by decide) (fun c1663 => ?_) (fun c1663 => ?_)
  · refine jx_goto (pc := 1684) C (tgt := 1701) dL_law_1684 (by decide) ?_
    exact jx_roomy (by omega) (by omega) (jx_forget jl_59 (hx _ _ _ inv2))
  · refine jx_dload (pc := 1666) C dL_law_1666 rfl ?_
    refine jx_dload (pc := 1668) C dL_law_1668 rfl ?_
    refine jx_dcmp (pc := 1670) C dL_law_1670 ?_
    refine jx_if_eq (pc := 1671) C (tgt := 1682) dL_law_1671 (by decide) (fun c1671 => (by exfalso; exact c1663 c1671)) (fun c1671 => ?_)
    refine jx_dload (pc := 1674) C dL_law_1674 rfl ?_
    refine jx_dload (pc := 1676) C dL_law_1676 rfl ?_
    refine jx_dcmp (pc := 1678) C dL_law_1678 ?_
    refine jx_if_ne (pc := 1679) C (tgt := 1684) dL_law_1679 (by decide) (fun c1679 => ?_) (fun c1679 => (by exfalso; exact c1663 c1679))
    refine jx_goto (pc := 1684) C (tgt := 1701) dL_law_1684 (by decide) ?_
    exact jx_roomy (by omega) (by omega) (jx_forget jl_59 (hx _ _ _ inv2))
set_option maxHeartbeats 4000000 in
theorem lp_law_25 {p : Program} {l : Launch} {e : Env} {s : State} {m : MethodId} {args : Array Value} {below : List Frame} {meth : Method} {c : Code} {D : va_G} {cA : Nat → ClassId} {N0 : Nat} {Sh : jS} {I : jI} {P : jP} {L : jL} {Qf : State → Prop} {k n : Nat} (C : jC p room_1 s m args meth c D cA N0 cL_law 9 RL 10) (hnc : jNc s) (hst : l.stackTraces = false) {b Ls : Nat} {xs : Nat → Int32} (hX : va_X b Ls xs s s.heap) (hbl : b < s.heap.size) (hbN : b < N0) (hLs : Ls ≤ 3072) {y x o : Nat} (S : cS Sh y) (hS6 : mS Sh x) (hO : Sh o = some (11, 1)) (hyx : y + 366 ≤ x) {i : Nat} (hi : 6 * i + 6 ≤ Ls) (hk : k + 1 ≤ room_1.cells) (hn : n + 6 ≤ room_1.slots) (inv : lI i I P y x) (hx : ∀ (I' : jI) (P' : jP) (L' : jL), lI (i + 1) I' P' y x → jJ p l e room_1 s m args below meth c D cA N0 9 Qf (fun _ => True) Sh I' P' L' (k + 1) (n + 6) 1701 [some (.ref b), some (.ref y), some (.ref x), some (.ref o), some (.int (nI (6 * i))), none, none, none, none] []) : jJ p l e room_1 s m args below meth c D cA N0 9 Qf (fun _ => True) Sh I P L (k) (n) 1687 [some (.ref b), some (.ref y), some (.ref x), some (.ref o), some (.int (nI (6 * i))), none, none, none, none] [] := by
  obtain ⟨q, t, pst, ch, R, hP, h3, h5, hpa, htx, hb1, hb2⟩ := inv
  have hq6 := R.q6
  have hk0 : k ≤ room_1.cells := by omega
  have hn0 : n ≤ room_1.slots := by omega
  refine jx_aload_n (pc := 1687) C dL_law_1687 rfl ?_
  refine jx_calll (pc := 1688) C (go_L_181 C S.obj (Nat.le_of_ble_eq_true rfl) dL_law_1688) (t_X5_digest S R.T R.M R.V R.U R.hq R.B (sB_he hb1 (by omega))) (by decide) (by decide) ⟨hk0, hn0⟩ (fun r1 I1 P1 L1 q1 => ?_)
  obtain ⟨er1, F1, eL1⟩ := q1
  subst er1
  subst eL1
  have R1 := R.dig F1
  have O1 := cOut.dig (L := L1) F1
  have f1 : ∀ z, y + 366 ≤ z → I1 z = I z := fun z hz => O1.1 z (Or.inr hz)
  have hP1 := hP.ag (O1.2.1 x (Or.inr hyx))
  have e1 : I1 (x + 1) = I (x + 1) := f1 _ (by omega)
  have e3 : I1 x 3 = nI q := by rw [f1 x hyx]; exact h3
  have e5 : I1 x 5 = nI t := by rw [f1 x hyx]; exact h5
  refine jx_aload_n (pc := 1691) C dL_law_1691 rfl ?_
  refine jx_calll (pc := 1692) C (go_L_185 C hS6.1 (Nat.le_of_ble_eq_true rfl) dL_law_1692) (t_X6_digest hS6 hP1 (by rw [e1]; exact R.V.1) e5 R.B.2.1) (by decide) (by decide) ⟨hk0, hn0⟩ (fun r2 I2 P2 L2 q2 => ?_)
  obtain ⟨er2, g0, eP2, eL2⟩ := q2
  subst eP2
  have edig : r2 = sdig (I (x + 1)) (nI q) (nI t) t (fun k => nI (ch k)) := by
    rw [er2, e1, show jst I1 x 6 (nI 0) x 3 = nI q from (congrFun jst_eq 3).trans ((upd_n (by decide)).trans e3), show jst I1 x 6 (nI 0) x 5 = nI t from (congrFun jst_eq 5).trans ((upd_n (by decide)).trans e5)]
    unfold sdig
    exact smixN_c (fun k hk => by rw [jst_ne (by omega), f1 _ (by omega)]; exact htx k hk)
  subst edig
  have g1 : ∀ z, z ≠ x → z ≠ x + 2 → z ≠ x + 6 → I2 z = I1 z := fun z h1 h2 h3 => by rw [g0 z h2 h3, jst_ne h1]
  have g2 : ∀ j, j ≠ 6 → I2 x j = I1 x j := fun j h1 => by rw [g0 x (by omega) (by omega), jst_eq, upd_n h1]
  have inv2 : lI (i + 1) I2 P2 y x := by
    refine ⟨q, t, pst, ch, ?_, hP1, ?_, ?_, fun i2 hi2 k2 hk2 => ?_, fun j hj => ?_, ?_, fun j hj => sB_mono (hb2 j hj) (by omega)⟩
    · rw [g1 _ (by omega) (by omega) (by omega), e1]
      exact R1.keep (fun z z1 z2 => g1 z (by omega) (by omega) (by omega)) rfl
    · rw [g2 3 (by decide)]; exact e3
    · rw [g2 5 (by decide)]; exact e5
    · rw [g1 _ (by omega) (by omega) (by omega), f1 _ (by omega)]; exact hpa i2 hi2 k2 hk2
    · rw [g1 _ (by omega) (by omega) (by omega), f1 _ (by omega)]; exact htx j hj
    · rw [g1 _ (by omega) (by omega) (by omega), e1]; exact sB_mono hb1 (by omega)
  refine jx_lcmp (pc := 1695) C dL_law_1695 ?_
  refine jx_if_eq (pc := 1696) C (tgt := 1701) dL_law_1696 (by decide) (fun c1696 => ?_) (fun c1696 => (by exfalso; exact c1696 (lg_eq _)))
  exact jx_roomy (by omega) (by omega) (jx_forget jl_59 (hx _ _ _ inv2))
