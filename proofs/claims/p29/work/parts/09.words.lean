section JWORDS
theorem kf_X5_10 : jfOK RX5 10 5 0 := ⟨by decide, by decide, jWS_in 199 (by decide +kernel) rfl⟩
theorem kf_X5_16 : jfOK RX5 16 5 1 := ⟨by decide, by decide, jWS_in 200 (by decide +kernel) rfl⟩
theorem kf_X5_19 : jfOK RX5 19 5 2 := ⟨by decide, by decide, jWS_in 201 (by decide +kernel) rfl⟩
theorem kf_X5_23 : jfOK RX5 23 5 3 := ⟨by decide, by decide, jWS_in 202 (by decide +kernel) rfl⟩
theorem kf_X5_30 : jfOK RX5 30 5 4 := ⟨by decide, by decide, jWS_in 203 (by decide +kernel) rfl⟩
theorem kf_X5_34 : jfOK RX5 34 5 5 := ⟨by decide, by decide, jWS_in 204 (by decide +kernel) rfl⟩
theorem kf_X5_59 : jfOK RX5 59 0 0 := ⟨by decide, by decide, jWS_in 137 (by decide +kernel) rfl⟩
theorem kf_X5_63 : jfOK RX5 63 3 1 := ⟨by decide, by decide, jWS_in 65 (by decide +kernel) rfl⟩
theorem kf_X5_69 : jfOK RX5 69 3 2 := ⟨by decide, by decide, jWS_in 67 (by decide +kernel) rfl⟩
theorem kf_X5_72 : jfOK RX5 72 3 3 := ⟨by decide, by decide, jWS_in 70 (by decide +kernel) rfl⟩
theorem kf_X5_79 : jfOK RX5 79 3 0 := ⟨by decide, by decide, jWS_in 62 (by decide +kernel) rfl⟩
theorem kf_X5_100 : jfOK RX5 100 0 2 := ⟨by decide, by decide, jWS_in 140 (by decide +kernel) rfl⟩
theorem kf_X5_110 : jfOK RX5 110 0 5 := ⟨by decide, by decide, jWS_in 145 (by decide +kernel) rfl⟩
theorem kf_X5_125 : jfOK RX5 125 1 7 := ⟨by decide, by decide, jWS_in 117 (by decide +kernel) rfl⟩
theorem kf_X5_141 : jfOK RX5 141 0 3 := ⟨by decide, by decide, jWS_in 142 (by decide +kernel) rfl⟩
theorem kf_X5_146 : jfOK RX5 146 0 7 := ⟨by decide, by decide, jWS_in 148 (by decide +kernel) rfl⟩
theorem kf_X5_151 : jfOK RX5 151 0 8 := ⟨by decide, by decide, jWS_in 150 (by decide +kernel) rfl⟩
theorem kf_X5_180 : jfOK RX5 180 5 6 := ⟨by decide, by decide, jWS_in 205 (by decide +kernel) rfl⟩
theorem kf_X5_204 : jfOK RX5 204 1 0 := ⟨by decide, by decide, jWS_in 103 (by decide +kernel) rfl⟩
theorem kf_X0_11 : jfOK RX0 11 0 0 := ⟨by decide, by decide, jWS_in 136 (by decide +kernel) rfl⟩
theorem kf_X0_19 : jfOK RX0 19 0 1 := ⟨by decide, by decide, jWS_in 138 (by decide +kernel) rfl⟩
theorem kf_X0_26 : jfOK RX0 26 0 2 := ⟨by decide, by decide, jWS_in 139 (by decide +kernel) rfl⟩
theorem kf_X0_30 : jfOK RX0 30 0 3 := ⟨by decide, by decide, jWS_in 141 (by decide +kernel) rfl⟩
theorem kf_X0_34 : jfOK RX0 34 0 4 := ⟨by decide, by decide, jWS_in 143 (by decide +kernel) rfl⟩
theorem kf_X0_49 : jfOK RX0 49 0 5 := ⟨by decide, by decide, jWS_in 144 (by decide +kernel) rfl⟩
theorem kf_X0_53 : jfOK RX0 53 0 6 := ⟨by decide, by decide, jWS_in 146 (by decide +kernel) rfl⟩
theorem kf_X0_56 : jfOK RX0 56 0 7 := ⟨by decide, by decide, jWS_in 147 (by decide +kernel) rfl⟩
theorem kf_X0_59 : jfOK RX0 59 0 8 := ⟨by decide, by decide, jWS_in 149 (by decide +kernel) rfl⟩
theorem kf_X0_62 : jfOK RX0 62 0 9 := ⟨by decide, by decide, jWS_in 151 (by decide +kernel) rfl⟩
theorem kf_X0_65 : jfOK RX0 65 0 10 := ⟨by decide, by decide, jWS_in 152 (by decide +kernel) rfl⟩
theorem kf_X0_68 : jfOK RX0 68 0 11 := ⟨by decide, by decide, jWS_in 153 (by decide +kernel) rfl⟩
theorem kf_X0_71 : jfOK RX0 71 0 12 := ⟨by decide, by decide, jWS_in 154 (by decide +kernel) rfl⟩
theorem kf_X0_74 : jfOK RX0 74 1 1 := ⟨by decide, by decide, jWS_in 105 (by decide +kernel) rfl⟩
theorem kf_X0_89 : jfOK RX0 89 1 6 := ⟨by decide, by decide, jWS_in 115 (by decide +kernel) rfl⟩
theorem kf_X0_92 : jfOK RX0 92 1 3 := ⟨by decide, by decide, jWS_in 109 (by decide +kernel) rfl⟩
theorem kf_X0_95 : jfOK RX0 95 1 5 := ⟨by decide, by decide, jWS_in 113 (by decide +kernel) rfl⟩
theorem kf_X0_98 : jfOK RX0 98 3 1 := ⟨by decide, by decide, jWS_in 66 (by decide +kernel) rfl⟩
theorem kf_X0_119 : jfOK RX0 119 3 0 := ⟨by decide, by decide, jWS_in 63 (by decide +kernel) rfl⟩
theorem kf_X0_122 : jfOK RX0 122 1 2 := ⟨by decide, by decide, jWS_in 107 (by decide +kernel) rfl⟩
theorem kf_X0_140 : jfOK RX0 140 3 2 := ⟨by decide, by decide, jWS_in 69 (by decide +kernel) rfl⟩
theorem kf_X0_188 : jfOK RX0 188 1 4 := ⟨by decide, by decide, jWS_in 111 (by decide +kernel) rfl⟩
theorem kf_X0_191 : jfOK RX0 191 1 7 := ⟨by decide, by decide, jWS_in 118 (by decide +kernel) rfl⟩
theorem kf_X0_194 : jfOK RX0 194 3 5 := ⟨by decide, by decide, jWS_in 74 (by decide +kernel) rfl⟩
theorem kf_X1_9 : jfOK RX1 9 1 0 := ⟨by decide, by decide, jWS_in 102 (by decide +kernel) rfl⟩
theorem kf_X1_15 : jfOK RX1 15 1 1 := ⟨by decide, by decide, jWS_in 104 (by decide +kernel) rfl⟩
theorem kf_X1_19 : jfOK RX1 19 1 2 := ⟨by decide, by decide, jWS_in 106 (by decide +kernel) rfl⟩
theorem kf_X1_22 : jfOK RX1 22 1 3 := ⟨by decide, by decide, jWS_in 108 (by decide +kernel) rfl⟩
theorem kf_X1_25 : jfOK RX1 25 1 4 := ⟨by decide, by decide, jWS_in 110 (by decide +kernel) rfl⟩
theorem kf_X1_28 : jfOK RX1 28 1 5 := ⟨by decide, by decide, jWS_in 112 (by decide +kernel) rfl⟩
theorem kf_X1_31 : jfOK RX1 31 1 6 := ⟨by decide, by decide, jWS_in 114 (by decide +kernel) rfl⟩
theorem kf_X1_34 : jfOK RX1 34 1 7 := ⟨by decide, by decide, jWS_in 116 (by decide +kernel) rfl⟩
theorem kf_X2_9 : jfOK RX2 9 2 0 := ⟨by decide, by decide, jWS_in 189 (by decide +kernel) rfl⟩
theorem kf_X3_12 : jfOK RX3 12 3 0 := ⟨by decide, by decide, jWS_in 61 (by decide +kernel) rfl⟩
theorem kf_X3_18 : jfOK RX3 18 3 1 := ⟨by decide, by decide, jWS_in 64 (by decide +kernel) rfl⟩
theorem kf_X3_22 : jfOK RX3 22 3 4 := ⟨by decide, by decide, jWS_in 72 (by decide +kernel) rfl⟩
theorem kf_X3_25 : jfOK RX3 25 3 8 := ⟨by decide, by decide, jWS_in 77 (by decide +kernel) rfl⟩
theorem kf_X3_28 : jfOK RX3 28 3 6 := ⟨by decide, by decide, jWS_in 75 (by decide +kernel) rfl⟩
theorem kf_X3_31 : jfOK RX3 31 3 3 := ⟨by decide, by decide, jWS_in 71 (by decide +kernel) rfl⟩
theorem kf_X3_34 : jfOK RX3 34 3 7 := ⟨by decide, by decide, jWS_in 76 (by decide +kernel) rfl⟩
theorem kf_X3_43 : jfOK RX3 43 3 5 := ⟨by decide, by decide, jWS_in 73 (by decide +kernel) rfl⟩
theorem kf_X3_46 : jfOK RX3 46 3 2 := ⟨by decide, by decide, jWS_in 68 (by decide +kernel) rfl⟩
theorem kf_X4_9 : jfOK RX4 9 4 0 := ⟨by decide, by decide, jWS_in 49 (by decide +kernel) rfl⟩
theorem ky_X0_init : jyOK yX0_init 0 := by refine ⟨?_, ?_, ?_⟩ <;> decide +kernel
theorem kc_X0_init : Cond.code yX0_init cX0_init 2 none ∈ jWS := jWS_in 37 (by decide +kernel) rfl
theorem kn_X0_init : Cond.instanceMethod yX0_init ∈ jWS := jWS_in 36 (by decide +kernel) rfl
theorem ki_X0_init : Cond.initialized yX0_init.cls ∈ jWS := jWS_in 13 (by decide +kernel) rfl
theorem go_X5_9 {p : Program} {l : Launch} {e : Env} {R : Room} {s : State} {m : MethodId} {args : Array Value} {below : List Frame} {meth : Method} {c : Code} {D : va_G} {cA : Nat → ClassId} {N0 : Nat} {cc : ByteArray} {nL : Nat} {lv : Nat} {Sh : jS} {pc : Nat} (C : jC p R s m args meth c D cA N0 cc nL RX5 lv) {b : Nat} {rest : List Value} (hcat : (rest.map fun v => v.category).sum ≤ 8) (d : decode cc pc = .ok (.invokespecial 9, 3)) : jGo p l e R s m args below meth c D cA N0 nL Sh yX0_init cX0_init 2 none pc (.ref b :: []) rest (.ref b :: rest) := jgo_I (As := []) C ky_X0_init rfl kc_X0_init (jWS_in 35 (by decide +kernel) rfl) kn_X0_init ki_X0_init rfl hcat d
theorem ky_X2_init : jyOK yX2_init 0 := by refine ⟨?_, ?_, ?_⟩ <;> decide +kernel
theorem kc_X2_init : Cond.code yX2_init cX2_init 1 none ∈ jWS := jWS_in 187 (by decide +kernel) rfl
theorem kn_X2_init : Cond.instanceMethod yX2_init ∈ jWS := jWS_in 186 (by decide +kernel) rfl
theorem ki_X2_init : Cond.initialized yX2_init.cls ∈ jWS := jWS_in 17 (by decide +kernel) rfl
theorem go_X5_29 {p : Program} {l : Launch} {e : Env} {R : Room} {s : State} {m : MethodId} {args : Array Value} {below : List Frame} {meth : Method} {c : Code} {D : va_G} {cA : Nat → ClassId} {N0 : Nat} {cc : ByteArray} {nL : Nat} {lv : Nat} {Sh : jS} {pc : Nat} (C : jC p R s m args meth c D cA N0 cc nL RX5 lv) {b : Nat} {rest : List Value} (hcat : (rest.map fun v => v.category).sum ≤ 8) (d : decode cc pc = .ok (.invokespecial 29, 3)) : jGo p l e R s m args below meth c D cA N0 nL Sh yX2_init cX2_init 1 none pc (.ref b :: []) rest (.ref b :: rest) := jgo_IN (host := RX5) (As := []) C ky_X2_init rfl kc_X2_init (by decide +kernel) kn_X2_init ki_X2_init rfl hcat d
theorem ky_X5_isWithin : jyOK yX5_isWithin 3 := by refine ⟨?_, ?_, ?_⟩ <;> decide +kernel
theorem kc_X5_isWithin : Cond.code yX5_isWithin cX5_isWithin 3 (some .boolean) ∈ jWS := jWS_in 229 (by decide +kernel) rfl
theorem ks_X5_isWithin : Cond.static yX5_isWithin ∈ jWS := jWS_in 228 (by decide +kernel) rfl
theorem ki_X5_isWithin : Cond.initialized yX5_isWithin.cls ∈ jWS := jWS_in 12 (by decide +kernel) rfl
theorem go_X5_37 {p : Program} {l : Launch} {e : Env} {R : Room} {s : State} {m : MethodId} {args : Array Value} {below : List Frame} {meth : Method} {c : Code} {D : va_G} {cA : Nat → ClassId} {N0 : Nat} {cc : ByteArray} {nL : Nat} {lv : Nat} {Sh : jS} {pc : Nat} (C : jC p R s m args meth c D cA N0 cc nL RX5 lv) {a0 a1 a2 : Value} {rest : List Value} (hcat : (rest.map fun v => v.category).sum ≤ 8) (d : decode cc pc = .ok (.invokestatic 37, 3)) : jGo p l e R s m args below meth c D cA N0 nL Sh yX5_isWithin cX5_isWithin 3 (some .boolean) pc [a0, a1, a2] rest (a2 :: a1 :: a0 :: rest) := jgo_S (As := [a0, a1, a2]) C ky_X5_isWithin kc_X5_isWithin (jWS_in 227 (by decide +kernel) rfl) ks_X5_isWithin ki_X5_isWithin rfl hcat d
theorem ky_X5_isLoom : jyOK yX5_isLoom 3 := by refine ⟨?_, ?_, ?_⟩ <;> decide +kernel
theorem kc_X5_isLoom : Cond.code yX5_isLoom cX5_isLoom 3 (some .boolean) ∈ jWS := jWS_in 472 (by decide +kernel) rfl
theorem ks_X5_isLoom : Cond.static yX5_isLoom ∈ jWS := jWS_in 471 (by decide +kernel) rfl
theorem ki_X5_isLoom : Cond.initialized yX5_isLoom.cls ∈ jWS := jWS_in 12 (by decide +kernel) rfl
theorem go_X5_48 {p : Program} {l : Launch} {e : Env} {R : Room} {s : State} {m : MethodId} {args : Array Value} {below : List Frame} {meth : Method} {c : Code} {D : va_G} {cA : Nat → ClassId} {N0 : Nat} {cc : ByteArray} {nL : Nat} {lv : Nat} {Sh : jS} {pc : Nat} (C : jC p R s m args meth c D cA N0 cc nL RX5 lv) {a0 a1 a2 : Value} {rest : List Value} (hcat : (rest.map fun v => v.category).sum ≤ 8) (d : decode cc pc = .ok (.invokestatic 48, 3)) : jGo p l e R s m args below meth c D cA N0 nL Sh yX5_isLoom cX5_isLoom 3 (some .boolean) pc [a0, a1, a2] rest (a2 :: a1 :: a0 :: rest) := jgo_S (As := [a0, a1, a2]) C ky_X5_isLoom kc_X5_isLoom (jWS_in 470 (by decide +kernel) rfl) ks_X5_isLoom ki_X5_isLoom rfl hcat d
theorem ky_X5_saveState : jyOK yX5_saveState 0 := by refine ⟨?_, ?_, ?_⟩ <;> decide +kernel
theorem kc_X5_saveState : Cond.code yX5_saveState cX5_saveState 1 none ∈ jWS := jWS_in 477 (by decide +kernel) rfl
theorem kn_X5_saveState : Cond.instanceMethod yX5_saveState ∈ jWS := jWS_in 476 (by decide +kernel) rfl
theorem ki_X5_saveState : Cond.initialized yX5_saveState.cls ∈ jWS := jWS_in 12 (by decide +kernel) rfl
theorem kl_X5_saveState : Cond.selects yX5_saveState.cls yX5_saveState yX5_saveState ∈ jWS := jWS_in 6 (by decide +kernel) rfl
theorem go_X5_56 {p : Program} {l : Launch} {e : Env} {R : Room} {s : State} {m : MethodId} {args : Array Value} {below : List Frame} {meth : Method} {c : Code} {D : va_G} {cA : Nat → ClassId} {N0 : Nat} {cc : ByteArray} {nL : Nat} {lv : Nat} {Sh : jS} {pc : Nat} (C : jC p R s m args meth c D cA N0 cc nL RX5 lv) {b n0 : Nat} {rest : List Value} (hsh : Sh b = some (5, n0)) (hcat : (rest.map fun v => v.category).sum ≤ 8) (d : decode cc pc = .ok (.invokevirtual 56, 3)) : jGo p l e R s m args below meth c D cA N0 nL Sh yX5_saveState cX5_saveState 1 none pc (.ref b :: []) rest (.ref b :: rest) := jgo_V (As := []) C ky_X5_saveState (by decide) rfl kc_X5_saveState (jWS_in 474 (by decide +kernel) rfl) kn_X5_saveState kl_X5_saveState ki_X5_saveState hsh rfl hcat d
theorem ky_X4_of : jyOK yX4_of 1 := by refine ⟨?_, ?_, ?_⟩ <;> decide +kernel
theorem kc_X4_of : Cond.code yX4_of cX4_of 2 (some .int) ∈ jWS := jWS_in 352 (by decide +kernel) rfl
theorem kn_X4_of : Cond.instanceMethod yX4_of ∈ jWS := jWS_in 350 (by decide +kernel) rfl
theorem ki_X4_of : Cond.initialized yX4_of.cls ∈ jWS := jWS_in 14 (by decide +kernel) rfl
theorem kl_X4_of : Cond.selects yX4_of.cls yX4_of yX4_of ∈ jWS := jWS_in 351 (by decide +kernel) rfl
theorem go_X5_83 {p : Program} {l : Launch} {e : Env} {R : Room} {s : State} {m : MethodId} {args : Array Value} {below : List Frame} {meth : Method} {c : Code} {D : va_G} {cA : Nat → ClassId} {N0 : Nat} {cc : ByteArray} {nL : Nat} {lv : Nat} {Sh : jS} {pc : Nat} (C : jC p R s m args meth c D cA N0 cc nL RX5 lv) {b n0 : Nat} {a0 : Value} {rest : List Value} (hsh : Sh b = some (4, n0)) (hcat : (rest.map fun v => v.category).sum ≤ 8) (d : decode cc pc = .ok (.invokevirtual 83, 3)) : jGo p l e R s m args below meth c D cA N0 nL Sh yX4_of cX4_of 2 (some .int) pc (.ref b :: [a0]) rest (a0 :: .ref b :: rest) := jgo_V (As := [a0]) C ky_X4_of (by decide) rfl kc_X4_of (jWS_in 349 (by decide +kernel) rfl) kn_X4_of kl_X4_of ki_X4_of hsh rfl hcat d
theorem ky_X4_add : jyOK yX4_add 2 := by refine ⟨?_, ?_, ?_⟩ <;> decide +kernel
theorem kc_X4_add : Cond.code yX4_add cX4_add 3 (some .int) ∈ jWS := jWS_in 545 (by decide +kernel) rfl
theorem kn_X4_add : Cond.instanceMethod yX4_add ∈ jWS := jWS_in 543 (by decide +kernel) rfl
theorem ki_X4_add : Cond.initialized yX4_add.cls ∈ jWS := jWS_in 14 (by decide +kernel) rfl
theorem kl_X4_add : Cond.selects yX4_add.cls yX4_add yX4_add ∈ jWS := jWS_in 544 (by decide +kernel) rfl
theorem go_X5_94 {p : Program} {l : Launch} {e : Env} {R : Room} {s : State} {m : MethodId} {args : Array Value} {below : List Frame} {meth : Method} {c : Code} {D : va_G} {cA : Nat → ClassId} {N0 : Nat} {cc : ByteArray} {nL : Nat} {lv : Nat} {Sh : jS} {pc : Nat} (C : jC p R s m args meth c D cA N0 cc nL RX5 lv) {b n0 : Nat} {a0 a1 : Value} {rest : List Value} (hsh : Sh b = some (4, n0)) (hcat : (rest.map fun v => v.category).sum ≤ 8) (d : decode cc pc = .ok (.invokevirtual 94, 3)) : jGo p l e R s m args below meth c D cA N0 nL Sh yX4_add cX4_add 3 (some .int) pc (.ref b :: [a0, a1]) rest (a1 :: a0 :: .ref b :: rest) := jgo_V (As := [a0, a1]) C ky_X4_add (by decide) rfl kc_X4_add (jWS_in 542 (by decide +kernel) rfl) kn_X4_add kl_X4_add ki_X4_add hsh rfl hcat d
theorem ky_X0_take : jyOK yX0_take 5 := by refine ⟨?_, ?_, ?_⟩ <;> decide +kernel
theorem kc_X0_take : Cond.code yX0_take cX0_take 8 (some .int) ∈ jWS := jWS_in 528 (by decide +kernel) rfl
theorem kn_X0_take : Cond.instanceMethod yX0_take ∈ jWS := jWS_in 526 (by decide +kernel) rfl
theorem ki_X0_take : Cond.initialized yX0_take.cls ∈ jWS := jWS_in 13 (by decide +kernel) rfl
theorem kl_X0_take : Cond.selects yX0_take.cls yX0_take yX0_take ∈ jWS := jWS_in 527 (by decide +kernel) rfl
theorem go_X5_115 {p : Program} {l : Launch} {e : Env} {R : Room} {s : State} {m : MethodId} {args : Array Value} {below : List Frame} {meth : Method} {c : Code} {D : va_G} {cA : Nat → ClassId} {N0 : Nat} {cc : ByteArray} {nL : Nat} {lv : Nat} {Sh : jS} {pc : Nat} (C : jC p R s m args meth c D cA N0 cc nL RX5 lv) {b n0 : Nat} {a0 a1 a2 a3 a4 : Value} {rest : List Value} (hsh : Sh b = some (0, n0)) (hcat : (rest.map fun v => v.category).sum ≤ 8) (d : decode cc pc = .ok (.invokevirtual 115, 3)) : jGo p l e R s m args below meth c D cA N0 nL Sh yX0_take cX0_take 8 (some .int) pc (.ref b :: [a0, a1, a2, a3, a4]) rest (a4 :: a3 :: a2 :: a1 :: a0 :: .ref b :: rest) := jgo_V (As := [a0, a1, a2, a3, a4]) C ky_X0_take (by decide) rfl kc_X0_take (jWS_in 525 (by decide +kernel) rfl) kn_X0_take kl_X0_take ki_X0_take hsh rfl hcat d
theorem ky_X0_find : jyOK yX0_find 1 := by refine ⟨?_, ?_, ?_⟩ <;> decide +kernel
theorem kc_X0_find : Cond.code yX0_find cX0_find 2 (some (.object "WeaveShares$Order")) ∈ jWS := jWS_in 440 (by decide +kernel) rfl
theorem kn_X0_find : Cond.instanceMethod yX0_find ∈ jWS := jWS_in 438 (by decide +kernel) rfl
theorem ki_X0_find : Cond.initialized yX0_find.cls ∈ jWS := jWS_in 13 (by decide +kernel) rfl
theorem kl_X0_find : Cond.selects yX0_find.cls yX0_find yX0_find ∈ jWS := jWS_in 439 (by decide +kernel) rfl
theorem go_X5_119 {p : Program} {l : Launch} {e : Env} {R : Room} {s : State} {m : MethodId} {args : Array Value} {below : List Frame} {meth : Method} {c : Code} {D : va_G} {cA : Nat → ClassId} {N0 : Nat} {cc : ByteArray} {nL : Nat} {lv : Nat} {Sh : jS} {pc : Nat} (C : jC p R s m args meth c D cA N0 cc nL RX5 lv) {b n0 : Nat} {a0 : Value} {rest : List Value} (hsh : Sh b = some (0, n0)) (hcat : (rest.map fun v => v.category).sum ≤ 8) (d : decode cc pc = .ok (.invokevirtual 119, 3)) : jGo p l e R s m args below meth c D cA N0 nL Sh yX0_find cX0_find 2 (some (.object "WeaveShares$Order")) pc (.ref b :: [a0]) rest (a0 :: .ref b :: rest) := jgo_V (As := [a0]) C ky_X0_find (by decide) rfl kc_X0_find (jWS_in 437 (by decide +kernel) rfl) kn_X0_find kl_X0_find ki_X0_find hsh rfl hcat d
theorem ky_X0_dismiss : jyOK yX0_dismiss 1 := by refine ⟨?_, ?_, ?_⟩ <;> decide +kernel
theorem kc_X0_dismiss : Cond.code yX0_dismiss cX0_dismiss 3 none ∈ jWS := jWS_in 569 (by decide +kernel) rfl
theorem kn_X0_dismiss : Cond.instanceMethod yX0_dismiss ∈ jWS := jWS_in 567 (by decide +kernel) rfl
theorem ki_X0_dismiss : Cond.initialized yX0_dismiss.cls ∈ jWS := jWS_in 13 (by decide +kernel) rfl
theorem kl_X0_dismiss : Cond.selects yX0_dismiss.cls yX0_dismiss yX0_dismiss ∈ jWS := jWS_in 568 (by decide +kernel) rfl
theorem go_X5_130 {p : Program} {l : Launch} {e : Env} {R : Room} {s : State} {m : MethodId} {args : Array Value} {below : List Frame} {meth : Method} {c : Code} {D : va_G} {cA : Nat → ClassId} {N0 : Nat} {cc : ByteArray} {nL : Nat} {lv : Nat} {Sh : jS} {pc : Nat} (C : jC p R s m args meth c D cA N0 cc nL RX5 lv) {b n0 : Nat} {a0 : Value} {rest : List Value} (hsh : Sh b = some (0, n0)) (hcat : (rest.map fun v => v.category).sum ≤ 8) (d : decode cc pc = .ok (.invokevirtual 130, 3)) : jGo p l e R s m args below meth c D cA N0 nL Sh yX0_dismiss cX0_dismiss 3 none pc (.ref b :: [a0]) rest (a0 :: .ref b :: rest) := jgo_V (As := [a0]) C ky_X0_dismiss (by decide) rfl kc_X0_dismiss (jWS_in 566 (by decide +kernel) rfl) kn_X0_dismiss kl_X0_dismiss ki_X0_dismiss hsh rfl hcat d
theorem ky_X0_passHour : jyOK yX0_passHour 0 := by refine ⟨?_, ?_, ?_⟩ <;> decide +kernel
theorem kc_X0_passHour : Cond.code yX0_passHour cX0_passHour 4 (some .int) ∈ jWS := jWS_in 595 (by decide +kernel) rfl
theorem kn_X0_passHour : Cond.instanceMethod yX0_passHour ∈ jWS := jWS_in 593 (by decide +kernel) rfl
theorem ki_X0_passHour : Cond.initialized yX0_passHour.cls ∈ jWS := jWS_in 13 (by decide +kernel) rfl
theorem kl_X0_passHour : Cond.selects yX0_passHour.cls yX0_passHour yX0_passHour ∈ jWS := jWS_in 594 (by decide +kernel) rfl
theorem go_X5_154 {p : Program} {l : Launch} {e : Env} {R : Room} {s : State} {m : MethodId} {args : Array Value} {below : List Frame} {meth : Method} {c : Code} {D : va_G} {cA : Nat → ClassId} {N0 : Nat} {cc : ByteArray} {nL : Nat} {lv : Nat} {Sh : jS} {pc : Nat} (C : jC p R s m args meth c D cA N0 cc nL RX5 lv) {b n0 : Nat} {rest : List Value} (hsh : Sh b = some (0, n0)) (hcat : (rest.map fun v => v.category).sum ≤ 8) (d : decode cc pc = .ok (.invokevirtual 154, 3)) : jGo p l e R s m args below meth c D cA N0 nL Sh yX0_passHour cX0_passHour 4 (some .int) pc (.ref b :: []) rest (.ref b :: rest) := jgo_V (As := []) C ky_X0_passHour (by decide) rfl kc_X0_passHour (jWS_in 592 (by decide +kernel) rfl) kn_X0_passHour kl_X0_passHour ki_X0_passHour hsh rfl hcat d
theorem ky_X0_copyFrom : jyOK yX0_copyFrom 1 := by refine ⟨?_, ?_, ?_⟩ <;> decide +kernel
theorem kc_X0_copyFrom : Cond.code yX0_copyFrom cX0_copyFrom 3 none ∈ jWS := jWS_in 485 (by decide +kernel) rfl
theorem kn_X0_copyFrom : Cond.instanceMethod yX0_copyFrom ∈ jWS := jWS_in 483 (by decide +kernel) rfl
theorem ki_X0_copyFrom : Cond.initialized yX0_copyFrom.cls ∈ jWS := jWS_in 13 (by decide +kernel) rfl
theorem kl_X0_copyFrom : Cond.selects yX0_copyFrom.cls yX0_copyFrom yX0_copyFrom ∈ jWS := jWS_in 484 (by decide +kernel) rfl
theorem go_X5_185 {p : Program} {l : Launch} {e : Env} {R : Room} {s : State} {m : MethodId} {args : Array Value} {below : List Frame} {meth : Method} {c : Code} {D : va_G} {cA : Nat → ClassId} {N0 : Nat} {cc : ByteArray} {nL : Nat} {lv : Nat} {Sh : jS} {pc : Nat} (C : jC p R s m args meth c D cA N0 cc nL RX5 lv) {b n0 : Nat} {a0 : Value} {rest : List Value} (hsh : Sh b = some (0, n0)) (hcat : (rest.map fun v => v.category).sum ≤ 8) (d : decode cc pc = .ok (.invokevirtual 185, 3)) : jGo p l e R s m args below meth c D cA N0 nL Sh yX0_copyFrom cX0_copyFrom 3 none pc (.ref b :: [a0]) rest (a0 :: .ref b :: rest) := jgo_V (As := [a0]) C ky_X0_copyFrom (by decide) rfl kc_X0_copyFrom (jWS_in 482 (by decide +kernel) rfl) kn_X0_copyFrom kl_X0_copyFrom ki_X0_copyFrom hsh rfl hcat d
theorem ky_X3_property : jyOK yX3_property 1 := by refine ⟨?_, ?_, ?_⟩ <;> decide +kernel
theorem kc_X3_property : Cond.code yX3_property cX3_property 2 (some .int) ∈ jWS := jWS_in 313 (by decide +kernel) rfl
theorem kn_X3_property : Cond.instanceMethod yX3_property ∈ jWS := jWS_in 311 (by decide +kernel) rfl
theorem ki_X3_property : Cond.initialized yX3_property.cls ∈ jWS := jWS_in 15 (by decide +kernel) rfl
theorem kl_X3_property : Cond.selects yX3_property.cls yX3_property yX3_property ∈ jWS := jWS_in 312 (by decide +kernel) rfl
theorem go_X5_191 {p : Program} {l : Launch} {e : Env} {R : Room} {s : State} {m : MethodId} {args : Array Value} {below : List Frame} {meth : Method} {c : Code} {D : va_G} {cA : Nat → ClassId} {N0 : Nat} {cc : ByteArray} {nL : Nat} {lv : Nat} {Sh : jS} {pc : Nat} (C : jC p R s m args meth c D cA N0 cc nL RX5 lv) {b n0 : Nat} {a0 : Value} {rest : List Value} (hsh : Sh b = some (3, n0)) (hcat : (rest.map fun v => v.category).sum ≤ 8) (d : decode cc pc = .ok (.invokevirtual 191, 3)) : jGo p l e R s m args below meth c D cA N0 nL Sh yX3_property cX3_property 2 (some .int) pc (.ref b :: [a0]) rest (a0 :: .ref b :: rest) := jgo_V (As := [a0]) C ky_X3_property (by decide) rfl kc_X3_property (jWS_in 396 (by decide +kernel) rfl) kn_X3_property kl_X3_property ki_X3_property hsh rfl hcat d
theorem ky_X0_orderProperty : jyOK yX0_orderProperty 2 := by refine ⟨?_, ?_, ?_⟩ <;> decide +kernel
theorem kc_X0_orderProperty : Cond.code yX0_orderProperty cX0_orderProperty 4 (some .int) ∈ jWS := jWS_in 408 (by decide +kernel) rfl
theorem kn_X0_orderProperty : Cond.instanceMethod yX0_orderProperty ∈ jWS := jWS_in 406 (by decide +kernel) rfl
theorem ki_X0_orderProperty : Cond.initialized yX0_orderProperty.cls ∈ jWS := jWS_in 13 (by decide +kernel) rfl
theorem kl_X0_orderProperty : Cond.selects yX0_orderProperty.cls yX0_orderProperty yX0_orderProperty ∈ jWS := jWS_in 407 (by decide +kernel) rfl
theorem go_X5_196 {p : Program} {l : Launch} {e : Env} {R : Room} {s : State} {m : MethodId} {args : Array Value} {below : List Frame} {meth : Method} {c : Code} {D : va_G} {cA : Nat → ClassId} {N0 : Nat} {cc : ByteArray} {nL : Nat} {lv : Nat} {Sh : jS} {pc : Nat} (C : jC p R s m args meth c D cA N0 cc nL RX5 lv) {b n0 : Nat} {a0 a1 : Value} {rest : List Value} (hsh : Sh b = some (0, n0)) (hcat : (rest.map fun v => v.category).sum ≤ 8) (d : decode cc pc = .ok (.invokevirtual 196, 3)) : jGo p l e R s m args below meth c D cA N0 nL Sh yX0_orderProperty cX0_orderProperty 4 (some .int) pc (.ref b :: [a0, a1]) rest (a1 :: a0 :: .ref b :: rest) := jgo_V (As := [a0, a1]) C ky_X0_orderProperty (by decide) rfl kc_X0_orderProperty (jWS_in 405 (by decide +kernel) rfl) kn_X0_orderProperty kl_X0_orderProperty ki_X0_orderProperty hsh rfl hcat d
theorem ky_X0_orderAt : jyOK yX0_orderAt 1 := by refine ⟨?_, ?_, ?_⟩ <;> decide +kernel
theorem kc_X0_orderAt : Cond.code yX0_orderAt cX0_orderAt 3 (some (.object "WeaveShares$Order")) ∈ jWS := jWS_in 412 (by decide +kernel) rfl
theorem kn_X0_orderAt : Cond.instanceMethod yX0_orderAt ∈ jWS := jWS_in 410 (by decide +kernel) rfl
theorem ki_X0_orderAt : Cond.initialized yX0_orderAt.cls ∈ jWS := jWS_in 13 (by decide +kernel) rfl
theorem kl_X0_orderAt : Cond.selects yX0_orderAt.cls yX0_orderAt yX0_orderAt ∈ jWS := jWS_in 411 (by decide +kernel) rfl
theorem go_X5_201 {p : Program} {l : Launch} {e : Env} {R : Room} {s : State} {m : MethodId} {args : Array Value} {below : List Frame} {meth : Method} {c : Code} {D : va_G} {cA : Nat → ClassId} {N0 : Nat} {cc : ByteArray} {nL : Nat} {lv : Nat} {Sh : jS} {pc : Nat} (C : jC p R s m args meth c D cA N0 cc nL RX5 lv) {b n0 : Nat} {a0 : Value} {rest : List Value} (hsh : Sh b = some (0, n0)) (hcat : (rest.map fun v => v.category).sum ≤ 8) (d : decode cc pc = .ok (.invokevirtual 201, 3)) : jGo p l e R s m args below meth c D cA N0 nL Sh yX0_orderAt cX0_orderAt 3 (some (.object "WeaveShares$Order")) pc (.ref b :: [a0]) rest (a0 :: .ref b :: rest) := jgo_V (As := [a0]) C ky_X0_orderAt (by decide) rfl kc_X0_orderAt (jWS_in 432 (by decide +kernel) rfl) kn_X0_orderAt kl_X0_orderAt ki_X0_orderAt hsh rfl hcat d
theorem ky_X0_chosenNumber : jyOK yX0_chosenNumber 1 := by refine ⟨?_, ?_, ?_⟩ <;> decide +kernel
theorem kc_X0_chosenNumber : Cond.code yX0_chosenNumber cX0_chosenNumber 3 (some .int) ∈ jWS := jWS_in 365 (by decide +kernel) rfl
theorem kn_X0_chosenNumber : Cond.instanceMethod yX0_chosenNumber ∈ jWS := jWS_in 363 (by decide +kernel) rfl
theorem ki_X0_chosenNumber : Cond.initialized yX0_chosenNumber.cls ∈ jWS := jWS_in 13 (by decide +kernel) rfl
theorem kl_X0_chosenNumber : Cond.selects yX0_chosenNumber.cls yX0_chosenNumber yX0_chosenNumber ∈ jWS := jWS_in 364 (by decide +kernel) rfl
theorem go_X5_209 {p : Program} {l : Launch} {e : Env} {R : Room} {s : State} {m : MethodId} {args : Array Value} {below : List Frame} {meth : Method} {c : Code} {D : va_G} {cA : Nat → ClassId} {N0 : Nat} {cc : ByteArray} {nL : Nat} {lv : Nat} {Sh : jS} {pc : Nat} (C : jC p R s m args meth c D cA N0 cc nL RX5 lv) {b n0 : Nat} {a0 : Value} {rest : List Value} (hsh : Sh b = some (0, n0)) (hcat : (rest.map fun v => v.category).sum ≤ 8) (d : decode cc pc = .ok (.invokevirtual 209, 3)) : jGo p l e R s m args below meth c D cA N0 nL Sh yX0_chosenNumber cX0_chosenNumber 3 (some .int) pc (.ref b :: [a0]) rest (a0 :: .ref b :: rest) := jgo_V (As := [a0]) C ky_X0_chosenNumber (by decide) rfl kc_X0_chosenNumber (jWS_in 362 (by decide +kernel) rfl) kn_X0_chosenNumber kl_X0_chosenNumber ki_X0_chosenNumber hsh rfl hcat d
theorem ky_X0_hindrance : jyOK yX0_hindrance 1 := by refine ⟨?_, ?_, ?_⟩ <;> decide +kernel
theorem kc_X0_hindrance : Cond.code yX0_hindrance cX0_hindrance 3 (some .int) ∈ jWS := jWS_in 377 (by decide +kernel) rfl
theorem kn_X0_hindrance : Cond.instanceMethod yX0_hindrance ∈ jWS := jWS_in 375 (by decide +kernel) rfl
theorem ki_X0_hindrance : Cond.initialized yX0_hindrance.cls ∈ jWS := jWS_in 13 (by decide +kernel) rfl
theorem kl_X0_hindrance : Cond.selects yX0_hindrance.cls yX0_hindrance yX0_hindrance ∈ jWS := jWS_in 376 (by decide +kernel) rfl
theorem go_X5_213 {p : Program} {l : Launch} {e : Env} {R : Room} {s : State} {m : MethodId} {args : Array Value} {below : List Frame} {meth : Method} {c : Code} {D : va_G} {cA : Nat → ClassId} {N0 : Nat} {cc : ByteArray} {nL : Nat} {lv : Nat} {Sh : jS} {pc : Nat} (C : jC p R s m args meth c D cA N0 cc nL RX5 lv) {b n0 : Nat} {a0 : Value} {rest : List Value} (hsh : Sh b = some (0, n0)) (hcat : (rest.map fun v => v.category).sum ≤ 8) (d : decode cc pc = .ok (.invokevirtual 213, 3)) : jGo p l e R s m args below meth c D cA N0 nL Sh yX0_hindrance cX0_hindrance 3 (some .int) pc (.ref b :: [a0]) rest (a0 :: .ref b :: rest) := jgo_V (As := [a0]) C ky_X0_hindrance (by decide) rfl kc_X0_hindrance (jWS_in 374 (by decide +kernel) rfl) kn_X0_hindrance kl_X0_hindrance ki_X0_hindrance hsh rfl hcat d
theorem ky_X5_counted : jyOK yX5_counted 1 := by refine ⟨?_, ?_, ?_⟩ <;> decide +kernel
theorem kc_X5_counted : Cond.code yX5_counted cX5_counted 2 (some .int) ∈ jWS := jWS_in 301 (by decide +kernel) rfl
theorem kn_X5_counted : Cond.instanceMethod yX5_counted ∈ jWS := jWS_in 300 (by decide +kernel) rfl
theorem ki_X5_counted : Cond.initialized yX5_counted.cls ∈ jWS := jWS_in 12 (by decide +kernel) rfl
theorem kl_X5_counted : Cond.selects yX5_counted.cls yX5_counted yX5_counted ∈ jWS := jWS_in 1 (by decide +kernel) rfl
theorem go_X5_218 {p : Program} {l : Launch} {e : Env} {R : Room} {s : State} {m : MethodId} {args : Array Value} {below : List Frame} {meth : Method} {c : Code} {D : va_G} {cA : Nat → ClassId} {N0 : Nat} {cc : ByteArray} {nL : Nat} {lv : Nat} {Sh : jS} {pc : Nat} (C : jC p R s m args meth c D cA N0 cc nL RX5 lv) {b n0 : Nat} {a0 : Value} {rest : List Value} (hsh : Sh b = some (5, n0)) (hcat : (rest.map fun v => v.category).sum ≤ 8) (d : decode cc pc = .ok (.invokevirtual 218, 3)) : jGo p l e R s m args below meth c D cA N0 nL Sh yX5_counted cX5_counted 2 (some .int) pc (.ref b :: [a0]) rest (a0 :: .ref b :: rest) := jgo_V (As := [a0]) C ky_X5_counted (by decide) rfl kc_X5_counted (jWS_in 298 (by decide +kernel) rfl) kn_X5_counted kl_X5_counted ki_X5_counted hsh rfl hcat d
theorem ky_X0_dueOf : jyOK yX0_dueOf 2 := by refine ⟨?_, ?_, ?_⟩ <;> decide +kernel
theorem kc_X0_dueOf : Cond.code yX0_dueOf cX0_dueOf 4 (some .int) ∈ jWS := jWS_in 449 (by decide +kernel) rfl
theorem kn_X0_dueOf : Cond.instanceMethod yX0_dueOf ∈ jWS := jWS_in 447 (by decide +kernel) rfl
theorem ki_X0_dueOf : Cond.initialized yX0_dueOf.cls ∈ jWS := jWS_in 13 (by decide +kernel) rfl
theorem kl_X0_dueOf : Cond.selects yX0_dueOf.cls yX0_dueOf yX0_dueOf ∈ jWS := jWS_in 448 (by decide +kernel) rfl
theorem go_X5_237 {p : Program} {l : Launch} {e : Env} {R : Room} {s : State} {m : MethodId} {args : Array Value} {below : List Frame} {meth : Method} {c : Code} {D : va_G} {cA : Nat → ClassId} {N0 : Nat} {cc : ByteArray} {nL : Nat} {lv : Nat} {Sh : jS} {pc : Nat} (C : jC p R s m args meth c D cA N0 cc nL RX5 lv) {b n0 : Nat} {a0 a1 : Value} {rest : List Value} (hsh : Sh b = some (0, n0)) (hcat : (rest.map fun v => v.category).sum ≤ 8) (d : decode cc pc = .ok (.invokevirtual 237, 3)) : jGo p l e R s m args below meth c D cA N0 nL Sh yX0_dueOf cX0_dueOf 4 (some .int) pc (.ref b :: [a0, a1]) rest (a1 :: a0 :: .ref b :: rest) := jgo_V (As := [a0, a1]) C ky_X0_dueOf (by decide) rfl kc_X0_dueOf (jWS_in 446 (by decide +kernel) rfl) kn_X0_dueOf kl_X0_dueOf ki_X0_dueOf hsh rfl hcat d
theorem ky_X0_earnedRatio : jyOK yX0_earnedRatio 0 := by refine ⟨?_, ?_, ?_⟩ <;> decide +kernel
theorem kc_X0_earnedRatio : Cond.code yX0_earnedRatio cX0_earnedRatio 6 (some .double) ∈ jWS := jWS_in 420 (by decide +kernel) rfl
theorem kn_X0_earnedRatio : Cond.instanceMethod yX0_earnedRatio ∈ jWS := jWS_in 418 (by decide +kernel) rfl
theorem ki_X0_earnedRatio : Cond.initialized yX0_earnedRatio.cls ∈ jWS := jWS_in 13 (by decide +kernel) rfl
theorem kl_X0_earnedRatio : Cond.selects yX0_earnedRatio.cls yX0_earnedRatio yX0_earnedRatio ∈ jWS := jWS_in 419 (by decide +kernel) rfl
theorem go_X5_241 {p : Program} {l : Launch} {e : Env} {R : Room} {s : State} {m : MethodId} {args : Array Value} {below : List Frame} {meth : Method} {c : Code} {D : va_G} {cA : Nat → ClassId} {N0 : Nat} {cc : ByteArray} {nL : Nat} {lv : Nat} {Sh : jS} {pc : Nat} (C : jC p R s m args meth c D cA N0 cc nL RX5 lv) {b n0 : Nat} {rest : List Value} (hsh : Sh b = some (0, n0)) (hcat : (rest.map fun v => v.category).sum ≤ 8) (d : decode cc pc = .ok (.invokevirtual 241, 3)) : jGo p l e R s m args below meth c D cA N0 nL Sh yX0_earnedRatio cX0_earnedRatio 6 (some .double) pc (.ref b :: []) rest (.ref b :: rest) := jgo_V (As := []) C ky_X0_earnedRatio (by decide) rfl kc_X0_earnedRatio (jWS_in 417 (by decide +kernel) rfl) kn_X0_earnedRatio kl_X0_earnedRatio ki_X0_earnedRatio hsh rfl hcat d
theorem ky_X5_dropOldest : jyOK yX5_dropOldest 0 := by refine ⟨?_, ?_, ?_⟩ <;> decide +kernel
theorem kc_X5_dropOldest : Cond.code yX5_dropOldest cX5_dropOldest 3 none ∈ jWS := jWS_in 481 (by decide +kernel) rfl
theorem kn_X5_dropOldest : Cond.instanceMethod yX5_dropOldest ∈ jWS := jWS_in 480 (by decide +kernel) rfl
theorem ki_X5_dropOldest : Cond.initialized yX5_dropOldest.cls ∈ jWS := jWS_in 12 (by decide +kernel) rfl
theorem kl_X5_dropOldest : Cond.selects yX5_dropOldest.cls yX5_dropOldest yX5_dropOldest ∈ jWS := jWS_in 7 (by decide +kernel) rfl
theorem go_X5_265 {p : Program} {l : Launch} {e : Env} {R : Room} {s : State} {m : MethodId} {args : Array Value} {below : List Frame} {meth : Method} {c : Code} {D : va_G} {cA : Nat → ClassId} {N0 : Nat} {cc : ByteArray} {nL : Nat} {lv : Nat} {Sh : jS} {pc : Nat} (C : jC p R s m args meth c D cA N0 cc nL RX5 lv) {b n0 : Nat} {rest : List Value} (hsh : Sh b = some (5, n0)) (hcat : (rest.map fun v => v.category).sum ≤ 8) (d : decode cc pc = .ok (.invokevirtual 265, 3)) : jGo p l e R s m args below meth c D cA N0 nL Sh yX5_dropOldest cX5_dropOldest 3 none pc (.ref b :: []) rest (.ref b :: rest) := jgo_V (As := []) C ky_X5_dropOldest (by decide) rfl kc_X5_dropOldest (jWS_in 478 (by decide +kernel) rfl) kn_X5_dropOldest kl_X5_dropOldest ki_X5_dropOldest hsh rfl hcat d
theorem ky_X0_number : jyOK yX0_number 1 := by refine ⟨?_, ?_, ?_⟩ <;> decide +kernel
theorem kc_X0_number : Cond.code yX0_number cX0_number 2 (some .int) ∈ jWS := jWS_in 305 (by decide +kernel) rfl
theorem kn_X0_number : Cond.instanceMethod yX0_number ∈ jWS := jWS_in 303 (by decide +kernel) rfl
theorem ki_X0_number : Cond.initialized yX0_number.cls ∈ jWS := jWS_in 13 (by decide +kernel) rfl
theorem kl_X0_number : Cond.selects yX0_number.cls yX0_number yX0_number ∈ jWS := jWS_in 304 (by decide +kernel) rfl
theorem go_X5_281 {p : Program} {l : Launch} {e : Env} {R : Room} {s : State} {m : MethodId} {args : Array Value} {below : List Frame} {meth : Method} {c : Code} {D : va_G} {cA : Nat → ClassId} {N0 : Nat} {cc : ByteArray} {nL : Nat} {lv : Nat} {Sh : jS} {pc : Nat} (C : jC p R s m args meth c D cA N0 cc nL RX5 lv) {b n0 : Nat} {a0 : Value} {rest : List Value} (hsh : Sh b = some (0, n0)) (hcat : (rest.map fun v => v.category).sum ≤ 8) (d : decode cc pc = .ok (.invokevirtual 281, 3)) : jGo p l e R s m args below meth c D cA N0 nL Sh yX0_number cX0_number 2 (some .int) pc (.ref b :: [a0]) rest (a0 :: .ref b :: rest) := jgo_V (As := [a0]) C ky_X0_number (by decide) rfl kc_X0_number (jWS_in 302 (by decide +kernel) rfl) kn_X0_number kl_X0_number ki_X0_number hsh rfl hcat d
theorem ky_X4_init : jyOK yX4_init 0 := by refine ⟨?_, ?_, ?_⟩ <;> decide +kernel
theorem kc_X4_init : Cond.code yX4_init cX4_init 1 none ∈ jWS := jWS_in 47 (by decide +kernel) rfl
theorem kn_X4_init : Cond.instanceMethod yX4_init ∈ jWS := jWS_in 46 (by decide +kernel) rfl
theorem ki_X4_init : Cond.initialized yX4_init.cls ∈ jWS := jWS_in 14 (by decide +kernel) rfl
theorem go_X0_25 {p : Program} {l : Launch} {e : Env} {R : Room} {s : State} {m : MethodId} {args : Array Value} {below : List Frame} {meth : Method} {c : Code} {D : va_G} {cA : Nat → ClassId} {N0 : Nat} {cc : ByteArray} {nL : Nat} {lv : Nat} {Sh : jS} {pc : Nat} (C : jC p R s m args meth c D cA N0 cc nL RX0 lv) {b : Nat} {rest : List Value} (hcat : (rest.map fun v => v.category).sum ≤ 8) (d : decode cc pc = .ok (.invokespecial 25, 3)) : jGo p l e R s m args below meth c D cA N0 nL Sh yX4_init cX4_init 1 none pc (.ref b :: []) rest (.ref b :: rest) := jgo_IN (host := RX5) (As := []) C ky_X4_init rfl kc_X4_init (by decide +kernel) kn_X4_init ki_X4_init rfl hcat d
theorem ky_X3_init : jyOK yX3_init 0 := by refine ⟨?_, ?_, ?_⟩ <;> decide +kernel
theorem kc_X3_init : Cond.code yX3_init cX3_init 1 none ∈ jWS := jWS_in 57 (by decide +kernel) rfl
theorem kn_X3_init : Cond.instanceMethod yX3_init ∈ jWS := jWS_in 56 (by decide +kernel) rfl
theorem ki_X3_init : Cond.initialized yX3_init.cls ∈ jWS := jWS_in 15 (by decide +kernel) rfl
theorem go_X0_37 {p : Program} {l : Launch} {e : Env} {R : Room} {s : State} {m : MethodId} {args : Array Value} {below : List Frame} {meth : Method} {c : Code} {D : va_G} {cA : Nat → ClassId} {N0 : Nat} {cc : ByteArray} {nL : Nat} {lv : Nat} {Sh : jS} {pc : Nat} (C : jC p R s m args meth c D cA N0 cc nL RX0 lv) {b : Nat} {rest : List Value} (hcat : (rest.map fun v => v.category).sum ≤ 8) (d : decode cc pc = .ok (.invokespecial 37, 3)) : jGo p l e R s m args below meth c D cA N0 nL Sh yX3_init cX3_init 1 none pc (.ref b :: []) rest (.ref b :: rest) := jgo_IN (host := RX5) (As := []) C ky_X3_init rfl kc_X3_init (by decide +kernel) kn_X3_init ki_X3_init rfl hcat d
theorem ky_X1_init : jyOK yX1_init 0 := by refine ⟨?_, ?_, ?_⟩ <;> decide +kernel
theorem kc_X1_init : Cond.code yX1_init cX1_init 1 none ∈ jWS := jWS_in 100 (by decide +kernel) rfl
theorem kn_X1_init : Cond.instanceMethod yX1_init ∈ jWS := jWS_in 99 (by decide +kernel) rfl
theorem ki_X1_init : Cond.initialized yX1_init.cls ∈ jWS := jWS_in 16 (by decide +kernel) rfl
theorem go_X0_38 {p : Program} {l : Launch} {e : Env} {R : Room} {s : State} {m : MethodId} {args : Array Value} {below : List Frame} {meth : Method} {c : Code} {D : va_G} {cA : Nat → ClassId} {N0 : Nat} {cc : ByteArray} {nL : Nat} {lv : Nat} {Sh : jS} {pc : Nat} (C : jC p R s m args meth c D cA N0 cc nL RX0 lv) {b : Nat} {rest : List Value} (hcat : (rest.map fun v => v.category).sum ≤ 8) (d : decode cc pc = .ok (.invokespecial 38, 3)) : jGo p l e R s m args below meth c D cA N0 nL Sh yX1_init cX1_init 1 none pc (.ref b :: []) rest (.ref b :: rest) := jgo_IN (host := RX5) (As := []) C ky_X1_init rfl kc_X1_init (by decide +kernel) kn_X1_init ki_X1_init rfl hcat d
theorem ky_X3_copyFrom : jyOK yX3_copyFrom 1 := by refine ⟨?_, ?_, ?_⟩ <;> decide +kernel
theorem kc_X3_copyFrom : Cond.code yX3_copyFrom cX3_copyFrom 2 none ∈ jWS := jWS_in 489 (by decide +kernel) rfl
theorem kn_X3_copyFrom : Cond.instanceMethod yX3_copyFrom ∈ jWS := jWS_in 487 (by decide +kernel) rfl
theorem ki_X3_copyFrom : Cond.initialized yX3_copyFrom.cls ∈ jWS := jWS_in 15 (by decide +kernel) rfl
theorem kl_X3_copyFrom : Cond.selects yX3_copyFrom.cls yX3_copyFrom yX3_copyFrom ∈ jWS := jWS_in 488 (by decide +kernel) rfl
theorem go_X0_39 {p : Program} {l : Launch} {e : Env} {R : Room} {s : State} {m : MethodId} {args : Array Value} {below : List Frame} {meth : Method} {c : Code} {D : va_G} {cA : Nat → ClassId} {N0 : Nat} {cc : ByteArray} {nL : Nat} {lv : Nat} {Sh : jS} {pc : Nat} (C : jC p R s m args meth c D cA N0 cc nL RX0 lv) {b n0 : Nat} {a0 : Value} {rest : List Value} (hsh : Sh b = some (3, n0)) (hcat : (rest.map fun v => v.category).sum ≤ 8) (d : decode cc pc = .ok (.invokevirtual 39, 3)) : jGo p l e R s m args below meth c D cA N0 nL Sh yX3_copyFrom cX3_copyFrom 2 none pc (.ref b :: [a0]) rest (a0 :: .ref b :: rest) := jgo_V (As := [a0]) C ky_X3_copyFrom (by decide) rfl kc_X3_copyFrom (jWS_in 486 (by decide +kernel) rfl) kn_X3_copyFrom kl_X3_copyFrom ki_X3_copyFrom hsh rfl hcat d
theorem ky_X1_copyFrom : jyOK yX1_copyFrom 1 := by refine ⟨?_, ?_, ?_⟩ <;> decide +kernel
theorem kc_X1_copyFrom : Cond.code yX1_copyFrom cX1_copyFrom 3 none ∈ jWS := jWS_in 497 (by decide +kernel) rfl
theorem kn_X1_copyFrom : Cond.instanceMethod yX1_copyFrom ∈ jWS := jWS_in 495 (by decide +kernel) rfl
theorem ki_X1_copyFrom : Cond.initialized yX1_copyFrom.cls ∈ jWS := jWS_in 16 (by decide +kernel) rfl
theorem kl_X1_copyFrom : Cond.selects yX1_copyFrom.cls yX1_copyFrom yX1_copyFrom ∈ jWS := jWS_in 496 (by decide +kernel) rfl
theorem go_X0_43 {p : Program} {l : Launch} {e : Env} {R : Room} {s : State} {m : MethodId} {args : Array Value} {below : List Frame} {meth : Method} {c : Code} {D : va_G} {cA : Nat → ClassId} {N0 : Nat} {cc : ByteArray} {nL : Nat} {lv : Nat} {Sh : jS} {pc : Nat} (C : jC p R s m args meth c D cA N0 cc nL RX0 lv) {b n0 : Nat} {a0 : Value} {rest : List Value} (hsh : Sh b = some (1, n0)) (hcat : (rest.map fun v => v.category).sum ≤ 8) (d : decode cc pc = .ok (.invokevirtual 43, 3)) : jGo p l e R s m args below meth c D cA N0 nL Sh yX1_copyFrom cX1_copyFrom 3 none pc (.ref b :: [a0]) rest (a0 :: .ref b :: rest) := jgo_V (As := [a0]) C ky_X1_copyFrom (by decide) rfl kc_X1_copyFrom (jWS_in 494 (by decide +kernel) rfl) kn_X1_copyFrom kl_X1_copyFrom ki_X1_copyFrom hsh rfl hcat d
theorem ky_X4_copyFrom : jyOK yX4_copyFrom 1 := by refine ⟨?_, ?_, ?_⟩ <;> decide +kernel
theorem kc_X4_copyFrom : Cond.code yX4_copyFrom cX4_copyFrom 3 none ∈ jWS := jWS_in 493 (by decide +kernel) rfl
theorem kn_X4_copyFrom : Cond.instanceMethod yX4_copyFrom ∈ jWS := jWS_in 491 (by decide +kernel) rfl
theorem ki_X4_copyFrom : Cond.initialized yX4_copyFrom.cls ∈ jWS := jWS_in 14 (by decide +kernel) rfl
theorem kl_X4_copyFrom : Cond.selects yX4_copyFrom.cls yX4_copyFrom yX4_copyFrom ∈ jWS := jWS_in 492 (by decide +kernel) rfl
theorem go_X0_46 {p : Program} {l : Launch} {e : Env} {R : Room} {s : State} {m : MethodId} {args : Array Value} {below : List Frame} {meth : Method} {c : Code} {D : va_G} {cA : Nat → ClassId} {N0 : Nat} {cc : ByteArray} {nL : Nat} {lv : Nat} {Sh : jS} {pc : Nat} (C : jC p R s m args meth c D cA N0 cc nL RX0 lv) {b n0 : Nat} {a0 : Value} {rest : List Value} (hsh : Sh b = some (4, n0)) (hcat : (rest.map fun v => v.category).sum ≤ 8) (d : decode cc pc = .ok (.invokevirtual 46, 3)) : jGo p l e R s m args below meth c D cA N0 nL Sh yX4_copyFrom cX4_copyFrom 3 none pc (.ref b :: [a0]) rest (a0 :: .ref b :: rest) := jgo_V (As := [a0]) C ky_X4_copyFrom (by decide) rfl kc_X4_copyFrom (jWS_in 498 (by decide +kernel) rfl) kn_X4_copyFrom kl_X4_copyFrom ki_X4_copyFrom hsh rfl hcat d
theorem ky_X0_placeOf : jyOK yX0_placeOf 1 := by refine ⟨?_, ?_, ?_⟩ <;> decide +kernel
theorem kc_X0_placeOf : Cond.code yX0_placeOf cX0_placeOf 3 (some .int) ∈ jWS := jWS_in 444 (by decide +kernel) rfl
theorem kn_X0_placeOf : Cond.instanceMethod yX0_placeOf ∈ jWS := jWS_in 442 (by decide +kernel) rfl
theorem ki_X0_placeOf : Cond.initialized yX0_placeOf.cls ∈ jWS := jWS_in 13 (by decide +kernel) rfl
theorem kl_X0_placeOf : Cond.selects yX0_placeOf.cls yX0_placeOf yX0_placeOf ∈ jWS := jWS_in 443 (by decide +kernel) rfl
theorem go_X0_77 {p : Program} {l : Launch} {e : Env} {R : Room} {s : State} {m : MethodId} {args : Array Value} {below : List Frame} {meth : Method} {c : Code} {D : va_G} {cA : Nat → ClassId} {N0 : Nat} {cc : ByteArray} {nL : Nat} {lv : Nat} {Sh : jS} {pc : Nat} (C : jC p R s m args meth c D cA N0 cc nL RX0 lv) {b n0 : Nat} {a0 : Value} {rest : List Value} (hsh : Sh b = some (0, n0)) (hcat : (rest.map fun v => v.category).sum ≤ 8) (d : decode cc pc = .ok (.invokevirtual 77, 3)) : jGo p l e R s m args below meth c D cA N0 nL Sh yX0_placeOf cX0_placeOf 3 (some .int) pc (.ref b :: [a0]) rest (a0 :: .ref b :: rest) := jgo_V (As := [a0]) C ky_X0_placeOf (by decide) rfl kc_X0_placeOf (jWS_in 441 (by decide +kernel) rfl) kn_X0_placeOf kl_X0_placeOf ki_X0_placeOf hsh rfl hcat d
theorem go_X0_81 {p : Program} {l : Launch} {e : Env} {R : Room} {s : State} {m : MethodId} {args : Array Value} {below : List Frame} {meth : Method} {c : Code} {D : va_G} {cA : Nat → ClassId} {N0 : Nat} {cc : ByteArray} {nL : Nat} {lv : Nat} {Sh : jS} {pc : Nat} (C : jC p R s m args meth c D cA N0 cc nL RX0 lv) {b n0 : Nat} {a0 : Value} {rest : List Value} (hsh : Sh b = some (0, n0)) (hcat : (rest.map fun v => v.category).sum ≤ 8) (d : decode cc pc = .ok (.invokevirtual 81, 3)) : jGo p l e R s m args below meth c D cA N0 nL Sh yX0_orderAt cX0_orderAt 3 (some (.object "WeaveShares$Order")) pc (.ref b :: [a0]) rest (a0 :: .ref b :: rest) := jgo_V (As := [a0]) C ky_X0_orderAt (by decide) rfl kc_X0_orderAt (jWS_in 409 (by decide +kernel) rfl) kn_X0_orderAt kl_X0_orderAt ki_X0_orderAt hsh rfl hcat d
theorem ky_X1_become : jyOK yX1_become 6 := by refine ⟨?_, ?_, ?_⟩ <;> decide +kernel
theorem kc_X1_become : Cond.code yX1_become cX1_become 8 none ∈ jWS := jWS_in 532 (by decide +kernel) rfl
theorem kn_X1_become : Cond.instanceMethod yX1_become ∈ jWS := jWS_in 530 (by decide +kernel) rfl
theorem ki_X1_become : Cond.initialized yX1_become.cls ∈ jWS := jWS_in 16 (by decide +kernel) rfl
theorem kl_X1_become : Cond.selects yX1_become.cls yX1_become yX1_become ∈ jWS := jWS_in 531 (by decide +kernel) rfl
theorem go_X0_85 {p : Program} {l : Launch} {e : Env} {R : Room} {s : State} {m : MethodId} {args : Array Value} {below : List Frame} {meth : Method} {c : Code} {D : va_G} {cA : Nat → ClassId} {N0 : Nat} {cc : ByteArray} {nL : Nat} {lv : Nat} {Sh : jS} {pc : Nat} (C : jC p R s m args meth c D cA N0 cc nL RX0 lv) {b n0 : Nat} {a0 a1 a2 a3 a4 a5 : Value} {rest : List Value} (hsh : Sh b = some (1, n0)) (hcat : (rest.map fun v => v.category).sum ≤ 8) (d : decode cc pc = .ok (.invokevirtual 85, 3)) : jGo p l e R s m args below meth c D cA N0 nL Sh yX1_become cX1_become 8 none pc (.ref b :: [a0, a1, a2, a3, a4, a5]) rest (a5 :: a4 :: a3 :: a2 :: a1 :: a0 :: .ref b :: rest) := jgo_V (As := [a0, a1, a2, a3, a4, a5]) C ky_X1_become (by decide) rfl kc_X1_become (jWS_in 529 (by decide +kernel) rfl) kn_X1_become kl_X1_become ki_X1_become hsh rfl hcat d
theorem ky_X0_merit : jyOK yX0_merit 1 := by refine ⟨?_, ?_, ?_⟩ <;> decide +kernel
theorem kc_X0_merit : Cond.code yX0_merit cX0_merit 2 (some .int) ∈ jWS := jWS_in 373 (by decide +kernel) rfl
theorem kn_X0_merit : Cond.instanceMethod yX0_merit ∈ jWS := jWS_in 372 (by decide +kernel) rfl
theorem ki_X0_merit : Cond.initialized yX0_merit.cls ∈ jWS := jWS_in 13 (by decide +kernel) rfl
theorem kl_X0_merit : Cond.selects yX0_merit.cls yX0_merit yX0_merit ∈ jWS := jWS_in 4 (by decide +kernel) rfl
theorem go_X0_99 {p : Program} {l : Launch} {e : Env} {R : Room} {s : State} {m : MethodId} {args : Array Value} {below : List Frame} {meth : Method} {c : Code} {D : va_G} {cA : Nat → ClassId} {N0 : Nat} {cc : ByteArray} {nL : Nat} {lv : Nat} {Sh : jS} {pc : Nat} (C : jC p R s m args meth c D cA N0 cc nL RX0 lv) {b n0 : Nat} {a0 : Value} {rest : List Value} (hsh : Sh b = some (0, n0)) (hcat : (rest.map fun v => v.category).sum ≤ 8) (d : decode cc pc = .ok (.invokevirtual 99, 3)) : jGo p l e R s m args below meth c D cA N0 nL Sh yX0_merit cX0_merit 2 (some .int) pc (.ref b :: [a0]) rest (a0 :: .ref b :: rest) := jgo_V (As := [a0]) C ky_X0_merit (by decide) rfl kc_X0_merit (jWS_in 370 (by decide +kernel) rfl) kn_X0_merit kl_X0_merit ki_X0_merit hsh rfl hcat d
theorem ky_X0_choiceOf : jyOK yX0_choiceOf 1 := by refine ⟨?_, ?_, ?_⟩ <;> decide +kernel
theorem kc_X0_choiceOf : Cond.code yX0_choiceOf cX0_choiceOf 5 (some (.object "WeaveShares$Order")) ∈ jWS := jWS_in 369 (by decide +kernel) rfl
theorem kn_X0_choiceOf : Cond.instanceMethod yX0_choiceOf ∈ jWS := jWS_in 368 (by decide +kernel) rfl
theorem ki_X0_choiceOf : Cond.initialized yX0_choiceOf.cls ∈ jWS := jWS_in 13 (by decide +kernel) rfl
theorem kl_X0_choiceOf : Cond.selects yX0_choiceOf.cls yX0_choiceOf yX0_choiceOf ∈ jWS := jWS_in 3 (by decide +kernel) rfl
theorem go_X0_103 {p : Program} {l : Launch} {e : Env} {R : Room} {s : State} {m : MethodId} {args : Array Value} {below : List Frame} {meth : Method} {c : Code} {D : va_G} {cA : Nat → ClassId} {N0 : Nat} {cc : ByteArray} {nL : Nat} {lv : Nat} {Sh : jS} {pc : Nat} (C : jC p R s m args meth c D cA N0 cc nL RX0 lv) {b n0 : Nat} {a0 : Value} {rest : List Value} (hsh : Sh b = some (0, n0)) (hcat : (rest.map fun v => v.category).sum ≤ 8) (d : decode cc pc = .ok (.invokevirtual 103, 3)) : jGo p l e R s m args below meth c D cA N0 nL Sh yX0_choiceOf cX0_choiceOf 5 (some (.object "WeaveShares$Order")) pc (.ref b :: [a0]) rest (a0 :: .ref b :: rest) := jgo_V (As := [a0]) C ky_X0_choiceOf (by decide) rfl kc_X0_choiceOf (jWS_in 366 (by decide +kernel) rfl) kn_X0_choiceOf kl_X0_choiceOf ki_X0_choiceOf hsh rfl hcat d
theorem ky_X3_hasLoom : jyOK yX3_hasLoom 0 := by refine ⟨?_, ?_, ?_⟩ <;> decide +kernel
theorem kc_X3_hasLoom : Cond.code yX3_hasLoom cX3_hasLoom 1 (some .boolean) ∈ jWS := jWS_in 381 (by decide +kernel) rfl
theorem kn_X3_hasLoom : Cond.instanceMethod yX3_hasLoom ∈ jWS := jWS_in 379 (by decide +kernel) rfl
theorem ki_X3_hasLoom : Cond.initialized yX3_hasLoom.cls ∈ jWS := jWS_in 15 (by decide +kernel) rfl
theorem kl_X3_hasLoom : Cond.selects yX3_hasLoom.cls yX3_hasLoom yX3_hasLoom ∈ jWS := jWS_in 380 (by decide +kernel) rfl
theorem go_X0_107 {p : Program} {l : Launch} {e : Env} {R : Room} {s : State} {m : MethodId} {args : Array Value} {below : List Frame} {meth : Method} {c : Code} {D : va_G} {cA : Nat → ClassId} {N0 : Nat} {cc : ByteArray} {nL : Nat} {lv : Nat} {Sh : jS} {pc : Nat} (C : jC p R s m args meth c D cA N0 cc nL RX0 lv) {b n0 : Nat} {rest : List Value} (hsh : Sh b = some (3, n0)) (hcat : (rest.map fun v => v.category).sum ≤ 8) (d : decode cc pc = .ok (.invokevirtual 107, 3)) : jGo p l e R s m args below meth c D cA N0 nL Sh yX3_hasLoom cX3_hasLoom 1 (some .boolean) pc (.ref b :: []) rest (.ref b :: rest) := jgo_V (As := []) C ky_X3_hasLoom (by decide) rfl kc_X3_hasLoom (jWS_in 378 (by decide +kernel) rfl) kn_X3_hasLoom kl_X3_hasLoom ki_X3_hasLoom hsh rfl hcat d
theorem ky_X0_sourceOf : jyOK yX0_sourceOf 2 := by refine ⟨?_, ?_, ?_⟩ <;> decide +kernel
theorem kc_X0_sourceOf : Cond.code yX0_sourceOf cX0_sourceOf 4 (some (.object "WeaveShares$Yarn")) ∈ jWS := jWS_in 385 (by decide +kernel) rfl
theorem kn_X0_sourceOf : Cond.instanceMethod yX0_sourceOf ∈ jWS := jWS_in 384 (by decide +kernel) rfl
theorem ki_X0_sourceOf : Cond.initialized yX0_sourceOf.cls ∈ jWS := jWS_in 13 (by decide +kernel) rfl
theorem kl_X0_sourceOf : Cond.selects yX0_sourceOf.cls yX0_sourceOf yX0_sourceOf ∈ jWS := jWS_in 5 (by decide +kernel) rfl
theorem go_X0_111 {p : Program} {l : Launch} {e : Env} {R : Room} {s : State} {m : MethodId} {args : Array Value} {below : List Frame} {meth : Method} {c : Code} {D : va_G} {cA : Nat → ClassId} {N0 : Nat} {cc : ByteArray} {nL : Nat} {lv : Nat} {Sh : jS} {pc : Nat} (C : jC p R s m args meth c D cA N0 cc nL RX0 lv) {b n0 : Nat} {a0 a1 : Value} {rest : List Value} (hsh : Sh b = some (0, n0)) (hcat : (rest.map fun v => v.category).sum ≤ 8) (d : decode cc pc = .ok (.invokevirtual 111, 3)) : jGo p l e R s m args below meth c D cA N0 nL Sh yX0_sourceOf cX0_sourceOf 4 (some (.object "WeaveShares$Yarn")) pc (.ref b :: [a0, a1]) rest (a1 :: a0 :: .ref b :: rest) := jgo_V (As := [a0, a1]) C ky_X0_sourceOf (by decide) rfl kc_X0_sourceOf (jWS_in 382 (by decide +kernel) rfl) kn_X0_sourceOf kl_X0_sourceOf ki_X0_sourceOf hsh rfl hcat d
theorem ky_X1_gramsEach : jyOK yX1_gramsEach 0 := by refine ⟨?_, ?_, ?_⟩ <;> decide +kernel
theorem kc_X1_gramsEach : Cond.code yX1_gramsEach cX1_gramsEach 1 (some .int) ∈ jWS := jWS_in 389 (by decide +kernel) rfl
theorem kn_X1_gramsEach : Cond.instanceMethod yX1_gramsEach ∈ jWS := jWS_in 387 (by decide +kernel) rfl
theorem ki_X1_gramsEach : Cond.initialized yX1_gramsEach.cls ∈ jWS := jWS_in 16 (by decide +kernel) rfl
theorem kl_X1_gramsEach : Cond.selects yX1_gramsEach.cls yX1_gramsEach yX1_gramsEach ∈ jWS := jWS_in 388 (by decide +kernel) rfl
theorem go_X0_115 {p : Program} {l : Launch} {e : Env} {R : Room} {s : State} {m : MethodId} {args : Array Value} {below : List Frame} {meth : Method} {c : Code} {D : va_G} {cA : Nat → ClassId} {N0 : Nat} {cc : ByteArray} {nL : Nat} {lv : Nat} {Sh : jS} {pc : Nat} (C : jC p R s m args meth c D cA N0 cc nL RX0 lv) {b n0 : Nat} {rest : List Value} (hsh : Sh b = some (1, n0)) (hcat : (rest.map fun v => v.category).sum ≤ 8) (d : decode cc pc = .ok (.invokevirtual 115, 3)) : jGo p l e R s m args below meth c D cA N0 nL Sh yX1_gramsEach cX1_gramsEach 1 (some .int) pc (.ref b :: []) rest (.ref b :: rest) := jgo_V (As := []) C ky_X1_gramsEach (by decide) rfl kc_X1_gramsEach (jWS_in 386 (by decide +kernel) rfl) kn_X1_gramsEach kl_X1_gramsEach ki_X1_gramsEach hsh rfl hcat d
theorem go_X0_125 {p : Program} {l : Launch} {e : Env} {R : Room} {s : State} {m : MethodId} {args : Array Value} {below : List Frame} {meth : Method} {c : Code} {D : va_G} {cA : Nat → ClassId} {N0 : Nat} {cc : ByteArray} {nL : Nat} {lv : Nat} {Sh : jS} {pc : Nat} (C : jC p R s m args meth c D cA N0 cc nL RX0 lv) {b n0 : Nat} {a0 : Value} {rest : List Value} (hsh : Sh b = some (4, n0)) (hcat : (rest.map fun v => v.category).sum ≤ 8) (d : decode cc pc = .ok (.invokevirtual 125, 3)) : jGo p l e R s m args below meth c D cA N0 nL Sh yX4_of cX4_of 2 (some .int) pc (.ref b :: [a0]) rest (a0 :: .ref b :: rest) := jgo_V (As := [a0]) C ky_X4_of (by decide) rfl kc_X4_of (jWS_in 390 (by decide +kernel) rfl) kn_X4_of kl_X4_of ki_X4_of hsh rfl hcat d
theorem go_X0_128 {p : Program} {l : Launch} {e : Env} {R : Room} {s : State} {m : MethodId} {args : Array Value} {below : List Frame} {meth : Method} {c : Code} {D : va_G} {cA : Nat → ClassId} {N0 : Nat} {cc : ByteArray} {nL : Nat} {lv : Nat} {Sh : jS} {pc : Nat} (C : jC p R s m args meth c D cA N0 cc nL RX0 lv) {b n0 : Nat} {a0 a1 : Value} {rest : List Value} (hsh : Sh b = some (4, n0)) (hcat : (rest.map fun v => v.category).sum ≤ 8) (d : decode cc pc = .ok (.invokevirtual 128, 3)) : jGo p l e R s m args below meth c D cA N0 nL Sh yX4_add cX4_add 3 (some .int) pc (.ref b :: [a0, a1]) rest (a1 :: a0 :: .ref b :: rest) := jgo_V (As := [a0, a1]) C ky_X4_add (by decide) rfl kc_X4_add (jWS_in 608 (by decide +kernel) rfl) kn_X4_add kl_X4_add ki_X4_add hsh rfl hcat d
theorem ky_X3_borrow : jyOK yX3_borrow 1 := by refine ⟨?_, ?_, ?_⟩ <;> decide +kernel
theorem kc_X3_borrow : Cond.code yX3_borrow cX3_borrow 2 none ∈ jWS := jWS_in 612 (by decide +kernel) rfl
theorem kn_X3_borrow : Cond.instanceMethod yX3_borrow ∈ jWS := jWS_in 610 (by decide +kernel) rfl
theorem ki_X3_borrow : Cond.initialized yX3_borrow.cls ∈ jWS := jWS_in 15 (by decide +kernel) rfl
theorem kl_X3_borrow : Cond.selects yX3_borrow.cls yX3_borrow yX3_borrow ∈ jWS := jWS_in 611 (by decide +kernel) rfl
theorem go_X0_132 {p : Program} {l : Launch} {e : Env} {R : Room} {s : State} {m : MethodId} {args : Array Value} {below : List Frame} {meth : Method} {c : Code} {D : va_G} {cA : Nat → ClassId} {N0 : Nat} {cc : ByteArray} {nL : Nat} {lv : Nat} {Sh : jS} {pc : Nat} (C : jC p R s m args meth c D cA N0 cc nL RX0 lv) {b n0 : Nat} {a0 : Value} {rest : List Value} (hsh : Sh b = some (3, n0)) (hcat : (rest.map fun v => v.category).sum ≤ 8) (d : decode cc pc = .ok (.invokevirtual 132, 3)) : jGo p l e R s m args below meth c D cA N0 nL Sh yX3_borrow cX3_borrow 2 none pc (.ref b :: [a0]) rest (a0 :: .ref b :: rest) := jgo_V (As := [a0]) C ky_X3_borrow (by decide) rfl kc_X3_borrow (jWS_in 609 (by decide +kernel) rfl) kn_X3_borrow kl_X3_borrow ki_X3_borrow hsh rfl hcat d
theorem ky_X0_workLoom : jyOK yX0_workLoom 2 := by refine ⟨?_, ?_, ?_⟩ <;> decide +kernel
theorem kc_X0_workLoom : Cond.code yX0_workLoom cX0_workLoom 7 (some .int) ∈ jWS := jWS_in 599 (by decide +kernel) rfl
theorem kn_X0_workLoom : Cond.instanceMethod yX0_workLoom ∈ jWS := jWS_in 598 (by decide +kernel) rfl
theorem ki_X0_workLoom : Cond.initialized yX0_workLoom.cls ∈ jWS := jWS_in 13 (by decide +kernel) rfl
theorem kl_X0_workLoom : Cond.selects yX0_workLoom.cls yX0_workLoom yX0_workLoom ∈ jWS := jWS_in 8 (by decide +kernel) rfl
theorem go_X0_136 {p : Program} {l : Launch} {e : Env} {R : Room} {s : State} {m : MethodId} {args : Array Value} {below : List Frame} {meth : Method} {c : Code} {D : va_G} {cA : Nat → ClassId} {N0 : Nat} {cc : ByteArray} {nL : Nat} {lv : Nat} {Sh : jS} {pc : Nat} (C : jC p R s m args meth c D cA N0 cc nL RX0 lv) {b n0 : Nat} {a0 a1 : Value} {rest : List Value} (hsh : Sh b = some (0, n0)) (hcat : (rest.map fun v => v.category).sum ≤ 8) (d : decode cc pc = .ok (.invokevirtual 136, 3)) : jGo p l e R s m args below meth c D cA N0 nL Sh yX0_workLoom cX0_workLoom 7 (some .int) pc (.ref b :: [a0, a1]) rest (a1 :: a0 :: .ref b :: rest) := jgo_V (As := [a0, a1]) C ky_X0_workLoom (by decide) rfl kc_X0_workLoom (jWS_in 596 (by decide +kernel) rfl) kn_X0_workLoom kl_X0_workLoom ki_X0_workLoom hsh rfl hcat d
theorem ky_X1_isDone : jyOK yX1_isDone 0 := by refine ⟨?_, ?_, ?_⟩ <;> decide +kernel
theorem kc_X1_isDone : Cond.code yX1_isDone cX1_isDone 1 (some .boolean) ∈ jWS := jWS_in 603 (by decide +kernel) rfl
theorem kn_X1_isDone : Cond.instanceMethod yX1_isDone ∈ jWS := jWS_in 601 (by decide +kernel) rfl
theorem ki_X1_isDone : Cond.initialized yX1_isDone.cls ∈ jWS := jWS_in 16 (by decide +kernel) rfl
theorem kl_X1_isDone : Cond.selects yX1_isDone.cls yX1_isDone yX1_isDone ∈ jWS := jWS_in 602 (by decide +kernel) rfl
theorem go_X0_143 {p : Program} {l : Launch} {e : Env} {R : Room} {s : State} {m : MethodId} {args : Array Value} {below : List Frame} {meth : Method} {c : Code} {D : va_G} {cA : Nat → ClassId} {N0 : Nat} {cc : ByteArray} {nL : Nat} {lv : Nat} {Sh : jS} {pc : Nat} (C : jC p R s m args meth c D cA N0 cc nL RX0 lv) {b n0 : Nat} {rest : List Value} (hsh : Sh b = some (1, n0)) (hcat : (rest.map fun v => v.category).sum ≤ 8) (d : decode cc pc = .ok (.invokevirtual 143, 3)) : jGo p l e R s m args below meth c D cA N0 nL Sh yX1_isDone cX1_isDone 1 (some .boolean) pc (.ref b :: []) rest (.ref b :: rest) := jgo_V (As := []) C ky_X1_isDone (by decide) rfl kc_X1_isDone (jWS_in 600 (by decide +kernel) rfl) kn_X1_isDone kl_X1_isDone ki_X1_isDone hsh rfl hcat d
theorem ky_X0_takeYarn : jyOK yX0_takeYarn 3 := by refine ⟨?_, ?_, ?_⟩ <;> decide +kernel
theorem kc_X0_takeYarn : Cond.code yX0_takeYarn cX0_takeYarn 5 none ∈ jWS := jWS_in 607 (by decide +kernel) rfl
theorem kn_X0_takeYarn : Cond.instanceMethod yX0_takeYarn ∈ jWS := jWS_in 606 (by decide +kernel) rfl
theorem ki_X0_takeYarn : Cond.initialized yX0_takeYarn.cls ∈ jWS := jWS_in 13 (by decide +kernel) rfl
theorem kl_X0_takeYarn : Cond.selects yX0_takeYarn.cls yX0_takeYarn yX0_takeYarn ∈ jWS := jWS_in 9 (by decide +kernel) rfl
theorem go_X0_146 {p : Program} {l : Launch} {e : Env} {R : Room} {s : State} {m : MethodId} {args : Array Value} {below : List Frame} {meth : Method} {c : Code} {D : va_G} {cA : Nat → ClassId} {N0 : Nat} {cc : ByteArray} {nL : Nat} {lv : Nat} {Sh : jS} {pc : Nat} (C : jC p R s m args meth c D cA N0 cc nL RX0 lv) {b n0 : Nat} {a0 a1 a2 : Value} {rest : List Value} (hsh : Sh b = some (0, n0)) (hcat : (rest.map fun v => v.category).sum ≤ 8) (d : decode cc pc = .ok (.invokevirtual 146, 3)) : jGo p l e R s m args below meth c D cA N0 nL Sh yX0_takeYarn cX0_takeYarn 5 none pc (.ref b :: [a0, a1, a2]) rest (a2 :: a1 :: a0 :: .ref b :: rest) := jgo_V (As := [a0, a1, a2]) C ky_X0_takeYarn (by decide) rfl kc_X0_takeYarn (jWS_in 604 (by decide +kernel) rfl) kn_X0_takeYarn kl_X0_takeYarn ki_X0_takeYarn hsh rfl hcat d
theorem ky_X3_weavesGood : jyOK yX3_weavesGood 0 := by refine ⟨?_, ?_, ?_⟩ <;> decide +kernel
theorem kc_X3_weavesGood : Cond.code yX3_weavesGood cX3_weavesGood 1 (some .boolean) ∈ jWS := jWS_in 616 (by decide +kernel) rfl
theorem kn_X3_weavesGood : Cond.instanceMethod yX3_weavesGood ∈ jWS := jWS_in 614 (by decide +kernel) rfl
theorem ki_X3_weavesGood : Cond.initialized yX3_weavesGood.cls ∈ jWS := jWS_in 15 (by decide +kernel) rfl
theorem kl_X3_weavesGood : Cond.selects yX3_weavesGood.cls yX3_weavesGood yX3_weavesGood ∈ jWS := jWS_in 615 (by decide +kernel) rfl
theorem go_X0_150 {p : Program} {l : Launch} {e : Env} {R : Room} {s : State} {m : MethodId} {args : Array Value} {below : List Frame} {meth : Method} {c : Code} {D : va_G} {cA : Nat → ClassId} {N0 : Nat} {cc : ByteArray} {nL : Nat} {lv : Nat} {Sh : jS} {pc : Nat} (C : jC p R s m args meth c D cA N0 cc nL RX0 lv) {b n0 : Nat} {rest : List Value} (hsh : Sh b = some (3, n0)) (hcat : (rest.map fun v => v.category).sum ≤ 8) (d : decode cc pc = .ok (.invokevirtual 150, 3)) : jGo p l e R s m args below meth c D cA N0 nL Sh yX3_weavesGood cX3_weavesGood 1 (some .boolean) pc (.ref b :: []) rest (.ref b :: rest) := jgo_V (As := []) C ky_X3_weavesGood (by decide) rfl kc_X3_weavesGood (jWS_in 613 (by decide +kernel) rfl) kn_X3_weavesGood kl_X3_weavesGood ki_X3_weavesGood hsh rfl hcat d
theorem ky_X1_addGood : jyOK yX1_addGood 1 := by refine ⟨?_, ?_, ?_⟩ <;> decide +kernel
theorem kc_X1_addGood : Cond.code yX1_addGood cX1_addGood 2 none ∈ jWS := jWS_in 620 (by decide +kernel) rfl
theorem kn_X1_addGood : Cond.instanceMethod yX1_addGood ∈ jWS := jWS_in 618 (by decide +kernel) rfl
theorem ki_X1_addGood : Cond.initialized yX1_addGood.cls ∈ jWS := jWS_in 16 (by decide +kernel) rfl
theorem kl_X1_addGood : Cond.selects yX1_addGood.cls yX1_addGood yX1_addGood ∈ jWS := jWS_in 619 (by decide +kernel) rfl
theorem go_X0_153 {p : Program} {l : Launch} {e : Env} {R : Room} {s : State} {m : MethodId} {args : Array Value} {below : List Frame} {meth : Method} {c : Code} {D : va_G} {cA : Nat → ClassId} {N0 : Nat} {cc : ByteArray} {nL : Nat} {lv : Nat} {Sh : jS} {pc : Nat} (C : jC p R s m args meth c D cA N0 cc nL RX0 lv) {b n0 : Nat} {a0 : Value} {rest : List Value} (hsh : Sh b = some (1, n0)) (hcat : (rest.map fun v => v.category).sum ≤ 8) (d : decode cc pc = .ok (.invokevirtual 153, 3)) : jGo p l e R s m args below meth c D cA N0 nL Sh yX1_addGood cX1_addGood 2 none pc (.ref b :: [a0]) rest (a0 :: .ref b :: rest) := jgo_V (As := [a0]) C ky_X1_addGood (by decide) rfl kc_X1_addGood (jWS_in 617 (by decide +kernel) rfl) kn_X1_addGood kl_X1_addGood ki_X1_addGood hsh rfl hcat d
theorem ky_X0_finish : jyOK yX0_finish 1 := by refine ⟨?_, ?_, ?_⟩ <;> decide +kernel
theorem kc_X0_finish : Cond.code yX0_finish cX0_finish 5 none ∈ jWS := jWS_in 624 (by decide +kernel) rfl
theorem kn_X0_finish : Cond.instanceMethod yX0_finish ∈ jWS := jWS_in 623 (by decide +kernel) rfl
theorem ki_X0_finish : Cond.initialized yX0_finish.cls ∈ jWS := jWS_in 13 (by decide +kernel) rfl
theorem kl_X0_finish : Cond.selects yX0_finish.cls yX0_finish yX0_finish ∈ jWS := jWS_in 10 (by decide +kernel) rfl
theorem go_X0_156 {p : Program} {l : Launch} {e : Env} {R : Room} {s : State} {m : MethodId} {args : Array Value} {below : List Frame} {meth : Method} {c : Code} {D : va_G} {cA : Nat → ClassId} {N0 : Nat} {cc : ByteArray} {nL : Nat} {lv : Nat} {Sh : jS} {pc : Nat} (C : jC p R s m args meth c D cA N0 cc nL RX0 lv) {b n0 : Nat} {a0 : Value} {rest : List Value} (hsh : Sh b = some (0, n0)) (hcat : (rest.map fun v => v.category).sum ≤ 8) (d : decode cc pc = .ok (.invokevirtual 156, 3)) : jGo p l e R s m args below meth c D cA N0 nL Sh yX0_finish cX0_finish 5 none pc (.ref b :: [a0]) rest (a0 :: .ref b :: rest) := jgo_V (As := [a0]) C ky_X0_finish (by decide) rfl kc_X0_finish (jWS_in 621 (by decide +kernel) rfl) kn_X0_finish kl_X0_finish ki_X0_finish hsh rfl hcat d
theorem ky_X1_lateHours : jyOK yX1_lateHours 1 := by refine ⟨?_, ?_, ?_⟩ <;> decide +kernel
theorem kc_X1_lateHours : Cond.code yX1_lateHours cX1_lateHours 2 (some .int) ∈ jWS := jWS_in 453 (by decide +kernel) rfl
theorem kn_X1_lateHours : Cond.instanceMethod yX1_lateHours ∈ jWS := jWS_in 451 (by decide +kernel) rfl
theorem ki_X1_lateHours : Cond.initialized yX1_lateHours.cls ∈ jWS := jWS_in 16 (by decide +kernel) rfl
theorem kl_X1_lateHours : Cond.selects yX1_lateHours.cls yX1_lateHours yX1_lateHours ∈ jWS := jWS_in 452 (by decide +kernel) rfl
theorem go_X0_159 {p : Program} {l : Launch} {e : Env} {R : Room} {s : State} {m : MethodId} {args : Array Value} {below : List Frame} {meth : Method} {c : Code} {D : va_G} {cA : Nat → ClassId} {N0 : Nat} {cc : ByteArray} {nL : Nat} {lv : Nat} {Sh : jS} {pc : Nat} (C : jC p R s m args meth c D cA N0 cc nL RX0 lv) {b n0 : Nat} {a0 : Value} {rest : List Value} (hsh : Sh b = some (1, n0)) (hcat : (rest.map fun v => v.category).sum ≤ 8) (d : decode cc pc = .ok (.invokevirtual 159, 3)) : jGo p l e R s m args below meth c D cA N0 nL Sh yX1_lateHours cX1_lateHours 2 (some .int) pc (.ref b :: [a0]) rest (a0 :: .ref b :: rest) := jgo_V (As := [a0]) C ky_X1_lateHours (by decide) rfl kc_X1_lateHours (jWS_in 450 (by decide +kernel) rfl) kn_X1_lateHours kl_X1_lateHours ki_X1_lateHours hsh rfl hcat d
theorem ky_X1_payFor : jyOK yX1_payFor 2 := by refine ⟨?_, ?_, ?_⟩ <;> decide +kernel
theorem kc_X1_payFor : Cond.code yX1_payFor cX1_payFor 6 (some .int) ∈ jWS := jWS_in 457 (by decide +kernel) rfl
theorem kn_X1_payFor : Cond.instanceMethod yX1_payFor ∈ jWS := jWS_in 455 (by decide +kernel) rfl
theorem ki_X1_payFor : Cond.initialized yX1_payFor.cls ∈ jWS := jWS_in 16 (by decide +kernel) rfl
theorem kl_X1_payFor : Cond.selects yX1_payFor.cls yX1_payFor yX1_payFor ∈ jWS := jWS_in 456 (by decide +kernel) rfl
theorem go_X0_162 {p : Program} {l : Launch} {e : Env} {R : Room} {s : State} {m : MethodId} {args : Array Value} {below : List Frame} {meth : Method} {c : Code} {D : va_G} {cA : Nat → ClassId} {N0 : Nat} {cc : ByteArray} {nL : Nat} {lv : Nat} {Sh : jS} {pc : Nat} (C : jC p R s m args meth c D cA N0 cc nL RX0 lv) {b n0 : Nat} {a0 a1 : Value} {rest : List Value} (hsh : Sh b = some (1, n0)) (hcat : (rest.map fun v => v.category).sum ≤ 8) (d : decode cc pc = .ok (.invokevirtual 162, 3)) : jGo p l e R s m args below meth c D cA N0 nL Sh yX1_payFor cX1_payFor 6 (some .int) pc (.ref b :: [a0, a1]) rest (a1 :: a0 :: .ref b :: rest) := jgo_V (As := [a0, a1]) C ky_X1_payFor (by decide) rfl kc_X1_payFor (jWS_in 454 (by decide +kernel) rfl) kn_X1_payFor kl_X1_payFor ki_X1_payFor hsh rfl hcat d
theorem ky_X1_divide : jyOK yX1_divide 2 := by refine ⟨?_, ?_, ?_⟩ <;> decide +kernel
theorem kc_X1_divide : Cond.code yX1_divide cX1_divide 6 none ∈ jWS := jWS_in 462 (by decide +kernel) rfl
theorem kn_X1_divide : Cond.instanceMethod yX1_divide ∈ jWS := jWS_in 460 (by decide +kernel) rfl
theorem ki_X1_divide : Cond.initialized yX1_divide.cls ∈ jWS := jWS_in 16 (by decide +kernel) rfl
theorem kl_X1_divide : Cond.selects yX1_divide.cls yX1_divide yX1_divide ∈ jWS := jWS_in 461 (by decide +kernel) rfl
theorem go_X0_165 {p : Program} {l : Launch} {e : Env} {R : Room} {s : State} {m : MethodId} {args : Array Value} {below : List Frame} {meth : Method} {c : Code} {D : va_G} {cA : Nat → ClassId} {N0 : Nat} {cc : ByteArray} {nL : Nat} {lv : Nat} {Sh : jS} {pc : Nat} (C : jC p R s m args meth c D cA N0 cc nL RX0 lv) {b n0 : Nat} {a0 a1 : Value} {rest : List Value} (hsh : Sh b = some (1, n0)) (hcat : (rest.map fun v => v.category).sum ≤ 8) (d : decode cc pc = .ok (.invokevirtual 165, 3)) : jGo p l e R s m args below meth c D cA N0 nL Sh yX1_divide cX1_divide 6 none pc (.ref b :: [a0, a1]) rest (a1 :: a0 :: .ref b :: rest) := jgo_V (As := [a0, a1]) C ky_X1_divide (by decide) rfl kc_X1_divide (jWS_in 459 (by decide +kernel) rfl) kn_X1_divide kl_X1_divide ki_X1_divide hsh rfl hcat d
theorem ky_X3_receive : jyOK yX3_receive 2 := by refine ⟨?_, ?_, ?_⟩ <;> decide +kernel
theorem kc_X3_receive : Cond.code yX3_receive cX3_receive 4 none ∈ jWS := jWS_in 628 (by decide +kernel) rfl
theorem kn_X3_receive : Cond.instanceMethod yX3_receive ∈ jWS := jWS_in 626 (by decide +kernel) rfl
theorem ki_X3_receive : Cond.initialized yX3_receive.cls ∈ jWS := jWS_in 15 (by decide +kernel) rfl
theorem kl_X3_receive : Cond.selects yX3_receive.cls yX3_receive yX3_receive ∈ jWS := jWS_in 627 (by decide +kernel) rfl
theorem go_X0_169 {p : Program} {l : Launch} {e : Env} {R : Room} {s : State} {m : MethodId} {args : Array Value} {below : List Frame} {meth : Method} {c : Code} {D : va_G} {cA : Nat → ClassId} {N0 : Nat} {cc : ByteArray} {nL : Nat} {lv : Nat} {Sh : jS} {pc : Nat} (C : jC p R s m args meth c D cA N0 cc nL RX0 lv) {b n0 : Nat} {a0 a1 : Value} {rest : List Value} (hsh : Sh b = some (3, n0)) (hcat : (rest.map fun v => v.category).sum ≤ 8) (d : decode cc pc = .ok (.invokevirtual 169, 3)) : jGo p l e R s m args below meth c D cA N0 nL Sh yX3_receive cX3_receive 4 none pc (.ref b :: [a0, a1]) rest (a1 :: a0 :: .ref b :: rest) := jgo_V (As := [a0, a1]) C ky_X3_receive (by decide) rfl kc_X3_receive (jWS_in 625 (by decide +kernel) rfl) kn_X3_receive kl_X3_receive ki_X3_receive hsh rfl hcat d
theorem go_X0_173 {p : Program} {l : Launch} {e : Env} {R : Room} {s : State} {m : MethodId} {args : Array Value} {below : List Frame} {meth : Method} {c : Code} {D : va_G} {cA : Nat → ClassId} {N0 : Nat} {cc : ByteArray} {nL : Nat} {lv : Nat} {Sh : jS} {pc : Nat} (C : jC p R s m args meth c D cA N0 cc nL RX0 lv) {b n0 : Nat} {a0 : Value} {rest : List Value} (hsh : Sh b = some (0, n0)) (hcat : (rest.map fun v => v.category).sum ≤ 8) (d : decode cc pc = .ok (.invokevirtual 173, 3)) : jGo p l e R s m args below meth c D cA N0 nL Sh yX0_dismiss cX0_dismiss 3 none pc (.ref b :: [a0]) rest (a0 :: .ref b :: rest) := jgo_V (As := [a0]) C ky_X0_dismiss (by decide) rfl kc_X0_dismiss (jWS_in 630 (by decide +kernel) rfl) kn_X0_dismiss kl_X0_dismiss ki_X0_dismiss hsh rfl hcat d
theorem go_X0_179 {p : Program} {l : Launch} {e : Env} {R : Room} {s : State} {m : MethodId} {args : Array Value} {below : List Frame} {meth : Method} {c : Code} {D : va_G} {cA : Nat → ClassId} {N0 : Nat} {cc : ByteArray} {nL : Nat} {lv : Nat} {Sh : jS} {pc : Nat} (C : jC p R s m args meth c D cA N0 cc nL RX0 lv) {b n0 : Nat} {a0 : Value} {rest : List Value} (hsh : Sh b = some (3, n0)) (hcat : (rest.map fun v => v.category).sum ≤ 8) (d : decode cc pc = .ok (.invokevirtual 179, 3)) : jGo p l e R s m args below meth c D cA N0 nL Sh yX3_property cX3_property 2 (some .int) pc (.ref b :: [a0]) rest (a0 :: .ref b :: rest) := jgo_V (As := [a0]) C ky_X3_property (by decide) rfl kc_X3_property (jWS_in 310 (by decide +kernel) rfl) kn_X3_property kl_X3_property ki_X3_property hsh rfl hcat d
theorem ky_X0_sumOf : jyOK yX0_sumOf 1 := by refine ⟨?_, ?_, ?_⟩ <;> decide +kernel
theorem kc_X0_sumOf : Cond.code yX0_sumOf cX0_sumOf 4 (some .int) ∈ jWS := jWS_in 309 (by decide +kernel) rfl
theorem kn_X0_sumOf : Cond.instanceMethod yX0_sumOf ∈ jWS := jWS_in 307 (by decide +kernel) rfl
theorem ki_X0_sumOf : Cond.initialized yX0_sumOf.cls ∈ jWS := jWS_in 13 (by decide +kernel) rfl
theorem kl_X0_sumOf : Cond.selects yX0_sumOf.cls yX0_sumOf yX0_sumOf ∈ jWS := jWS_in 308 (by decide +kernel) rfl
theorem go_X0_182 {p : Program} {l : Launch} {e : Env} {R : Room} {s : State} {m : MethodId} {args : Array Value} {below : List Frame} {meth : Method} {c : Code} {D : va_G} {cA : Nat → ClassId} {N0 : Nat} {cc : ByteArray} {nL : Nat} {lv : Nat} {Sh : jS} {pc : Nat} (C : jC p R s m args meth c D cA N0 cc nL RX0 lv) {b n0 : Nat} {a0 : Value} {rest : List Value} (hsh : Sh b = some (0, n0)) (hcat : (rest.map fun v => v.category).sum ≤ 8) (d : decode cc pc = .ok (.invokevirtual 182, 3)) : jGo p l e R s m args below meth c D cA N0 nL Sh yX0_sumOf cX0_sumOf 4 (some .int) pc (.ref b :: [a0]) rest (a0 :: .ref b :: rest) := jgo_V (As := [a0]) C ky_X0_sumOf (by decide) rfl kc_X0_sumOf (jWS_in 306 (by decide +kernel) rfl) kn_X0_sumOf kl_X0_sumOf ki_X0_sumOf hsh rfl hcat d
theorem ky_X0_loomsAsWideAs : jyOK yX0_loomsAsWideAs 1 := by refine ⟨?_, ?_, ?_⟩ <;> decide +kernel
theorem kc_X0_loomsAsWideAs : Cond.code yX0_loomsAsWideAs cX0_loomsAsWideAs 4 (some .int) ∈ jWS := jWS_in 317 (by decide +kernel) rfl
theorem kn_X0_loomsAsWideAs : Cond.instanceMethod yX0_loomsAsWideAs ∈ jWS := jWS_in 316 (by decide +kernel) rfl
theorem ki_X0_loomsAsWideAs : Cond.initialized yX0_loomsAsWideAs.cls ∈ jWS := jWS_in 13 (by decide +kernel) rfl
theorem kl_X0_loomsAsWideAs : Cond.selects yX0_loomsAsWideAs.cls yX0_loomsAsWideAs yX0_loomsAsWideAs ∈ jWS := jWS_in 2 (by decide +kernel) rfl
theorem go_X0_185 {p : Program} {l : Launch} {e : Env} {R : Room} {s : State} {m : MethodId} {args : Array Value} {below : List Frame} {meth : Method} {c : Code} {D : va_G} {cA : Nat → ClassId} {N0 : Nat} {cc : ByteArray} {nL : Nat} {lv : Nat} {Sh : jS} {pc : Nat} (C : jC p R s m args meth c D cA N0 cc nL RX0 lv) {b n0 : Nat} {a0 : Value} {rest : List Value} (hsh : Sh b = some (0, n0)) (hcat : (rest.map fun v => v.category).sum ≤ 8) (d : decode cc pc = .ok (.invokevirtual 185, 3)) : jGo p l e R s m args below meth c D cA N0 nL Sh yX0_loomsAsWideAs cX0_loomsAsWideAs 4 (some .int) pc (.ref b :: [a0]) rest (a0 :: .ref b :: rest) := jgo_V (As := [a0]) C ky_X0_loomsAsWideAs (by decide) rfl kc_X0_loomsAsWideAs (jWS_in 314 (by decide +kernel) rfl) kn_X0_loomsAsWideAs kl_X0_loomsAsWideAs ki_X0_loomsAsWideAs hsh rfl hcat d
theorem ky_J9_min_7cf53 : jyOK yJ9_min_7cf53 2 := by refine ⟨?_, ?_, ?_⟩ <;> decide +kernel
theorem kc_J9_min_7cf53 : Cond.code yJ9_min_7cf53 cJ9_min_7cf53 2 (some .int) ∈ jWS := jWS_in 423 (by decide +kernel) rfl
theorem ks_J9_min_7cf53 : Cond.static yJ9_min_7cf53 ∈ jWS := jWS_in 422 (by decide +kernel) rfl
theorem ki_J9_min_7cf53 : Cond.initialized yJ9_min_7cf53.cls ∈ jWS := jWS_in 24 (by decide +kernel) rfl
theorem go_X0_197 {p : Program} {l : Launch} {e : Env} {R : Room} {s : State} {m : MethodId} {args : Array Value} {below : List Frame} {meth : Method} {c : Code} {D : va_G} {cA : Nat → ClassId} {N0 : Nat} {cc : ByteArray} {nL : Nat} {lv : Nat} {Sh : jS} {pc : Nat} (C : jC p R s m args meth c D cA N0 cc nL RX0 lv) {a0 a1 : Value} {rest : List Value} (hcat : (rest.map fun v => v.category).sum ≤ 8) (d : decode cc pc = .ok (.invokestatic 197, 3)) : jGo p l e R s m args below meth c D cA N0 nL Sh yJ9_min_7cf53 cJ9_min_7cf53 2 (some .int) pc [a0, a1] rest (a1 :: a0 :: rest) := jgo_S (As := [a0, a1]) C ky_J9_min_7cf53 kc_J9_min_7cf53 (jWS_in 421 (by decide +kernel) rfl) ks_J9_min_7cf53 ki_J9_min_7cf53 rfl hcat d
theorem ky_J9_max_7cf53 : jyOK yJ9_max_7cf53 2 := by refine ⟨?_, ?_, ?_⟩ <;> decide +kernel
theorem kc_J9_max_7cf53 : Cond.code yJ9_max_7cf53 cJ9_max_7cf53 2 (some .int) ∈ jWS := jWS_in 426 (by decide +kernel) rfl
theorem ks_J9_max_7cf53 : Cond.static yJ9_max_7cf53 ∈ jWS := jWS_in 425 (by decide +kernel) rfl
theorem ki_J9_max_7cf53 : Cond.initialized yJ9_max_7cf53.cls ∈ jWS := jWS_in 24 (by decide +kernel) rfl
theorem go_X0_202 {p : Program} {l : Launch} {e : Env} {R : Room} {s : State} {m : MethodId} {args : Array Value} {below : List Frame} {meth : Method} {c : Code} {D : va_G} {cA : Nat → ClassId} {N0 : Nat} {cc : ByteArray} {nL : Nat} {lv : Nat} {Sh : jS} {pc : Nat} (C : jC p R s m args meth c D cA N0 cc nL RX0 lv) {a0 a1 : Value} {rest : List Value} (hcat : (rest.map fun v => v.category).sum ≤ 8) (d : decode cc pc = .ok (.invokestatic 202, 3)) : jGo p l e R s m args below meth c D cA N0 nL Sh yJ9_max_7cf53 cJ9_max_7cf53 2 (some .int) pc [a0, a1] rest (a1 :: a0 :: rest) := jgo_S (As := [a0, a1]) C ky_J9_max_7cf53 kc_J9_max_7cf53 (jWS_in 424 (by decide +kernel) rfl) ks_J9_max_7cf53 ki_J9_max_7cf53 rfl hcat d
theorem go_X3_11 {p : Program} {l : Launch} {e : Env} {R : Room} {s : State} {m : MethodId} {args : Array Value} {below : List Frame} {meth : Method} {c : Code} {D : va_G} {cA : Nat → ClassId} {N0 : Nat} {cc : ByteArray} {nL : Nat} {lv : Nat} {Sh : jS} {pc : Nat} (C : jC p R s m args meth c D cA N0 cc nL RX3 lv) {b : Nat} {rest : List Value} (hcat : (rest.map fun v => v.category).sum ≤ 8) (d : decode cc pc = .ok (.invokespecial 11, 3)) : jGo p l e R s m args below meth c D cA N0 nL Sh yX4_init cX4_init 1 none pc (.ref b :: []) rest (.ref b :: rest) := jgo_IN (host := RX5) (As := []) C ky_X4_init rfl kc_X4_init (by decide +kernel) kn_X4_init ki_X4_init rfl hcat d
theorem go_X3_37 {p : Program} {l : Launch} {e : Env} {R : Room} {s : State} {m : MethodId} {args : Array Value} {below : List Frame} {meth : Method} {c : Code} {D : va_G} {cA : Nat → ClassId} {N0 : Nat} {cc : ByteArray} {nL : Nat} {lv : Nat} {Sh : jS} {pc : Nat} (C : jC p R s m args meth c D cA N0 cc nL RX3 lv) {a0 a1 : Value} {rest : List Value} (hcat : (rest.map fun v => v.category).sum ≤ 8) (d : decode cc pc = .ok (.invokestatic 37, 3)) : jGo p l e R s m args below meth c D cA N0 nL Sh yJ9_min_7cf53 cJ9_min_7cf53 2 (some .int) pc [a0, a1] rest (a1 :: a0 :: rest) := jgo_S (As := [a0, a1]) C ky_J9_min_7cf53 kc_J9_min_7cf53 (jWS_in 629 (by decide +kernel) rfl) ks_J9_min_7cf53 ki_J9_min_7cf53 rfl hcat d
theorem go_X3_49 {p : Program} {l : Launch} {e : Env} {R : Room} {s : State} {m : MethodId} {args : Array Value} {below : List Frame} {meth : Method} {c : Code} {D : va_G} {cA : Nat → ClassId} {N0 : Nat} {cc : ByteArray} {nL : Nat} {lv : Nat} {Sh : jS} {pc : Nat} (C : jC p R s m args meth c D cA N0 cc nL RX3 lv) {b n0 : Nat} {a0 : Value} {rest : List Value} (hsh : Sh b = some (4, n0)) (hcat : (rest.map fun v => v.category).sum ≤ 8) (d : decode cc pc = .ok (.invokevirtual 49, 3)) : jGo p l e R s m args below meth c D cA N0 nL Sh yX4_copyFrom cX4_copyFrom 3 none pc (.ref b :: [a0]) rest (a0 :: .ref b :: rest) := jgo_V (As := [a0]) C ky_X4_copyFrom (by decide) rfl kc_X4_copyFrom (jWS_in 490 (by decide +kernel) rfl) kn_X4_copyFrom kl_X4_copyFrom ki_X4_copyFrom hsh rfl hcat d
theorem ky_X5_count : jyOK yX5_count 1 := by refine ⟨?_, ?_, ?_⟩ <;> decide +kernel
theorem kc_X5_count : Cond.code yX5_count cX5_count 2 (some .int) ∈ jWS := jWS_in 226 (by decide +kernel) rfl
theorem kn_X5_count : Cond.instanceMethod yX5_count ∈ jWS := jWS_in 224 (by decide +kernel) rfl
theorem ki_X5_count : Cond.initialized yX5_count.cls ∈ jWS := jWS_in 12 (by decide +kernel) rfl
theorem kl_X5_count : Cond.selects yX5_count.cls yX5_count yX5_count ∈ jWS := jWS_in 225 (by decide +kernel) rfl
theorem go_L_9 {p : Program} {l : Launch} {e : Env} {R : Room} {s : State} {m : MethodId} {args : Array Value} {below : List Frame} {meth : Method} {c : Code} {D : va_G} {cA : Nat → ClassId} {N0 : Nat} {cc : ByteArray} {nL : Nat} {lv : Nat} {Sh : jS} {pc : Nat} (C : jC p R s m args meth c D cA N0 cc nL RL lv) {b n0 : Nat} {a0 : Value} {rest : List Value} (hsh : Sh b = some (5, n0)) (hcat : (rest.map fun v => v.category).sum ≤ 8) (d : decode cc pc = .ok (.invokevirtual 9, 3)) : jGo p l e R s m args below meth c D cA N0 nL Sh yX5_count cX5_count 2 (some .int) pc (.ref b :: [a0]) rest (a0 :: .ref b :: rest) := jgo_V (As := [a0]) C ky_X5_count (by decide) rfl kc_X5_count (jWS_in 223 (by decide +kernel) rfl) kn_X5_count kl_X5_count ki_X5_count hsh rfl hcat d
theorem ky_X5_orderOf : jyOK yX5_orderOf 2 := by refine ⟨?_, ?_, ?_⟩ <;> decide +kernel
theorem kc_X5_orderOf : Cond.code yX5_orderOf cX5_orderOf 3 (some .int) ∈ jWS := jWS_in 403 (by decide +kernel) rfl
theorem kn_X5_orderOf : Cond.instanceMethod yX5_orderOf ∈ jWS := jWS_in 401 (by decide +kernel) rfl
theorem ki_X5_orderOf : Cond.initialized yX5_orderOf.cls ∈ jWS := jWS_in 12 (by decide +kernel) rfl
theorem kl_X5_orderOf : Cond.selects yX5_orderOf.cls yX5_orderOf yX5_orderOf ∈ jWS := jWS_in 402 (by decide +kernel) rfl
theorem go_L_15 {p : Program} {l : Launch} {e : Env} {R : Room} {s : State} {m : MethodId} {args : Array Value} {below : List Frame} {meth : Method} {c : Code} {D : va_G} {cA : Nat → ClassId} {N0 : Nat} {cc : ByteArray} {nL : Nat} {lv : Nat} {Sh : jS} {pc : Nat} (C : jC p R s m args meth c D cA N0 cc nL RL lv) {b n0 : Nat} {a0 a1 : Value} {rest : List Value} (hsh : Sh b = some (5, n0)) (hcat : (rest.map fun v => v.category).sum ≤ 8) (d : decode cc pc = .ok (.invokevirtual 15, 3)) : jGo p l e R s m args below meth c D cA N0 nL Sh yX5_orderOf cX5_orderOf 3 (some .int) pc (.ref b :: [a0, a1]) rest (a1 :: a0 :: .ref b :: rest) := jgo_V (As := [a0, a1]) C ky_X5_orderOf (by decide) rfl kc_X5_orderOf (jWS_in 400 (by decide +kernel) rfl) kn_X5_orderOf kl_X5_orderOf ki_X5_orderOf hsh rfl hcat d
theorem ky_X5_order : jyOK yX5_order 5 := by refine ⟨?_, ?_, ?_⟩ <;> decide +kernel
theorem kc_X5_order : Cond.code yX5_order cX5_order 6 (some .int) ∈ jWS := jWS_in 506 (by decide +kernel) rfl
theorem kn_X5_order : Cond.instanceMethod yX5_order ∈ jWS := jWS_in 504 (by decide +kernel) rfl
theorem ki_X5_order : Cond.initialized yX5_order.cls ∈ jWS := jWS_in 12 (by decide +kernel) rfl
theorem kl_X5_order : Cond.selects yX5_order.cls yX5_order yX5_order ∈ jWS := jWS_in 505 (by decide +kernel) rfl
theorem go_L_19 {p : Program} {l : Launch} {e : Env} {R : Room} {s : State} {m : MethodId} {args : Array Value} {below : List Frame} {meth : Method} {c : Code} {D : va_G} {cA : Nat → ClassId} {N0 : Nat} {cc : ByteArray} {nL : Nat} {lv : Nat} {Sh : jS} {pc : Nat} (C : jC p R s m args meth c D cA N0 cc nL RL lv) {b n0 : Nat} {a0 a1 a2 a3 a4 : Value} {rest : List Value} (hsh : Sh b = some (5, n0)) (hcat : (rest.map fun v => v.category).sum ≤ 8) (d : decode cc pc = .ok (.invokevirtual 19, 3)) : jGo p l e R s m args below meth c D cA N0 nL Sh yX5_order cX5_order 6 (some .int) pc (.ref b :: [a0, a1, a2, a3, a4]) rest (a4 :: a3 :: a2 :: a1 :: a0 :: .ref b :: rest) := jgo_V (As := [a0, a1, a2, a3, a4]) C ky_X5_order (by decide) rfl kc_X5_order (jWS_in 503 (by decide +kernel) rfl) kn_X5_order kl_X5_order ki_X5_order hsh rfl hcat d
theorem ky_X5_yarn : jyOK yX5_yarn 3 := by refine ⟨?_, ?_, ?_⟩ <;> decide +kernel
theorem kc_X5_yarn : Cond.code yX5_yarn cX5_yarn 5 (some .int) ∈ jWS := jWS_in 539 (by decide +kernel) rfl
theorem kn_X5_yarn : Cond.instanceMethod yX5_yarn ∈ jWS := jWS_in 537 (by decide +kernel) rfl
theorem ki_X5_yarn : Cond.initialized yX5_yarn.cls ∈ jWS := jWS_in 12 (by decide +kernel) rfl
theorem kl_X5_yarn : Cond.selects yX5_yarn.cls yX5_yarn yX5_yarn ∈ jWS := jWS_in 538 (by decide +kernel) rfl
theorem go_L_25 {p : Program} {l : Launch} {e : Env} {R : Room} {s : State} {m : MethodId} {args : Array Value} {below : List Frame} {meth : Method} {c : Code} {D : va_G} {cA : Nat → ClassId} {N0 : Nat} {cc : ByteArray} {nL : Nat} {lv : Nat} {Sh : jS} {pc : Nat} (C : jC p R s m args meth c D cA N0 cc nL RL lv) {b n0 : Nat} {a0 a1 a2 : Value} {rest : List Value} (hsh : Sh b = some (5, n0)) (hcat : (rest.map fun v => v.category).sum ≤ 8) (d : decode cc pc = .ok (.invokevirtual 25, 3)) : jGo p l e R s m args below meth c D cA N0 nL Sh yX5_yarn cX5_yarn 5 (some .int) pc (.ref b :: [a0, a1, a2]) rest (a2 :: a1 :: a0 :: .ref b :: rest) := jgo_V (As := [a0, a1, a2]) C ky_X5_yarn (by decide) rfl kc_X5_yarn (jWS_in 536 (by decide +kernel) rfl) kn_X5_yarn kl_X5_yarn ki_X5_yarn hsh rfl hcat d
theorem ky_X5_give : jyOK yX5_give 4 := by refine ⟨?_, ?_, ?_⟩ <;> decide +kernel
theorem kc_X5_give : Cond.code yX5_give cX5_give 7 (some .int) ∈ jWS := jWS_in 559 (by decide +kernel) rfl
theorem kn_X5_give : Cond.instanceMethod yX5_give ∈ jWS := jWS_in 557 (by decide +kernel) rfl
theorem ki_X5_give : Cond.initialized yX5_give.cls ∈ jWS := jWS_in 12 (by decide +kernel) rfl
theorem kl_X5_give : Cond.selects yX5_give.cls yX5_give yX5_give ∈ jWS := jWS_in 558 (by decide +kernel) rfl
theorem go_L_29 {p : Program} {l : Launch} {e : Env} {R : Room} {s : State} {m : MethodId} {args : Array Value} {below : List Frame} {meth : Method} {c : Code} {D : va_G} {cA : Nat → ClassId} {N0 : Nat} {cc : ByteArray} {nL : Nat} {lv : Nat} {Sh : jS} {pc : Nat} (C : jC p R s m args meth c D cA N0 cc nL RL lv) {b n0 : Nat} {a0 a1 a2 a3 : Value} {rest : List Value} (hsh : Sh b = some (5, n0)) (hcat : (rest.map fun v => v.category).sum ≤ 8) (d : decode cc pc = .ok (.invokevirtual 29, 3)) : jGo p l e R s m args below meth c D cA N0 nL Sh yX5_give cX5_give 7 (some .int) pc (.ref b :: [a0, a1, a2, a3]) rest (a3 :: a2 :: a1 :: a0 :: .ref b :: rest) := jgo_V (As := [a0, a1, a2, a3]) C ky_X5_give (by decide) rfl kc_X5_give (jWS_in 556 (by decide +kernel) rfl) kn_X5_give kl_X5_give ki_X5_give hsh rfl hcat d
theorem ky_X5_undo : jyOK yX5_undo 0 := by refine ⟨?_, ?_, ?_⟩ <;> decide +kernel
theorem kc_X5_undo : Cond.code yX5_undo cX5_undo 1 (some .int) ∈ jWS := jWS_in 584 (by decide +kernel) rfl
theorem kn_X5_undo : Cond.instanceMethod yX5_undo ∈ jWS := jWS_in 582 (by decide +kernel) rfl
theorem ki_X5_undo : Cond.initialized yX5_undo.cls ∈ jWS := jWS_in 12 (by decide +kernel) rfl
theorem kl_X5_undo : Cond.selects yX5_undo.cls yX5_undo yX5_undo ∈ jWS := jWS_in 583 (by decide +kernel) rfl
theorem go_L_35 {p : Program} {l : Launch} {e : Env} {R : Room} {s : State} {m : MethodId} {args : Array Value} {below : List Frame} {meth : Method} {c : Code} {D : va_G} {cA : Nat → ClassId} {N0 : Nat} {cc : ByteArray} {nL : Nat} {lv : Nat} {Sh : jS} {pc : Nat} (C : jC p R s m args meth c D cA N0 cc nL RL lv) {b n0 : Nat} {rest : List Value} (hsh : Sh b = some (5, n0)) (hcat : (rest.map fun v => v.category).sum ≤ 8) (d : decode cc pc = .ok (.invokevirtual 35, 3)) : jGo p l e R s m args below meth c D cA N0 nL Sh yX5_undo cX5_undo 1 (some .int) pc (.ref b :: []) rest (.ref b :: rest) := jgo_V (As := []) C ky_X5_undo (by decide) rfl kc_X5_undo (jWS_in 581 (by decide +kernel) rfl) kn_X5_undo kl_X5_undo ki_X5_undo hsh rfl hcat d
theorem ky_X5_share : jyOK yX5_share 2 := by refine ⟨?_, ?_, ?_⟩ <;> decide +kernel
theorem kc_X5_share : Cond.code yX5_share cX5_share 3 (some .int) ∈ jWS := jWS_in 332 (by decide +kernel) rfl
theorem kn_X5_share : Cond.instanceMethod yX5_share ∈ jWS := jWS_in 330 (by decide +kernel) rfl
theorem ki_X5_share : Cond.initialized yX5_share.cls ∈ jWS := jWS_in 12 (by decide +kernel) rfl
theorem kl_X5_share : Cond.selects yX5_share.cls yX5_share yX5_share ∈ jWS := jWS_in 331 (by decide +kernel) rfl
theorem go_L_39 {p : Program} {l : Launch} {e : Env} {R : Room} {s : State} {m : MethodId} {args : Array Value} {below : List Frame} {meth : Method} {c : Code} {D : va_G} {cA : Nat → ClassId} {N0 : Nat} {cc : ByteArray} {nL : Nat} {lv : Nat} {Sh : jS} {pc : Nat} (C : jC p R s m args meth c D cA N0 cc nL RL lv) {b n0 : Nat} {a0 a1 : Value} {rest : List Value} (hsh : Sh b = some (5, n0)) (hcat : (rest.map fun v => v.category).sum ≤ 8) (d : decode cc pc = .ok (.invokevirtual 39, 3)) : jGo p l e R s m args below meth c D cA N0 nL Sh yX5_share cX5_share 3 (some .int) pc (.ref b :: [a0, a1]) rest (a1 :: a0 :: .ref b :: rest) := jgo_V (As := [a0, a1]) C ky_X5_share (by decide) rfl kc_X5_share (jWS_in 329 (by decide +kernel) rfl) kn_X5_share kl_X5_share ki_X5_share hsh rfl hcat d
theorem ky_X5_next : jyOK yX5_next 2 := by refine ⟨?_, ?_, ?_⟩ <;> decide +kernel
theorem kc_X5_next : Cond.code yX5_next cX5_next 4 (some .int) ∈ jWS := jWS_in 359 (by decide +kernel) rfl
theorem kn_X5_next : Cond.instanceMethod yX5_next ∈ jWS := jWS_in 357 (by decide +kernel) rfl
theorem ki_X5_next : Cond.initialized yX5_next.cls ∈ jWS := jWS_in 12 (by decide +kernel) rfl
theorem kl_X5_next : Cond.selects yX5_next.cls yX5_next yX5_next ∈ jWS := jWS_in 358 (by decide +kernel) rfl
theorem go_L_42 {p : Program} {l : Launch} {e : Env} {R : Room} {s : State} {m : MethodId} {args : Array Value} {below : List Frame} {meth : Method} {c : Code} {D : va_G} {cA : Nat → ClassId} {N0 : Nat} {cc : ByteArray} {nL : Nat} {lv : Nat} {Sh : jS} {pc : Nat} (C : jC p R s m args meth c D cA N0 cc nL RL lv) {b n0 : Nat} {a0 a1 : Value} {rest : List Value} (hsh : Sh b = some (5, n0)) (hcat : (rest.map fun v => v.category).sum ≤ 8) (d : decode cc pc = .ok (.invokevirtual 42, 3)) : jGo p l e R s m args below meth c D cA N0 nL Sh yX5_next cX5_next 4 (some .int) pc (.ref b :: [a0, a1]) rest (a1 :: a0 :: .ref b :: rest) := jgo_V (As := [a0, a1]) C ky_X5_next (by decide) rfl kc_X5_next (jWS_in 356 (by decide +kernel) rfl) kn_X5_next kl_X5_next ki_X5_next hsh rfl hcat d
theorem ky_X5_weaver : jyOK yX5_weaver 2 := by refine ⟨?_, ?_, ?_⟩ <;> decide +kernel
theorem kc_X5_weaver : Cond.code yX5_weaver cX5_weaver 3 (some .int) ∈ jWS := jWS_in 394 (by decide +kernel) rfl
theorem kn_X5_weaver : Cond.instanceMethod yX5_weaver ∈ jWS := jWS_in 392 (by decide +kernel) rfl
theorem ki_X5_weaver : Cond.initialized yX5_weaver.cls ∈ jWS := jWS_in 12 (by decide +kernel) rfl
theorem kl_X5_weaver : Cond.selects yX5_weaver.cls yX5_weaver yX5_weaver ∈ jWS := jWS_in 393 (by decide +kernel) rfl
theorem go_L_45 {p : Program} {l : Launch} {e : Env} {R : Room} {s : State} {m : MethodId} {args : Array Value} {below : List Frame} {meth : Method} {c : Code} {D : va_G} {cA : Nat → ClassId} {N0 : Nat} {cc : ByteArray} {nL : Nat} {lv : Nat} {Sh : jS} {pc : Nat} (C : jC p R s m args meth c D cA N0 cc nL RL lv) {b n0 : Nat} {a0 a1 : Value} {rest : List Value} (hsh : Sh b = some (5, n0)) (hcat : (rest.map fun v => v.category).sum ≤ 8) (d : decode cc pc = .ok (.invokevirtual 45, 3)) : jGo p l e R s m args below meth c D cA N0 nL Sh yX5_weaver cX5_weaver 3 (some .int) pc (.ref b :: [a0, a1]) rest (a1 :: a0 :: .ref b :: rest) := jgo_V (As := [a0, a1]) C ky_X5_weaver (by decide) rfl kc_X5_weaver (jWS_in 391 (by decide +kernel) rfl) kn_X5_weaver kl_X5_weaver ki_X5_weaver hsh rfl hcat d
theorem ky_L_placeOf : jyOK yL_placeOf 2 := by refine ⟨?_, ?_, ?_⟩ <;> decide +kernel
theorem ks_L_placeOf : Cond.static yL_placeOf ∈ jWS := jWS_in 398 (by decide +kernel) rfl
theorem ki_L_placeOf : Cond.initialized yL_placeOf.cls ∈ jWS := jWS_in 11 (by decide +kernel) rfl
theorem ky_X5_evenness : jyOK yX5_evenness 0 := by refine ⟨?_, ?_, ?_⟩ <;> decide +kernel
theorem kc_X5_evenness : Cond.code yX5_evenness cX5_evenness 1 (some .double) ∈ jWS := jWS_in 416 (by decide +kernel) rfl
theorem kn_X5_evenness : Cond.instanceMethod yX5_evenness ∈ jWS := jWS_in 414 (by decide +kernel) rfl
theorem ki_X5_evenness : Cond.initialized yX5_evenness.cls ∈ jWS := jWS_in 12 (by decide +kernel) rfl
theorem kl_X5_evenness : Cond.selects yX5_evenness.cls yX5_evenness yX5_evenness ∈ jWS := jWS_in 415 (by decide +kernel) rfl
theorem go_L_54 {p : Program} {l : Launch} {e : Env} {R : Room} {s : State} {m : MethodId} {args : Array Value} {below : List Frame} {meth : Method} {c : Code} {D : va_G} {cA : Nat → ClassId} {N0 : Nat} {cc : ByteArray} {nL : Nat} {lv : Nat} {Sh : jS} {pc : Nat} (C : jC p R s m args meth c D cA N0 cc nL RL lv) {b n0 : Nat} {rest : List Value} (hsh : Sh b = some (5, n0)) (hcat : (rest.map fun v => v.category).sum ≤ 8) (d : decode cc pc = .ok (.invokevirtual 54, 3)) : jGo p l e R s m args below meth c D cA N0 nL Sh yX5_evenness cX5_evenness 1 (some .double) pc (.ref b :: []) rest (.ref b :: rest) := jgo_V (As := []) C ky_X5_evenness (by decide) rfl kc_X5_evenness (jWS_in 413 (by decide +kernel) rfl) kn_X5_evenness kl_X5_evenness ki_X5_evenness hsh rfl hcat d
theorem ky_X5_wovenBy : jyOK yX5_wovenBy 2 := by refine ⟨?_, ?_, ?_⟩ <;> decide +kernel
theorem kc_X5_wovenBy : Cond.code yX5_wovenBy cX5_wovenBy 4 (some .int) ∈ jWS := jWS_in 430 (by decide +kernel) rfl
theorem kn_X5_wovenBy : Cond.instanceMethod yX5_wovenBy ∈ jWS := jWS_in 428 (by decide +kernel) rfl
theorem ki_X5_wovenBy : Cond.initialized yX5_wovenBy.cls ∈ jWS := jWS_in 12 (by decide +kernel) rfl
theorem kl_X5_wovenBy : Cond.selects yX5_wovenBy.cls yX5_wovenBy yX5_wovenBy ∈ jWS := jWS_in 429 (by decide +kernel) rfl
theorem go_L_58 {p : Program} {l : Launch} {e : Env} {R : Room} {s : State} {m : MethodId} {args : Array Value} {below : List Frame} {meth : Method} {c : Code} {D : va_G} {cA : Nat → ClassId} {N0 : Nat} {cc : ByteArray} {nL : Nat} {lv : Nat} {Sh : jS} {pc : Nat} (C : jC p R s m args meth c D cA N0 cc nL RL lv) {b n0 : Nat} {a0 a1 : Value} {rest : List Value} (hsh : Sh b = some (5, n0)) (hcat : (rest.map fun v => v.category).sum ≤ 8) (d : decode cc pc = .ok (.invokevirtual 58, 3)) : jGo p l e R s m args below meth c D cA N0 nL Sh yX5_wovenBy cX5_wovenBy 4 (some .int) pc (.ref b :: [a0, a1]) rest (a1 :: a0 :: .ref b :: rest) := jgo_V (As := [a0, a1]) C ky_X5_wovenBy (by decide) rfl kc_X5_wovenBy (jWS_in 427 (by decide +kernel) rfl) kn_X5_wovenBy kl_X5_wovenBy ki_X5_wovenBy hsh rfl hcat d
theorem ky_X5_dueNow : jyOK yX5_dueNow 2 := by refine ⟨?_, ?_, ?_⟩ <;> decide +kernel
theorem kc_X5_dueNow : Cond.code yX5_dueNow cX5_dueNow 4 (some .int) ∈ jWS := jWS_in 436 (by decide +kernel) rfl
theorem kn_X5_dueNow : Cond.instanceMethod yX5_dueNow ∈ jWS := jWS_in 434 (by decide +kernel) rfl
theorem ki_X5_dueNow : Cond.initialized yX5_dueNow.cls ∈ jWS := jWS_in 12 (by decide +kernel) rfl
theorem kl_X5_dueNow : Cond.selects yX5_dueNow.cls yX5_dueNow yX5_dueNow ∈ jWS := jWS_in 435 (by decide +kernel) rfl
theorem go_L_61 {p : Program} {l : Launch} {e : Env} {R : Room} {s : State} {m : MethodId} {args : Array Value} {below : List Frame} {meth : Method} {c : Code} {D : va_G} {cA : Nat → ClassId} {N0 : Nat} {cc : ByteArray} {nL : Nat} {lv : Nat} {Sh : jS} {pc : Nat} (C : jC p R s m args meth c D cA N0 cc nL RL lv) {b n0 : Nat} {a0 a1 : Value} {rest : List Value} (hsh : Sh b = some (5, n0)) (hcat : (rest.map fun v => v.category).sum ≤ 8) (d : decode cc pc = .ok (.invokevirtual 61, 3)) : jGo p l e R s m args below meth c D cA N0 nL Sh yX5_dueNow cX5_dueNow 4 (some .int) pc (.ref b :: [a0, a1]) rest (a1 :: a0 :: .ref b :: rest) := jgo_V (As := [a0, a1]) C ky_X5_dueNow (by decide) rfl kc_X5_dueNow (jWS_in 433 (by decide +kernel) rfl) kn_X5_dueNow kl_X5_dueNow ki_X5_dueNow hsh rfl hcat d
theorem ky_L_cell : jyOK yL_cell 2 := by refine ⟨?_, ?_, ?_⟩ <;> decide +kernel
theorem ks_L_cell : Cond.static yL_cell ∈ jWS := jWS_in 323 (by decide +kernel) rfl
theorem ki_L_cell : Cond.initialized yL_cell.cls ∈ jWS := jWS_in 11 (by decide +kernel) rfl
theorem ky_L_low : jyOK yL_low 2 := by refine ⟨?_, ?_, ?_⟩ <;> decide +kernel
theorem ks_L_low : Cond.static yL_low ∈ jWS := jWS_in 319 (by decide +kernel) rfl
theorem ki_L_low : Cond.initialized yL_low.cls ∈ jWS := jWS_in 11 (by decide +kernel) rfl
theorem ky_X5_loom : jyOK yX5_loom 4 := by refine ⟨?_, ?_, ?_⟩ <;> decide +kernel
theorem kc_X5_loom : Cond.code yX5_loom cX5_loom 7 (some .int) ∈ jWS := jWS_in 469 (by decide +kernel) rfl
theorem kn_X5_loom : Cond.instanceMethod yX5_loom ∈ jWS := jWS_in 467 (by decide +kernel) rfl
theorem ki_X5_loom : Cond.initialized yX5_loom.cls ∈ jWS := jWS_in 12 (by decide +kernel) rfl
theorem kl_X5_loom : Cond.selects yX5_loom.cls yX5_loom yX5_loom ∈ jWS := jWS_in 468 (by decide +kernel) rfl
theorem go_L_71 {p : Program} {l : Launch} {e : Env} {R : Room} {s : State} {m : MethodId} {args : Array Value} {below : List Frame} {meth : Method} {c : Code} {D : va_G} {cA : Nat → ClassId} {N0 : Nat} {cc : ByteArray} {nL : Nat} {lv : Nat} {Sh : jS} {pc : Nat} (C : jC p R s m args meth c D cA N0 cc nL RL lv) {b n0 : Nat} {a0 a1 a2 a3 : Value} {rest : List Value} (hsh : Sh b = some (5, n0)) (hcat : (rest.map fun v => v.category).sum ≤ 8) (d : decode cc pc = .ok (.invokevirtual 71, 3)) : jGo p l e R s m args below meth c D cA N0 nL Sh yX5_loom cX5_loom 7 (some .int) pc (.ref b :: [a0, a1, a2, a3]) rest (a3 :: a2 :: a1 :: a0 :: .ref b :: rest) := jgo_V (As := [a0, a1, a2, a3]) C ky_X5_loom (by decide) rfl kc_X5_loom (jWS_in 466 (by decide +kernel) rfl) kn_X5_loom kl_X5_loom ki_X5_loom hsh rfl hcat d
theorem ky_L_order : jyOK yL_order 6 := by refine ⟨?_, ?_, ?_⟩ <;> decide +kernel
theorem ks_L_order : Cond.static yL_order ∈ jWS := jWS_in 500 (by decide +kernel) rfl
theorem ki_L_order : Cond.initialized yL_order.cls ∈ jWS := jWS_in 11 (by decide +kernel) rfl
theorem ky_L_yarn : jyOK yL_yarn 4 := by refine ⟨?_, ?_, ?_⟩ <;> decide +kernel
theorem ks_L_yarn : Cond.static yL_yarn ∈ jWS := jWS_in 534 (by decide +kernel) rfl
theorem ki_L_yarn : Cond.initialized yL_yarn.cls ∈ jWS := jWS_in 11 (by decide +kernel) rfl
theorem ky_X5_store : jyOK yX5_store 2 := by refine ⟨?_, ?_, ?_⟩ <;> decide +kernel
theorem kc_X5_store : Cond.code yX5_store cX5_store 3 (some .int) ∈ jWS := jWS_in 549 (by decide +kernel) rfl
theorem kn_X5_store : Cond.instanceMethod yX5_store ∈ jWS := jWS_in 547 (by decide +kernel) rfl
theorem ki_X5_store : Cond.initialized yX5_store.cls ∈ jWS := jWS_in 12 (by decide +kernel) rfl
theorem kl_X5_store : Cond.selects yX5_store.cls yX5_store yX5_store ∈ jWS := jWS_in 548 (by decide +kernel) rfl
theorem go_L_80 {p : Program} {l : Launch} {e : Env} {R : Room} {s : State} {m : MethodId} {args : Array Value} {below : List Frame} {meth : Method} {c : Code} {D : va_G} {cA : Nat → ClassId} {N0 : Nat} {cc : ByteArray} {nL : Nat} {lv : Nat} {Sh : jS} {pc : Nat} (C : jC p R s m args meth c D cA N0 cc nL RL lv) {b n0 : Nat} {a0 a1 : Value} {rest : List Value} (hsh : Sh b = some (5, n0)) (hcat : (rest.map fun v => v.category).sum ≤ 8) (d : decode cc pc = .ok (.invokevirtual 80, 3)) : jGo p l e R s m args below meth c D cA N0 nL Sh yX5_store cX5_store 3 (some .int) pc (.ref b :: [a0, a1]) rest (a1 :: a0 :: .ref b :: rest) := jgo_V (As := [a0, a1]) C ky_X5_store (by decide) rfl kc_X5_store (jWS_in 546 (by decide +kernel) rfl) kn_X5_store kl_X5_store ki_X5_store hsh rfl hcat d
theorem ky_L_give : jyOK yL_give 5 := by refine ⟨?_, ?_, ?_⟩ <;> decide +kernel
theorem ks_L_give : Cond.static yL_give ∈ jWS := jWS_in 553 (by decide +kernel) rfl
theorem ki_L_give : Cond.initialized yL_give.cls ∈ jWS := jWS_in 11 (by decide +kernel) rfl
theorem ky_X5_cancel : jyOK yX5_cancel 1 := by refine ⟨?_, ?_, ?_⟩ <;> decide +kernel
theorem kc_X5_cancel : Cond.code yX5_cancel cX5_cancel 4 (some .int) ∈ jWS := jWS_in 564 (by decide +kernel) rfl
theorem kn_X5_cancel : Cond.instanceMethod yX5_cancel ∈ jWS := jWS_in 562 (by decide +kernel) rfl
theorem ki_X5_cancel : Cond.initialized yX5_cancel.cls ∈ jWS := jWS_in 12 (by decide +kernel) rfl
theorem kl_X5_cancel : Cond.selects yX5_cancel.cls yX5_cancel yX5_cancel ∈ jWS := jWS_in 563 (by decide +kernel) rfl
theorem go_L_86 {p : Program} {l : Launch} {e : Env} {R : Room} {s : State} {m : MethodId} {args : Array Value} {below : List Frame} {meth : Method} {c : Code} {D : va_G} {cA : Nat → ClassId} {N0 : Nat} {cc : ByteArray} {nL : Nat} {lv : Nat} {Sh : jS} {pc : Nat} (C : jC p R s m args meth c D cA N0 cc nL RL lv) {b n0 : Nat} {a0 : Value} {rest : List Value} (hsh : Sh b = some (5, n0)) (hcat : (rest.map fun v => v.category).sum ≤ 8) (d : decode cc pc = .ok (.invokevirtual 86, 3)) : jGo p l e R s m args below meth c D cA N0 nL Sh yX5_cancel cX5_cancel 4 (some .int) pc (.ref b :: [a0]) rest (a0 :: .ref b :: rest) := jgo_V (As := [a0]) C ky_X5_cancel (by decide) rfl kc_X5_cancel (jWS_in 561 (by decide +kernel) rfl) kn_X5_cancel kl_X5_cancel ki_X5_cancel hsh rfl hcat d
theorem ky_X5_set : jyOK yX5_set 2 := by refine ⟨?_, ?_, ?_⟩ <;> decide +kernel
theorem kc_X5_set : Cond.code yX5_set cX5_set 4 (some .int) ∈ jWS := jWS_in 573 (by decide +kernel) rfl
theorem kn_X5_set : Cond.instanceMethod yX5_set ∈ jWS := jWS_in 571 (by decide +kernel) rfl
theorem ki_X5_set : Cond.initialized yX5_set.cls ∈ jWS := jWS_in 12 (by decide +kernel) rfl
theorem kl_X5_set : Cond.selects yX5_set.cls yX5_set yX5_set ∈ jWS := jWS_in 572 (by decide +kernel) rfl
theorem go_L_89 {p : Program} {l : Launch} {e : Env} {R : Room} {s : State} {m : MethodId} {args : Array Value} {below : List Frame} {meth : Method} {c : Code} {D : va_G} {cA : Nat → ClassId} {N0 : Nat} {cc : ByteArray} {nL : Nat} {lv : Nat} {Sh : jS} {pc : Nat} (C : jC p R s m args meth c D cA N0 cc nL RL lv) {b n0 : Nat} {a0 a1 : Value} {rest : List Value} (hsh : Sh b = some (5, n0)) (hcat : (rest.map fun v => v.category).sum ≤ 8) (d : decode cc pc = .ok (.invokevirtual 89, 3)) : jGo p l e R s m args below meth c D cA N0 nL Sh yX5_set cX5_set 4 (some .int) pc (.ref b :: [a0, a1]) rest (a1 :: a0 :: .ref b :: rest) := jgo_V (As := [a0, a1]) C ky_X5_set (by decide) rfl kc_X5_set (jWS_in 570 (by decide +kernel) rfl) kn_X5_set kl_X5_set ki_X5_set hsh rfl hcat d
theorem ky_L_undo : jyOK yL_undo 1 := by refine ⟨?_, ?_, ?_⟩ <;> decide +kernel
theorem ks_L_undo : Cond.static yL_undo ∈ jWS := jWS_in 579 (by decide +kernel) rfl
theorem ki_L_undo : Cond.initialized yL_undo.cls ∈ jWS := jWS_in 11 (by decide +kernel) rfl
theorem ky_X5_pass : jyOK yX5_pass 1 := by refine ⟨?_, ?_, ?_⟩ <;> decide +kernel
theorem kc_X5_pass : Cond.code yX5_pass cX5_pass 4 (some .int) ∈ jWS := jWS_in 589 (by decide +kernel) rfl
theorem kn_X5_pass : Cond.instanceMethod yX5_pass ∈ jWS := jWS_in 587 (by decide +kernel) rfl
theorem ki_X5_pass : Cond.initialized yX5_pass.cls ∈ jWS := jWS_in 12 (by decide +kernel) rfl
theorem kl_X5_pass : Cond.selects yX5_pass.cls yX5_pass yX5_pass ∈ jWS := jWS_in 588 (by decide +kernel) rfl
theorem go_L_95 {p : Program} {l : Launch} {e : Env} {R : Room} {s : State} {m : MethodId} {args : Array Value} {below : List Frame} {meth : Method} {c : Code} {D : va_G} {cA : Nat → ClassId} {N0 : Nat} {cc : ByteArray} {nL : Nat} {lv : Nat} {Sh : jS} {pc : Nat} (C : jC p R s m args meth c D cA N0 cc nL RL lv) {b n0 : Nat} {a0 : Value} {rest : List Value} (hsh : Sh b = some (5, n0)) (hcat : (rest.map fun v => v.category).sum ≤ 8) (d : decode cc pc = .ok (.invokevirtual 95, 3)) : jGo p l e R s m args below meth c D cA N0 nL Sh yX5_pass cX5_pass 4 (some .int) pc (.ref b :: [a0]) rest (a0 :: .ref b :: rest) := jgo_V (As := [a0]) C ky_X5_pass (by decide) rfl kc_X5_pass (jWS_in 586 (by decide +kernel) rfl) kn_X5_pass kl_X5_pass ki_X5_pass hsh rfl hcat d
theorem ky_X5_init : jyOK yX5_init 0 := by refine ⟨?_, ?_, ?_⟩ <;> decide +kernel
theorem kc_X5_init : Cond.code yX5_init cX5_init 2 none ∈ jWS := jWS_in 29 (by decide +kernel) rfl
theorem kn_X5_init : Cond.instanceMethod yX5_init ∈ jWS := jWS_in 28 (by decide +kernel) rfl
theorem ki_X5_init : Cond.initialized yX5_init.cls ∈ jWS := jWS_in 12 (by decide +kernel) rfl
theorem go_L_98 {p : Program} {l : Launch} {e : Env} {R : Room} {s : State} {m : MethodId} {args : Array Value} {below : List Frame} {meth : Method} {c : Code} {D : va_G} {cA : Nat → ClassId} {N0 : Nat} {cc : ByteArray} {nL : Nat} {lv : Nat} {Sh : jS} {pc : Nat} (C : jC p R s m args meth c D cA N0 cc nL RL lv) {b : Nat} {rest : List Value} (hcat : (rest.map fun v => v.category).sum ≤ 8) (d : decode cc pc = .ok (.invokespecial 98, 3)) : jGo p l e R s m args below meth c D cA N0 nL Sh yX5_init cX5_init 2 none pc (.ref b :: []) rest (.ref b :: rest) := jgo_I (As := []) C ky_X5_init rfl kc_X5_init (jWS_in 27 (by decide +kernel) rfl) kn_X5_init ki_X5_init rfl hcat d
theorem ky_L_yarns : jyOK yL_yarns 1 := by refine ⟨?_, ?_, ?_⟩ <;> decide +kernel
theorem ks_L_yarns : Cond.static yL_yarns ∈ jWS := jWS_in 327 (by decide +kernel) rfl
theorem ki_L_yarns : Cond.initialized yL_yarns.cls ∈ jWS := jWS_in 11 (by decide +kernel) rfl
theorem ky_L_act : jyOK yL_act 3 := by refine ⟨?_, ?_, ?_⟩ <;> decide +kernel
theorem ks_L_act : Cond.static yL_act ∈ jWS := jWS_in 464 (by decide +kernel) rfl
theorem ki_L_act : Cond.initialized yL_act.cls ∈ jWS := jWS_in 11 (by decide +kernel) rfl
theorem ky_L_hall : jyOK yL_hall 1 := by refine ⟨?_, ?_, ?_⟩ <;> decide +kernel
theorem ks_L_hall : Cond.static yL_hall ∈ jWS := jWS_in 354 (by decide +kernel) rfl
theorem ki_L_hall : Cond.initialized yL_hall.cls ∈ jWS := jWS_in 11 (by decide +kernel) rfl
theorem kk_X1_37 : Cond.constantLong RX1 37 (100 : Int64) ∈ jWS := jWS_in 458 (by decide +kernel) rfl
theorem kk_X5_103 : Cond.constant RX5 103 (99999 : Int32) ∈ jWS := jWS_in 550 (by decide +kernel) rfl
theorem kg_X5_136 : Cond.fieldLink RX5 136 RX5 "MOST_VALUES" "[I" ∈ jWS := jWS_in 575 (by decide +kernel) rfl
theorem nb_m3 : (Int8.ofInt (-3)).toInt32 = (-3 : Int32) := by decide +kernel
theorem nb_m2 : (Int8.ofInt (-2)).toInt32 = (-2 : Int32) := by decide +kernel
theorem nb_6 : (Int8.ofInt (6)).toInt32 = nI 6 := by decide +kernel
theorem nb_7 : (Int8.ofInt (7)).toInt32 = nI 7 := by decide +kernel
theorem nb_8 : (Int8.ofInt (8)).toInt32 = nI 8 := by decide +kernel
theorem nb_9 : (Int8.ofInt (9)).toInt32 = nI 9 := by decide +kernel
theorem nb_10 : (Int8.ofInt (10)).toInt32 = nI 10 := by decide +kernel
theorem nb_11 : (Int8.ofInt (11)).toInt32 = nI 11 := by decide +kernel
theorem nb_14 : (Int8.ofInt (14)).toInt32 = nI 14 := by decide +kernel
theorem nb_15 : (Int8.ofInt (15)).toInt32 = nI 15 := by decide +kernel
theorem nb_18 : (Int8.ofInt (18)).toInt32 = nI 18 := by decide +kernel
theorem nb_30 : (Int8.ofInt (30)).toInt32 = nI 30 := by decide +kernel
theorem nb_36 : (Int8.ofInt (36)).toInt32 = nI 36 := by decide +kernel
theorem nb_40 : (Int8.ofInt (40)).toInt32 = nI 40 := by decide +kernel
theorem nb_60 : (Int8.ofInt (60)).toInt32 = nI 60 := by decide +kernel
theorem nb_99 : (Int8.ofInt (99)).toInt32 = nI 99 := by decide +kernel
theorem nb_100 : (Int8.ofInt (100)).toInt32 = nI 100 := by decide +kernel
theorem nc_m1 : Int32.ofInt (-1) = (-1 : Int32) := by decide +kernel
theorem nc_0 : Int32.ofInt (0) = nI 0 := by decide +kernel
theorem nc_1 : Int32.ofInt (1) = nI 1 := by decide +kernel
theorem nc_2 : Int32.ofInt (2) = nI 2 := by decide +kernel
theorem nc_3 : Int32.ofInt (3) = nI 3 := by decide +kernel
theorem nc_4 : Int32.ofInt (4) = nI 4 := by decide +kernel
theorem nc_5 : Int32.ofInt (5) = nI 5 := by decide +kernel
theorem ns_m9999 : (Int16.ofInt (-9999)).toInt32 = (-9999 : Int32) := by decide +kernel
theorem ns_161 : (Int16.ofInt (161)).toInt32 = nI 161 := by decide +kernel
theorem ns_200 : (Int16.ofInt (200)).toInt32 = nI 200 := by decide +kernel
theorem ns_800 : (Int16.ofInt (800)).toInt32 = nI 800 := by decide +kernel
theorem ns_900 : (Int16.ofInt (900)).toInt32 = nI 900 := by decide +kernel
theorem ns_977 : (Int16.ofInt (977)).toInt32 = nI 977 := by decide +kernel
theorem ns_9999 : (Int16.ofInt (9999)).toInt32 = nI 9999 := by decide +kernel
end JWORDS
