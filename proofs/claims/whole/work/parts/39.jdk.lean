section JWORDS
theorem ky_Jxe99ae_isNaN_b9ae7 : jyOK yJxe99ae_isNaN_b9ae7 1 := by refine ⟨?_, ?_, ?_⟩ <;> decide +kernel
theorem kc_Jxe99ae_isNaN_b9ae7 : Cond.code yJxe99ae_isNaN_b9ae7 cJxe99ae_isNaN_b9ae7 2 (some .boolean) ∈ jWS := jWS_in 1176 (by decide +kernel) rfl
theorem ks_Jxe99ae_isNaN_b9ae7 : Cond.static yJxe99ae_isNaN_b9ae7 ∈ jWS := jWS_in 1175 (by decide +kernel) rfl
theorem ki_Jxe99ae_isNaN_b9ae7 : Cond.initialized yJxe99ae_isNaN_b9ae7.cls ∈ jWS := jWS_in 66 (by decide +kernel) rfl
theorem go_Jxe99ae_122 {p : Program} {l : Launch} {e : Env} {R : Room} {s : State} {m : MethodId} {args : Array Value} {below : List Frame} {meth : Method} {c : Code} {D : va_G} {cA : Nat → ClassId} {N0 : Nat} {cc : ByteArray} {nL : Nat} {lv : Nat} {Sh : jS} {pc : Nat} (C : jC p R s m args meth c D cA N0 cc nL RJxe99ae lv) {a0 : Value} {rest : List Value} (hcat : (rest.map fun v => v.category).sum ≤ 8) (d : decode cc pc = .ok (.invokestatic 122, 3)) : jGo p l e R s m args below meth c D cA N0 nL Sh yJxe99ae_isNaN_b9ae7 cJxe99ae_isNaN_b9ae7 2 (some .boolean) pc [a0] rest (a0 :: rest) := jgo_S (As := [a0]) C ky_Jxe99ae_isNaN_b9ae7 kc_Jxe99ae_isNaN_b9ae7 (jWS_in 1174 (by decide +kernel) rfl) ks_Jxe99ae_isNaN_b9ae7 ki_Jxe99ae_isNaN_b9ae7 rfl hcat d
theorem kk_Jxe99ae_137 : Cond.constantLong RJxe99ae 137 (9221120237041090560 : Int64) ∈ jWS := jWS_in 1180 (by decide +kernel) rfl
end JWORDS
