section
-- ===== PART A: goes FIRST, ahead of the names: the tables' words, and 'selects' of the private methods out of them =====
/-- a private method of a class that the tables say can be made, by its rows of tables_1 -/
def lw_okq (q : MethodName × Nat) : Prop := (q.1.cls ≠ "java/lang/invoke/MethodHandle" ∧ q.1.cls ≠ "java/lang/invoke/VarHandle") ∧ Cond.instantiable q.1.cls q.2 ∈ tables_1 ∧ Cond.privateMethod q.1 ∈ tables_1 ∧ Cond.instanceMethod q.1 ∈ tables_1
theorem lw_p0 : lw_okq (⟨"WeaveShares", "readBuffer", "()I"⟩, 8) := ⟨⟨by decide +kernel, by decide +kernel⟩, List.mem_of_getElem? (i := 17) (by decide +kernel), List.mem_of_getElem? (i := 233) (by decide +kernel), List.mem_of_getElem? (i := 234) (by decide +kernel)⟩
theorem lw_p1 : lw_okq (⟨"WeaveShares$OrderReader", "startPart", "()V"⟩, 4) := ⟨⟨by decide +kernel, by decide +kernel⟩, List.mem_of_getElem? (i := 179) (by decide +kernel), List.mem_of_getElem? (i := 241) (by decide +kernel), List.mem_of_getElem? (i := 242) (by decide +kernel)⟩
theorem lw_p2 : lw_okq (⟨"WeaveShares$OrderReader", "acceptsDigit", "(I)Z"⟩, 4) := ⟨⟨by decide +kernel, by decide +kernel⟩, List.mem_of_getElem? (i := 179) (by decide +kernel), List.mem_of_getElem? (i := 249) (by decide +kernel), List.mem_of_getElem? (i := 250) (by decide +kernel)⟩
theorem lw_p3 : lw_okq (⟨"WeaveShares$OrderReader", "isField", "()Z"⟩, 4) := ⟨⟨by decide +kernel, by decide +kernel⟩, List.mem_of_getElem? (i := 179) (by decide +kernel), List.mem_of_getElem? (i := 253) (by decide +kernel), List.mem_of_getElem? (i := 254) (by decide +kernel)⟩
theorem lw_p4 : lw_okq (⟨"WeaveShares$OrderReader", "numberStands", "()Z"⟩, 4) := ⟨⟨by decide +kernel, by decide +kernel⟩, List.mem_of_getElem? (i := 179) (by decide +kernel), List.mem_of_getElem? (i := 267) (by decide +kernel), List.mem_of_getElem? (i := 268) (by decide +kernel)⟩
theorem lw_p5 : lw_okq (⟨"WeaveShares$OrderReader", "acceptsMark", "(I)Z"⟩, 4) := ⟨⟨by decide +kernel, by decide +kernel⟩, List.mem_of_getElem? (i := 179) (by decide +kernel), List.mem_of_getElem? (i := 271) (by decide +kernel), List.mem_of_getElem? (i := 272) (by decide +kernel)⟩
theorem lw_p6 : lw_okq (⟨"WeaveShares$OrderReader", "fieldBehind", "(I)I"⟩, 4) := ⟨⟨by decide +kernel, by decide +kernel⟩, List.mem_of_getElem? (i := 179) (by decide +kernel), List.mem_of_getElem? (i := 275) (by decide +kernel), List.mem_of_getElem? (i := 276) (by decide +kernel)⟩
theorem lw_p7 : lw_okq (⟨"WeaveShares", "hashCounts", "(J)J"⟩, 8) := ⟨⟨by decide +kernel, by decide +kernel⟩, List.mem_of_getElem? (i := 17) (by decide +kernel), List.mem_of_getElem? (i := 302) (by decide +kernel), List.mem_of_getElem? (i := 303) (by decide +kernel)⟩
theorem lw_p8 : lw_okq (⟨"WeaveShares", "counted", "(I)I"⟩, 8) := ⟨⟨by decide +kernel, by decide +kernel⟩, List.mem_of_getElem? (i := 17) (by decide +kernel), List.mem_of_getElem? (i := 306) (by decide +kernel), List.mem_of_getElem? (i := 307) (by decide +kernel)⟩
theorem lw_p9 : lw_okq (⟨"WeaveShares$Hall", "loomsAsWideAs", "(I)I"⟩, 13) := ⟨⟨by decide +kernel, by decide +kernel⟩, List.mem_of_getElem? (i := 25) (by decide +kernel), List.mem_of_getElem? (i := 322) (by decide +kernel), List.mem_of_getElem? (i := 323) (by decide +kernel)⟩
theorem lw_p10 : lw_okq (⟨"WeaveShares", "hashWeavers", "(J)J"⟩, 8) := ⟨⟨by decide +kernel, by decide +kernel⟩, List.mem_of_getElem? (i := 17) (by decide +kernel), List.mem_of_getElem? (i := 330) (by decide +kernel), List.mem_of_getElem? (i := 331) (by decide +kernel)⟩
theorem lw_p11 : lw_okq (⟨"WeaveShares$Hall", "choiceOf", "(LWeaveShares$Weaver;)LWeaveShares$Order;"⟩, 13) := ⟨⟨by decide +kernel, by decide +kernel⟩, List.mem_of_getElem? (i := 25) (by decide +kernel), List.mem_of_getElem? (i := 343) (by decide +kernel), List.mem_of_getElem? (i := 344) (by decide +kernel)⟩
theorem lw_p12 : lw_okq (⟨"WeaveShares$Hall", "merit", "(LWeaveShares$Order;)I"⟩, 13) := ⟨⟨by decide +kernel, by decide +kernel⟩, List.mem_of_getElem? (i := 25) (by decide +kernel), List.mem_of_getElem? (i := 347) (by decide +kernel), List.mem_of_getElem? (i := 348) (by decide +kernel)⟩
theorem lw_p13 : lw_okq (⟨"WeaveShares$Hall", "sourceOf", "(LWeaveShares$Weaver;LWeaveShares$Order;)LWeaveShares$Yarn;"⟩, 13) := ⟨⟨by decide +kernel, by decide +kernel⟩, List.mem_of_getElem? (i := 25) (by decide +kernel), List.mem_of_getElem? (i := 355) (by decide +kernel), List.mem_of_getElem? (i := 356) (by decide +kernel)⟩
theorem lw_p14 : lw_okq (⟨"WeaveShares", "hashOrders", "(J)J"⟩, 8) := ⟨⟨by decide +kernel, by decide +kernel⟩, List.mem_of_getElem? (i := 17) (by decide +kernel), List.mem_of_getElem? (i := 364) (by decide +kernel), List.mem_of_getElem? (i := 365) (by decide +kernel)⟩
theorem lw_p15 : lw_okq (⟨"WeaveShares", "foreseeEnds", "()V"⟩, 8) := ⟨⟨by decide +kernel, by decide +kernel⟩, List.mem_of_getElem? (i := 17) (by decide +kernel), List.mem_of_getElem? (i := 368) (by decide +kernel), List.mem_of_getElem? (i := 369) (by decide +kernel)⟩
def lw_privs_1 : List (MethodName × Nat) := [(⟨"WeaveShares", "readBuffer", "()I"⟩, 8), (⟨"WeaveShares$OrderReader", "startPart", "()V"⟩, 4), (⟨"WeaveShares$OrderReader", "acceptsDigit", "(I)Z"⟩, 4), (⟨"WeaveShares$OrderReader", "isField", "()Z"⟩, 4), (⟨"WeaveShares$OrderReader", "numberStands", "()Z"⟩, 4), (⟨"WeaveShares$OrderReader", "acceptsMark", "(I)Z"⟩, 4), (⟨"WeaveShares$OrderReader", "fieldBehind", "(I)I"⟩, 4), (⟨"WeaveShares", "hashCounts", "(J)J"⟩, 8), (⟨"WeaveShares", "counted", "(I)I"⟩, 8), (⟨"WeaveShares$Hall", "loomsAsWideAs", "(I)I"⟩, 13), (⟨"WeaveShares", "hashWeavers", "(J)J"⟩, 8), (⟨"WeaveShares$Hall", "choiceOf", "(LWeaveShares$Weaver;)LWeaveShares$Order;"⟩, 13), (⟨"WeaveShares$Hall", "merit", "(LWeaveShares$Order;)I"⟩, 13), (⟨"WeaveShares$Hall", "sourceOf", "(LWeaveShares$Weaver;LWeaveShares$Order;)LWeaveShares$Yarn;"⟩, 13), (⟨"WeaveShares", "hashOrders", "(J)J"⟩, 8), (⟨"WeaveShares", "foreseeEnds", "()V"⟩, 8)]
theorem lw_r1 : ∀ q ∈ lw_privs_1, lw_okq q := List.forall_mem_cons.mpr ⟨lw_p0, List.forall_mem_cons.mpr ⟨lw_p1, List.forall_mem_cons.mpr ⟨lw_p2, List.forall_mem_cons.mpr ⟨lw_p3, List.forall_mem_cons.mpr ⟨lw_p4, List.forall_mem_cons.mpr ⟨lw_p5, List.forall_mem_cons.mpr ⟨lw_p6, List.forall_mem_cons.mpr ⟨lw_p7, List.forall_mem_cons.mpr ⟨lw_p8, List.forall_mem_cons.mpr ⟨lw_p9, List.forall_mem_cons.mpr ⟨lw_p10, List.forall_mem_cons.mpr ⟨lw_p11, List.forall_mem_cons.mpr ⟨lw_p12, List.forall_mem_cons.mpr ⟨lw_p13, List.forall_mem_cons.mpr ⟨lw_p14, List.forall_mem_cons.mpr ⟨lw_p15, fun _ h => absurd h List.not_mem_nil⟩⟩⟩⟩⟩⟩⟩⟩⟩⟩⟩⟩⟩⟩⟩⟩
theorem lw_p16 : lw_okq (⟨"WeaveShares$Hall", "workLoom", "(LWeaveShares$Weaver;I)I"⟩, 13) := ⟨⟨by decide +kernel, by decide +kernel⟩, List.mem_of_getElem? (i := 25) (by decide +kernel), List.mem_of_getElem? (i := 393) (by decide +kernel), List.mem_of_getElem? (i := 394) (by decide +kernel)⟩
theorem lw_p17 : lw_okq (⟨"WeaveShares$Hall", "takeYarn", "(LWeaveShares$Yarn;LWeaveShares$Weaver;LWeaveShares$Order;)V"⟩, 13) := ⟨⟨by decide +kernel, by decide +kernel⟩, List.mem_of_getElem? (i := 25) (by decide +kernel), List.mem_of_getElem? (i := 401) (by decide +kernel), List.mem_of_getElem? (i := 402) (by decide +kernel)⟩
theorem lw_p18 : lw_okq (⟨"WeaveShares$Hall", "finish", "(LWeaveShares$Order;)V"⟩, 13) := ⟨⟨by decide +kernel, by decide +kernel⟩, List.mem_of_getElem? (i := 25) (by decide +kernel), List.mem_of_getElem? (i := 421) (by decide +kernel), List.mem_of_getElem? (i := 422) (by decide +kernel)⟩
theorem lw_p19 : lw_okq (⟨"WeaveShares", "noteEnds", "(I)V"⟩, 8) := ⟨⟨by decide +kernel, by decide +kernel⟩, List.mem_of_getElem? (i := 17) (by decide +kernel), List.mem_of_getElem? (i := 447) (by decide +kernel), List.mem_of_getElem? (i := 448) (by decide +kernel)⟩
theorem lw_p20 : lw_okq (⟨"WeaveShares", "foreseen", "(II)I"⟩, 8) := ⟨⟨by decide +kernel, by decide +kernel⟩, List.mem_of_getElem? (i := 17) (by decide +kernel), List.mem_of_getElem? (i := 468) (by decide +kernel), List.mem_of_getElem? (i := 469) (by decide +kernel)⟩
theorem lw_p21 : lw_okq (⟨"WeaveShares", "bestRuleFor", "(I)I"⟩, 8) := ⟨⟨by decide +kernel, by decide +kernel⟩, List.mem_of_getElem? (i := 17) (by decide +kernel), List.mem_of_getElem? (i := 478) (by decide +kernel), List.mem_of_getElem? (i := 479) (by decide +kernel)⟩
theorem lw_p22 : lw_okq (⟨"java/lang/Throwable", "fillInStackTrace", "(I)Ljava/lang/Throwable;"⟩, 6) := ⟨⟨by decide +kernel, by decide +kernel⟩, List.mem_of_getElem? (i := 538) (by decide +kernel), List.mem_of_getElem? (i := 536) (by decide +kernel), List.mem_of_getElem? (i := 537) (by decide +kernel)⟩
theorem lw_p23 : lw_okq (⟨"WeaveShares", "saveState", "()V"⟩, 8) := ⟨⟨by decide +kernel, by decide +kernel⟩, List.mem_of_getElem? (i := 17) (by decide +kernel), List.mem_of_getElem? (i := 587) (by decide +kernel), List.mem_of_getElem? (i := 588) (by decide +kernel)⟩
theorem lw_p24 : lw_okq (⟨"WeaveShares", "dropOldest", "()V"⟩, 8) := ⟨⟨by decide +kernel, by decide +kernel⟩, List.mem_of_getElem? (i := 17) (by decide +kernel), List.mem_of_getElem? (i := 591) (by decide +kernel), List.mem_of_getElem? (i := 592) (by decide +kernel)⟩
theorem lw_p25 : lw_okq (⟨"WeaveShares", "takeParts", "()V"⟩, 8) := ⟨⟨by decide +kernel, by decide +kernel⟩, List.mem_of_getElem? (i := 17) (by decide +kernel), List.mem_of_getElem? (i := 710) (by decide +kernel), List.mem_of_getElem? (i := 711) (by decide +kernel)⟩
theorem lw_p26 : lw_okq (⟨"WeaveShares", "takePart", "()V"⟩, 8) := ⟨⟨by decide +kernel, by decide +kernel⟩, List.mem_of_getElem? (i := 17) (by decide +kernel), List.mem_of_getElem? (i := 714) (by decide +kernel), List.mem_of_getElem? (i := 715) (by decide +kernel)⟩
theorem lw_p27 : lw_okq (⟨"WeaveSharesModel", "fails", "(I)I"⟩, 13) := ⟨⟨by decide +kernel, by decide +kernel⟩, List.mem_of_getElem? (i := 810) (by decide +kernel), List.mem_of_getElem? (i := 864) (by decide +kernel), List.mem_of_getElem? (i := 865) (by decide +kernel)⟩
theorem lw_p28 : lw_okq (⟨"WeaveSharesModel", "saves", "()V"⟩, 13) := ⟨⟨by decide +kernel, by decide +kernel⟩, List.mem_of_getElem? (i := 810) (by decide +kernel), List.mem_of_getElem? (i := 878) (by decide +kernel), List.mem_of_getElem? (i := 879) (by decide +kernel)⟩
theorem lw_p29 : lw_okq (⟨"WeaveSharesModel", "comes", "(IIIII)I"⟩, 13) := ⟨⟨by decide +kernel, by decide +kernel⟩, List.mem_of_getElem? (i := 810) (by decide +kernel), List.mem_of_getElem? (i := 908) (by decide +kernel), List.mem_of_getElem? (i := 909) (by decide +kernel)⟩
theorem lw_p30 : lw_okq (⟨"WeaveSharesModel", "hours", "([II)V"⟩, 13) := ⟨⟨by decide +kernel, by decide +kernel⟩, List.mem_of_getElem? (i := 810) (by decide +kernel), List.mem_of_getElem? (i := 936) (by decide +kernel), List.mem_of_getElem? (i := 937) (by decide +kernel)⟩
theorem lw_p31 : lw_okq (⟨"WeaveSharesModel", "hour", "([I)V"⟩, 13) := ⟨⟨by decide +kernel, by decide +kernel⟩, List.mem_of_getElem? (i := 810) (by decide +kernel), List.mem_of_getElem? (i := 940) (by decide +kernel), List.mem_of_getElem? (i := 941) (by decide +kernel)⟩
def lw_privs_2 : List (MethodName × Nat) := [(⟨"WeaveShares$Hall", "workLoom", "(LWeaveShares$Weaver;I)I"⟩, 13), (⟨"WeaveShares$Hall", "takeYarn", "(LWeaveShares$Yarn;LWeaveShares$Weaver;LWeaveShares$Order;)V"⟩, 13), (⟨"WeaveShares$Hall", "finish", "(LWeaveShares$Order;)V"⟩, 13), (⟨"WeaveShares", "noteEnds", "(I)V"⟩, 8), (⟨"WeaveShares", "foreseen", "(II)I"⟩, 8), (⟨"WeaveShares", "bestRuleFor", "(I)I"⟩, 8), (⟨"java/lang/Throwable", "fillInStackTrace", "(I)Ljava/lang/Throwable;"⟩, 6), (⟨"WeaveShares", "saveState", "()V"⟩, 8), (⟨"WeaveShares", "dropOldest", "()V"⟩, 8), (⟨"WeaveShares", "takeParts", "()V"⟩, 8), (⟨"WeaveShares", "takePart", "()V"⟩, 8), (⟨"WeaveSharesModel", "fails", "(I)I"⟩, 13), (⟨"WeaveSharesModel", "saves", "()V"⟩, 13), (⟨"WeaveSharesModel", "comes", "(IIIII)I"⟩, 13), (⟨"WeaveSharesModel", "hours", "([II)V"⟩, 13), (⟨"WeaveSharesModel", "hour", "([I)V"⟩, 13)]
theorem lw_r2 : ∀ q ∈ lw_privs_2, lw_okq q := List.forall_mem_cons.mpr ⟨lw_p16, List.forall_mem_cons.mpr ⟨lw_p17, List.forall_mem_cons.mpr ⟨lw_p18, List.forall_mem_cons.mpr ⟨lw_p19, List.forall_mem_cons.mpr ⟨lw_p20, List.forall_mem_cons.mpr ⟨lw_p21, List.forall_mem_cons.mpr ⟨lw_p22, List.forall_mem_cons.mpr ⟨lw_p23, List.forall_mem_cons.mpr ⟨lw_p24, List.forall_mem_cons.mpr ⟨lw_p25, List.forall_mem_cons.mpr ⟨lw_p26, List.forall_mem_cons.mpr ⟨lw_p27, List.forall_mem_cons.mpr ⟨lw_p28, List.forall_mem_cons.mpr ⟨lw_p29, List.forall_mem_cons.mpr ⟨lw_p30, List.forall_mem_cons.mpr ⟨lw_p31, fun _ h => absurd h List.not_mem_nil⟩⟩⟩⟩⟩⟩⟩⟩⟩⟩⟩⟩⟩⟩⟩⟩
theorem lw_p32 : lw_okq (⟨"WeaveSharesModel", "weaves", "([II)V"⟩, 13) := ⟨⟨by decide +kernel, by decide +kernel⟩, List.mem_of_getElem? (i := 810) (by decide +kernel), List.mem_of_getElem? (i := 944) (by decide +kernel), List.mem_of_getElem? (i := 945) (by decide +kernel)⟩
theorem lw_p33 : lw_okq (⟨"WeaveSharesModel", "pays", "([II)V"⟩, 13) := ⟨⟨by decide +kernel, by decide +kernel⟩, List.mem_of_getElem? (i := 810) (by decide +kernel), List.mem_of_getElem? (i := 966) (by decide +kernel), List.mem_of_getElem? (i := 967) (by decide +kernel)⟩
theorem lw_p34 : lw_okq (⟨"WeaveSharesModel", "shares", "([IIII)V"⟩, 13) := ⟨⟨by decide +kernel, by decide +kernel⟩, List.mem_of_getElem? (i := 810) (by decide +kernel), List.mem_of_getElem? (i := 977) (by decide +kernel), List.mem_of_getElem? (i := 978) (by decide +kernel)⟩
theorem lw_p35 : lw_okq (⟨"WeaveSharesModel", "isText", "()Z"⟩, 13) := ⟨⟨by decide +kernel, by decide +kernel⟩, List.mem_of_getElem? (i := 810) (by decide +kernel), List.mem_of_getElem? (i := 993) (by decide +kernel), List.mem_of_getElem? (i := 994) (by decide +kernel)⟩
theorem lw_p36 : lw_okq (⟨"WeaveSharesModel", "isPart", "()Z"⟩, 13) := ⟨⟨by decide +kernel, by decide +kernel⟩, List.mem_of_getElem? (i := 810) (by decide +kernel), List.mem_of_getElem? (i := 997) (by decide +kernel), List.mem_of_getElem? (i := 998) (by decide +kernel)⟩
theorem lw_p37 : lw_okq (⟨"WeaveSharesModel", "isNumber", "(III)Z"⟩, 13) := ⟨⟨by decide +kernel, by decide +kernel⟩, List.mem_of_getElem? (i := 810) (by decide +kernel), List.mem_of_getElem? (i := 1001) (by decide +kernel), List.mem_of_getElem? (i := 1002) (by decide +kernel)⟩
theorem lw_p38 : lw_okq (⟨"WeaveSharesModel", "isAt", "(II)Z"⟩, 13) := ⟨⟨by decide +kernel, by decide +kernel⟩, List.mem_of_getElem? (i := 810) (by decide +kernel), List.mem_of_getElem? (i := 1005) (by decide +kernel), List.mem_of_getElem? (i := 1006) (by decide +kernel)⟩
theorem lw_p39 : lw_okq (⟨"WeaveSharesModel", "stops", "()Z"⟩, 13) := ⟨⟨by decide +kernel, by decide +kernel⟩, List.mem_of_getElem? (i := 810) (by decide +kernel), List.mem_of_getElem? (i := 1012) (by decide +kernel), List.mem_of_getElem? (i := 1013) (by decide +kernel)⟩
theorem lw_p40 : lw_okq (⟨"WeaveSharesModel", "isSign", "(I)Z"⟩, 13) := ⟨⟨by decide +kernel, by decide +kernel⟩, List.mem_of_getElem? (i := 810) (by decide +kernel), List.mem_of_getElem? (i := 1016) (by decide +kernel), List.mem_of_getElem? (i := 1017) (by decide +kernel)⟩
theorem lw_p41 : lw_okq (⟨"WeaveSharesModel", "ofOrder", "(II)I"⟩, 13) := ⟨⟨by decide +kernel, by decide +kernel⟩, List.mem_of_getElem? (i := 810) (by decide +kernel), List.mem_of_getElem? (i := 1036) (by decide +kernel), List.mem_of_getElem? (i := 1037) (by decide +kernel)⟩
theorem lw_p42 : lw_okq (⟨"WeaveSharesModel", "ofNext", "(II)I"⟩, 13) := ⟨⟨by decide +kernel, by decide +kernel⟩, List.mem_of_getElem? (i := 810) (by decide +kernel), List.mem_of_getElem? (i := 1048) (by decide +kernel), List.mem_of_getElem? (i := 1049) (by decide +kernel)⟩
theorem lw_p43 : lw_okq (⟨"WeaveSharesModel", "counted", "(I)I"⟩, 13) := ⟨⟨by decide +kernel, by decide +kernel⟩, List.mem_of_getElem? (i := 810) (by decide +kernel), List.mem_of_getElem? (i := 1056) (by decide +kernel), List.mem_of_getElem? (i := 1057) (by decide +kernel)⟩
theorem lw_p44 : lw_okq (⟨"WeaveSharesModel", "looms", "()I"⟩, 13) := ⟨⟨by decide +kernel, by decide +kernel⟩, List.mem_of_getElem? (i := 810) (by decide +kernel), List.mem_of_getElem? (i := 1063) (by decide +kernel), List.mem_of_getElem? (i := 1064) (by decide +kernel)⟩
theorem lw_p45 : lw_okq (⟨"WeaveSharesModel", "byHours", "(II)I"⟩, 13) := ⟨⟨by decide +kernel, by decide +kernel⟩, List.mem_of_getElem? (i := 810) (by decide +kernel), List.mem_of_getElem? (i := 1075) (by decide +kernel), List.mem_of_getElem? (i := 1076) (by decide +kernel)⟩
theorem lw_p46 : lw_okq (⟨"WeaveSharesModel", "tries", "()V"⟩, 13) := ⟨⟨by decide +kernel, by decide +kernel⟩, List.mem_of_getElem? (i := 810) (by decide +kernel), List.mem_of_getElem? (i := 1079) (by decide +kernel), List.mem_of_getElem? (i := 1080) (by decide +kernel)⟩
theorem lw_p47 : lw_okq (⟨"WeaveSharesModel", "behind", "(I)I"⟩, 13) := ⟨⟨by decide +kernel, by decide +kernel⟩, List.mem_of_getElem? (i := 810) (by decide +kernel), List.mem_of_getElem? (i := 1087) (by decide +kernel), List.mem_of_getElem? (i := 1088) (by decide +kernel)⟩
def lw_privs_3 : List (MethodName × Nat) := [(⟨"WeaveSharesModel", "weaves", "([II)V"⟩, 13), (⟨"WeaveSharesModel", "pays", "([II)V"⟩, 13), (⟨"WeaveSharesModel", "shares", "([IIII)V"⟩, 13), (⟨"WeaveSharesModel", "isText", "()Z"⟩, 13), (⟨"WeaveSharesModel", "isPart", "()Z"⟩, 13), (⟨"WeaveSharesModel", "isNumber", "(III)Z"⟩, 13), (⟨"WeaveSharesModel", "isAt", "(II)Z"⟩, 13), (⟨"WeaveSharesModel", "stops", "()Z"⟩, 13), (⟨"WeaveSharesModel", "isSign", "(I)Z"⟩, 13), (⟨"WeaveSharesModel", "ofOrder", "(II)I"⟩, 13), (⟨"WeaveSharesModel", "ofNext", "(II)I"⟩, 13), (⟨"WeaveSharesModel", "counted", "(I)I"⟩, 13), (⟨"WeaveSharesModel", "looms", "()I"⟩, 13), (⟨"WeaveSharesModel", "byHours", "(II)I"⟩, 13), (⟨"WeaveSharesModel", "tries", "()V"⟩, 13), (⟨"WeaveSharesModel", "behind", "(I)I"⟩, 13)]
theorem lw_r3 : ∀ q ∈ lw_privs_3, lw_okq q := List.forall_mem_cons.mpr ⟨lw_p32, List.forall_mem_cons.mpr ⟨lw_p33, List.forall_mem_cons.mpr ⟨lw_p34, List.forall_mem_cons.mpr ⟨lw_p35, List.forall_mem_cons.mpr ⟨lw_p36, List.forall_mem_cons.mpr ⟨lw_p37, List.forall_mem_cons.mpr ⟨lw_p38, List.forall_mem_cons.mpr ⟨lw_p39, List.forall_mem_cons.mpr ⟨lw_p40, List.forall_mem_cons.mpr ⟨lw_p41, List.forall_mem_cons.mpr ⟨lw_p42, List.forall_mem_cons.mpr ⟨lw_p43, List.forall_mem_cons.mpr ⟨lw_p44, List.forall_mem_cons.mpr ⟨lw_p45, List.forall_mem_cons.mpr ⟨lw_p46, List.forall_mem_cons.mpr ⟨lw_p47, fun _ h => absurd h List.not_mem_nil⟩⟩⟩⟩⟩⟩⟩⟩⟩⟩⟩⟩⟩⟩⟩⟩
theorem lw_p48 : lw_okq (⟨"WeaveSharesModel", "best", "(I)I"⟩, 13) := ⟨⟨by decide +kernel, by decide +kernel⟩, List.mem_of_getElem? (i := 810) (by decide +kernel), List.mem_of_getElem? (i := 1095) (by decide +kernel), List.mem_of_getElem? (i := 1096) (by decide +kernel)⟩
theorem lw_p49 : lw_okq (⟨"WeaveSharesModel", "due", "(II)I"⟩, 13) := ⟨⟨by decide +kernel, by decide +kernel⟩, List.mem_of_getElem? (i := 810) (by decide +kernel), List.mem_of_getElem? (i := 1103) (by decide +kernel), List.mem_of_getElem? (i := 1104) (by decide +kernel)⟩
theorem lw_p50 : lw_okq (⟨"WeaveSharesModel", "even", "()D"⟩, 13) := ⟨⟨by decide +kernel, by decide +kernel⟩, List.mem_of_getElem? (i := 810) (by decide +kernel), List.mem_of_getElem? (i := 1111) (by decide +kernel), List.mem_of_getElem? (i := 1112) (by decide +kernel)⟩
def lw_privs_4 : List (MethodName × Nat) := [(⟨"WeaveSharesModel", "best", "(I)I"⟩, 13), (⟨"WeaveSharesModel", "due", "(II)I"⟩, 13), (⟨"WeaveSharesModel", "even", "()D"⟩, 13)]
theorem lw_r4 : ∀ q ∈ lw_privs_4, lw_okq q := List.forall_mem_cons.mpr ⟨lw_p48, List.forall_mem_cons.mpr ⟨lw_p49, List.forall_mem_cons.mpr ⟨lw_p50, fun _ h => absurd h List.not_mem_nil⟩⟩⟩
def lw_privs : List (MethodName × Nat) := lw_privs_1 ++ (lw_privs_2 ++ (lw_privs_3 ++ (lw_privs_4)))
def lw_tbl : List Cond := k2_sels lw_privs ++ tables_1
theorem lw_privs_ok : ∀ q ∈ lw_privs, lw_okq q := by
  show ∀ q ∈ lw_privs_1 ++ (lw_privs_2 ++ (lw_privs_3 ++ (lw_privs_4))), lw_okq q
  exact List.forall_mem_append.mpr ⟨lw_r1, List.forall_mem_append.mpr ⟨lw_r2, List.forall_mem_append.mpr ⟨lw_r3, lw_r4⟩⟩⟩
/-- the streams that the claim lets the run draw from -/
abbrev lw_cs : List Choice := [Jvm.Choice.named "NaN.bits"]
theorem lw_bits : nanBits ∈ lw_cs := by first | decide | exact List.mem_cons_self | simp [lw_cs, nanBits]
/-! ===== BEGIN words of one list among another's, by their places ===== -/
theorem goodIn_r {big : List Cond} (ws : List Cond) (ps : List Nat) (hp : ws = ps.filterMap (fun i => big[i]?)) (h : ws.all goodWord = true) : GoodIn big ws := by
  intro w hw
  have h1 := List.all_eq_true.mp h w hw
  rw [hp] at hw
  obtain ⟨i, -, hi⟩ := List.mem_filterMap.mp hw
  have hm : w ∈ big := by first | exact List.mem_of_getElem? hi | exact List.getElem?_mem hi
  exact ⟨hm, good_of_word h1⟩
theorem goodIn_app {big a b : List Cond} (ha : GoodIn big a) (hb : GoodIn big b) : GoodIn big (a ++ b) := fun w h => (List.mem_append.mp h).elim (ha w) (hb w)
theorem goodIn_ca {big a b : List Cond} {c : Cond} (ha : GoodIn big (c :: a)) (hb : GoodIn big b) : GoodIn big (c :: (a ++ b)) := fun w h => (List.mem_cons.mp h).elim (fun e => ha w (List.mem_cons.mpr (Or.inl e))) (fun h => (List.mem_append.mp h).elim (fun h => ha w (List.mem_cons.mpr (Or.inr h))) (hb w))
theorem goodIn_sub {big ws : List Cond} (hm : ∀ w ∈ ws, w ∈ big) (h : ws.all goodWord = true) : GoodIn big ws := fun w hw => ⟨hm w hw, good_of_word (List.all_eq_true.mp h w hw)⟩
/-! ===== END ===== -/

/-! ===== BEGIN exceptions that leave a method, and their catching by the caller (launches without stack traces) ===== -/
section VXA
/-! The laws vx_back, vx_callV, vx_callS, vx_callSW, vx_throw0, vx_throwS follow proofs of the library, with one case more: JvmDerived/Free/Laws.lean (Back.of_free), Shelf42/LK1.lean (callV, callS), Shelf/KitTraced.lean (throwNew0V, throwNewS). -/
/-- where a method has thrown q: the class by its name, the cell, what was written, the world -/
def vx_T (XC : String → State → State → Prop) (st : State) (q : Addr) (t : State) (mc ms : Nat) (free : Addr → Prop) : Prop :=
  ∃ (E : String) (ce : Cell) (L : List Loc), XC E st t ∧ t.heap[q]? = some ce ∧ ce.vm = .none ∧ st.vm.findClass E = some ce.cls ∧ st.WarmedH t.vm ∧ st.sameButNew ({ t with vm := st.vm } : State) L mc ms ∧ ∀ z ∈ L, free z.base
def vx_Q (Qc : Array Value → State → Outcome → State → Prop) (XC : String → State → State → Prop) (mc ms : Nat) (free : Addr → Prop) : Array Value → State → Outcome → State → Prop := fun a st o t =>
  (Qc a st o t ∧ ∃ L, FrameEnd st o t L mc ms ∧ ∀ q ∈ L, free q.base) ∨ ∃ q, o = .threw q ∧ vx_T XC st q t mc ms free
/-- a callee that returns or throws -/
def vx_Met (l : Launch) (y : MethodName) (ws : List Cond) (rm : Room) (Pc : Array Value → State → Prop) (Qc : Array Value → State → Outcome → State → Prop) (XC : String → State → State → Prop) (mc ms : Nat) (free : Addr → Prop) : Prop :=
  MetFree l y (headSpec ws rm) Pc (fun _ _ _ _ _ => True) (vx_Q Qc XC mc ms free)
def vx_Post (XC : String → State → State → Prop) (mc ms : Nat) (free : Addr → Prop) : Pt → Array Value → Addr → Pt → Prop := fun A a q B =>
  ∃ (g : JFrame) (mk : MethodId) (t : State) (L : List Loc) (E : String) (ce : Cell), B.U.heap = t.heap ∧ B.U.vm = t.vm ∧ XC E (A.U.calling g mk a) t ∧ t.heap[q]? = some ce ∧ ce.vm = .none ∧ A.U.vm.findClass E = some ce.cls ∧ B.locs = A.locs ++ L ∧ (∀ z ∈ L, free z.base) ∧ B.cells = A.cells + mc ∧ B.slots = A.slots + ms
def vx_Back (l : Launch) (R : Room) (p : Program) (e : Env) (below : List Frame) (s : State) (sargs : Array Value) (y : MethodName) (len W9 : Nat)
    (Pre : Pt → Array Value → Prop) (Post : Pt → Array Value → Option Value → Pt → Prop) (PostX : Pt → Array Value → Addr → Pt → Prop) : Prop :=
  ∀ (m : MethodId) (meth : Method) (c : Code) (A : Pt) (g : JFrame) (ig : Instr) (mk : MethodId) (a : Array Value),
    Stand p l e R s m sargs below meth c A.U A.locs A.cells A.slots → g.method = m → g.locals.size = c.maxLocals → decode c.code g.pc = .ok (ig, len) →
    2 * g.monitorRoom + (g.stack.map fun v => v.category).sum ≤ W9 → A.U.methodNamed? y = some mk → Pre A a →
    (∃ (v : Option Value) (B : Pt), Stand p l e R s m sargs below meth c B.U B.locs B.cells B.slots ∧ Post A a v B ∧
      Steps p.tables e below (doInvoke e (A.U.setTop g) [] mk a).1 (B.U.setTop { g with pc := g.pc + len, stack := v.toList ++ g.stack })) ∨
    (∃ (q : Addr) (B : Pt), Stand p l e R s m sargs below meth c B.U B.locs B.cells B.slots ∧ PostX A a q B ∧
      Steps p.tables e below (doInvoke e (A.U.setTop g) [] mk a).1 ((B.U.setTop g).pushFrame (.throwing q)))
section Payer
variable {l : Launch} {R : Room} {p : Program} {e : Env} {below : List Frame} {s : State} {sargs : Array Value} {y : MethodName} {len W9 : Nat}
theorem vx_back {ws : List Cond} {rm : Room} {Pc : Array Value → State → Prop} {Qc : Array Value → State → Outcome → State → Prop} {XC : String → State → State → Prop} {mc ms : Nat} {free : Addr → Prop} {bytes : ByteArray} {maxL : Nat} {ret : Option FieldType}
    (hM : vx_Met l y ws rm Pc Qc XC mc ms free) (hblind : FrameBlind Pc) (hrc : rm.cells = mc) (hrs : rm.slots = ms)
    (hframes : rm.frames + 1 ≤ R.frames) (hlocals : W9 + (maxL + 11) + rm.locals ≤ R.locals)
    (hws : ∀ w ∈ ws, ∀ a' U, s.WarmedH U.vm → w.before a' U = true) (hcode : Cond.code y bytes maxL ret ∈ ws) (hinit : ∀ a' U, s.WarmedH U.vm → (Cond.initialized y.cls).before a' U = true) :
    vx_Back l R p e below s sargs y len W9 (PreOf R mc ms Pc) (PostOf Qc mc ms free) (vx_Post XC mc ms free) := by
  intro m meth c A g ig mk a X hg hsize hdg hW hn hp
  have h1 : (headSpec ws rm).pre.before a A.U = true := atoms_intro fun w hw => hws w hw _ _ X.warmed
  have h2 : (Cond.code y bytes maxL ret).before a A.U = true := hws _ hcode _ _ X.warmed
  have h3 : (Cond.initialized y.cls).before a A.U = true := hinit _ _ X.warmed
  have h4 : A.cells + (headSpec ws rm).room.cells ≤ R.cells := by rw [show (headSpec ws rm).room.cells = mc from hrc]; exact hp.1
  have h5 : A.slots + (headSpec ws rm).room.slots ≤ R.slots := by rw [show (headSpec ws rm).room.slots = ms from hrs]; exact hp.2.1
  have hPc : Pc a (A.U.calling g mk a) := hblind _ _ _ _ hp.2.2
  obtain ⟨U, Ls, c0, s0⟩ := A
  dsimp only [Pt.U, Pt.locs, Pt.cells, Pt.slots] at h1 h2 h3 h4 h5 X hn hPc ⊢
  obtain ⟨methY, cY, hmY, hcY, -, hlY, -, -, -, -⟩ := Cond.code_spec hn h2
  obtain ⟨kY, hkY, -⟩ := className_of_methodNamed hn
  have hinitY : kY.init = .initialized := Cond.initialized_spec (findClass_of_methodNamed hn) hkY h3
  have h : At U g.method c below := by rw [hg]; exact X.here
  have hlocals9 : W9 + (maxL + 11) + (headSpec ws rm).room.locals ≤ R.locals := hlocals
  have happ : (headSpec ws rm).appliesLoose y e.platform (U.calling g mk a) = true :=
    Spec.appliesLoose_calling (g := g) h hdg hn hkY hinitY
      (X.room_calling (g := g) (R' := (headSpec ws rm).room) hsize hmY hcY hframes (by rw [hlY]; omega) h4 h5) h1
  obtain ⟨mid, hmid⟩ := h.above
  have hfr : (U.setTop g).frames = (.java g :: mid) ++ below := by rw [State.frames_setTop' g h.top, hmid]; rfl
  obtain ⟨o, s₂, hsteps, -, hend, hq⟩ := Steps.callFree hM p X.admits X.cas X.clock (acts := []) hfr happ hPc trivial
  have hq' : vx_Q Qc XC mc ms free a (U.calling g mk a) o s₂ := hq
  rw [State.frames_setTop' g h.top] at hend
  obtain ⟨g₀, hg0⟩ := Option.isSome_iff_exists.mp h.top
  obtain ⟨r, hr⟩ := State.topJava?_eq_some.mp hg0
  have hr' : (({ U with heap := s₂.heap, slotsUsed := s₂.slotsUsed } : State).setVm s₂.vm).frames = .java g₀ :: r := hr
  rcases hq' with ⟨hqc, L, hfe, hL⟩ | ⟨q, rfl, E, ce, L, hx, hce, hcv, hcl, hW₂, hsm, hL⟩
  · obtain ⟨⟨v, rfl⟩, hW₂, e2, q2, q3, q4, q5, q6⟩ := id hfe
    have e3 : s₂ = ({ (U.calling g mk a).setFrames s₂.frames with heap := s₂.heap, slotsUsed := s₂.slotsUsed } : State).setVm s₂.vm := by
      have : s₂ = ({ s₂ with vm := (U.calling g mk a).vm } : State).setVm s₂.vm := rfl
      rw [e2] at this
      exact this
    obtain ⟨c₂, i₂, len₂, hc₂, hd₂, hf₂⟩ := hend
    have hW' : U.WarmedH s₂.vm := hW₂
    have hcc : c₂ = c := by
      have h1 : s₂.code? g.method = U.code? g.method := by
        rw [State.code?_eq, State.code?_eq, hW'.alike.method?]
      exact Option.some.inj (hc₂.symm.trans (h1.trans h.code))
    subst hcc
    have hlen : len₂ = len := by rw [hdg] at hd₂; cases hd₂; rfl
    subst hlen
    have hs₂ : s₂ = (({ U with heap := s₂.heap, slotsUsed := s₂.slotsUsed } : State).setVm s₂.vm).setTop { g with pc := g.pc + len₂, stack := v.toList ++ g.stack } := by
      refine e3.trans ?_
      rw [hf₂, State.calling_eq h.top, State.setFrames_setFrames, State.setTop_of_frames _ hr', hr]
      rfl
    have hsame : U.sameButNew ({ U with heap := s₂.heap, slotsUsed := s₂.slotsUsed } : State) L mc ms := by
      refine ⟨?_, q2, q3, q4, q5, q6⟩
      obtain ⟨t, ht, -⟩ := State.frames_cons hr
      show ({ U with heap := s₂.heap, slotsUsed := s₂.slotsUsed } : State) = { U.setFrames U.frames with heap := s₂.heap, slotsUsed := s₂.slotsUsed }
      rw [State.setFrames_self ht]
    subst hg
    refine Or.inl ⟨v, ⟨(({ U with heap := s₂.heap, slotsUsed := s₂.slotsUsed } : State).setVm s₂.vm), Ls ++ L, c0 + mc, s0 + ms⟩,
      ⟨X.admits, X.cas, X.clock, X.frames, X.room, X.hears, X.method, X.code, (X.here.setHeapUsed s₂.heap s₂.slotsUsed).setVm hW'.alike, X.tail, State.WarmedH.trans X.warmed hW', X.limits, X.bytes, X.same.trans (hsame.setVm s.vm)⟩,
      ⟨g, mk, s₂, L, rfl, rfl, hqc, rfl, hL, rfl, rfl⟩, ?_⟩
    show Steps p.tables e below _ ((({ U with heap := s₂.heap, slotsUsed := s₂.slotsUsed } : State).setVm s₂.vm).setTop { g with pc := g.pc + len₂, stack := v.toList ++ g.stack })
    rw [← hs₂]
    exact hsteps
  · obtain ⟨e2, q2, q3, q4, q5, q6⟩ := id hsm
    have e3 : s₂ = ({ (U.calling g mk a).setFrames s₂.frames with heap := s₂.heap, slotsUsed := s₂.slotsUsed } : State).setVm s₂.vm := by
      have : s₂ = ({ s₂ with vm := (U.calling g mk a).vm } : State).setVm s₂.vm := rfl
      rw [e2] at this
      exact this
    have hf₂ : s₂.frames = .throwing q :: .java g :: U.frames.tail := hend
    have hW' : U.WarmedH s₂.vm := hW₂
    have hs₂ : s₂ = ((({ U with heap := s₂.heap, slotsUsed := s₂.slotsUsed } : State).setVm s₂.vm).setTop g).pushFrame (.throwing q) := by
      refine e3.trans ?_
      rw [hf₂, State.calling_eq h.top, State.setFrames_setFrames, State.pushFrame, State.frames_setTop _ hr', State.setTop_of_frames _ hr', State.setFrames_setFrames, hr]
      rfl
    have hsame : U.sameButNew ({ U with heap := s₂.heap, slotsUsed := s₂.slotsUsed } : State) L mc ms := by
      refine ⟨?_, q2, q3, q4, q5, q6⟩
      obtain ⟨t, ht, -⟩ := State.frames_cons hr
      show ({ U with heap := s₂.heap, slotsUsed := s₂.slotsUsed } : State) = { U.setFrames U.frames with heap := s₂.heap, slotsUsed := s₂.slotsUsed }
      rw [State.setFrames_self ht]
    subst hg
    refine Or.inr ⟨q, ⟨(({ U with heap := s₂.heap, slotsUsed := s₂.slotsUsed } : State).setVm s₂.vm), Ls ++ L, c0 + mc, s0 + ms⟩,
      ⟨X.admits, X.cas, X.clock, X.frames, X.room, X.hears, X.method, X.code, (X.here.setHeapUsed s₂.heap s₂.slotsUsed).setVm hW'.alike, X.tail, State.WarmedH.trans X.warmed hW', X.limits, X.bytes, X.same.trans (hsame.setVm s.vm)⟩,
      ⟨g, mk, s₂, L, E, ce, rfl, rfl, hx, hce, hcv, hcl, rfl, hL, rfl, rfl⟩, ?_⟩
    show Steps p.tables e below _ (((({ U with heap := s₂.heap, slotsUsed := s₂.slotsUsed } : State).setVm s₂.vm).setTop g).pushFrame (.throwing q))
    rw [← hs₂]
    exact hsteps
end Payer
section Calls
variable {p : Program} {l : Launch} {e : Env} {R : Room} {s : State} {m : MethodId} {args : Array Value} {below : List Frame} {meth : Method} {c : Code} {T : State} {locs : List Loc} {cells slots : Nat}
theorem vx_callV (X : Stand p l e R s m args below meth c T locs cells slots) (hexec : p.tables.exec = Jvm.exec) {own C : String} {index : Nat} {y : MethodName} {bytes : ByteArray} {maxL : Nat} {ret : Option FieldType}
    (hown : s.vm.findClass own = some m.cls) (hlink : (Cond.methodLink own index y).before args s = true) (hinst : (Cond.instanceMethod y).before args s = true) (hsel : (Cond.selects C y y).before args s = true)
    (hcode : (Cond.code y bytes maxL ret).before args s = true) (hy : y.cls ≠ "java/lang/invoke/MethodHandle" ∧ y.cls ≠ "java/lang/invoke/VarHandle")
    {W9 : Nat} {Pre : Pt → Array Value → Prop} {Post : Pt → Array Value → Option Value → Pt → Prop} {PostX : Pt → Array Value → Addr → Pt → Prop} (hK : vx_Back l R p e below s args y 3 W9 Pre Post PostX)
    {b : Addr} {cellB : Cell} (hcell : T.heap[b]? = some cellB) (hobj : cellB.vm.isStatics = false) (hcls : s.vm.findClass C = some cellB.cls)
    {g : JFrame} (hg : g.method = m) (hsize : g.locals.size = c.maxLocals) {argsL rest : List Value} (hlen : ∀ sig, parseMethodDescriptor y.desc = some sig → argsL.length = sig.parameters.length)
    (hstack : g.stack = argsL.reverse ++ .ref b :: rest) (hW : 2 * g.monitorRoom + (rest.map fun v => v.category).sum ≤ W9) (hdg : decode c.code g.pc = .ok (.invokevirtual index, 3))
    (hpre : ∀ vm₁, s.WarmedH vm₁ → Pre ⟨T.setVm vm₁, locs, cells, slots⟩ (Value.ref b :: argsL).toArray) :
    (∃ (v : Option Value) (vm₁ : Vm) (B : Pt), s.WarmedH vm₁ ∧ Stand p l e R s m args below meth c B.U B.locs B.cells B.slots ∧ Post ⟨T.setVm vm₁, locs, cells, slots⟩ (Value.ref b :: argsL).toArray v B ∧
      ∀ target, Steps p.tables e below (B.U.setTop { g with pc := g.pc + 3, stack := v.toList ++ rest }) target → Steps p.tables e below (T.setTop g) target) ∨
    (∃ (q : Addr) (vm₁ : Vm) (B : Pt), s.WarmedH vm₁ ∧ Stand p l e R s m args below meth c B.U B.locs B.cells B.slots ∧ PostX ⟨T.setVm vm₁, locs, cells, slots⟩ (Value.ref b :: argsL).toArray q B ∧
      Steps p.tables e below (T.setTop g) ((B.U.setTop { g with stack := rest }).pushFrame (.throwing q))) := by
  obtain ⟨mk, methM, hnamed, hmethM, hstM, habM⟩ := Cond.instanceMethod_spec hinst
  obtain ⟨methM', cM, hmethM', -, -, -, -, -, -, hsigM⟩ := Cond.code_spec hnamed hcode
  cases hmethM.symm.trans hmethM'
  obtain ⟨c2, r2, m2, q1, q2, q3, q4, kP, hkP, hkPi⟩ := Cond.selects_spec hsel
  cases hcls.symm.trans q1
  cases (State.methodFound?_of_named hnamed hy).symm.trans q2
  cases hnamed.symm.trans q3
  have hselP : selectMethod e.platform s.vm cellB.cls mk = .method mk := by rw [Launch.admits_selectMethod X.admits]; exact q4
  obtain ⟨vm₁, X₁, hstep₁⟩ := X.invokevirtual hexec hown hlink hnamed hmethM hstM hkP hkPi hy (a := b) (cell := cellB) hcell
    (fun z h => by rw [h] at hobj; cases hobj) hselP hmethM habM hkP hkPi (g := g) hg (argsL := argsL) (rest := rest) (hlen _ hsigM) hstack hdg
  rcases hK m meth c ⟨T.setVm vm₁, locs, cells, slots⟩ { g with stack := rest } (.invokevirtual index) mk (Value.ref b :: argsL).toArray X₁ hg hsize hdg hW (X₁.named hnamed) (hpre vm₁ X₁.warmed) with ⟨v, B, X', hpost, hsteps⟩ | ⟨q, B, X', hpost, hsteps⟩
  · exact Or.inl ⟨v, vm₁, B, X₁.warmed, X', hpost, fun target h => hstep₁ _ fun acts => by rw [doInvoke_state]; exact hsteps.trans h⟩
  · exact Or.inr ⟨q, vm₁, B, X₁.warmed, X', hpost, hstep₁ _ fun acts => by rw [doInvoke_state]; exact hsteps⟩
theorem vx_callS (X : Stand p l e R s m args below meth c T locs cells slots) (hexec : p.tables.exec = Jvm.exec) {own : String} {index : Nat} {y : MethodName} {bytes : ByteArray} {maxL : Nat} {ret : Option FieldType}
    (hown : s.vm.findClass own = some m.cls) (hlink : (Cond.methodLink own index y).before args s = true) (hstat : (Cond.static y).before args s = true) (hinit : (Cond.initialized y.cls).before args s = true)
    (hcode : (Cond.code y bytes maxL ret).before args s = true) (hy : y.cls ≠ "java/lang/invoke/MethodHandle" ∧ y.cls ≠ "java/lang/invoke/VarHandle")
    {W9 : Nat} {Pre : Pt → Array Value → Prop} {Post : Pt → Array Value → Option Value → Pt → Prop} {PostX : Pt → Array Value → Addr → Pt → Prop} (hK : vx_Back l R p e below s args y 3 W9 Pre Post PostX)
    {g : JFrame} (hg : g.method = m) (hsize : g.locals.size = c.maxLocals) {argsL rest : List Value} (hlen : ∀ sig, parseMethodDescriptor y.desc = some sig → argsL.length = sig.parameters.length)
    (hstack : g.stack = argsL.reverse ++ rest) (hW : 2 * g.monitorRoom + (rest.map fun v => v.category).sum ≤ W9) (hdg : decode c.code g.pc = .ok (.invokestatic index, 3))
    (hpre : ∀ vm₁, s.WarmedH vm₁ → Pre ⟨T.setVm vm₁, locs, cells, slots⟩ argsL.toArray) :
    (∃ (v : Option Value) (vm₁ : Vm) (B : Pt), s.WarmedH vm₁ ∧ Stand p l e R s m args below meth c B.U B.locs B.cells B.slots ∧ Post ⟨T.setVm vm₁, locs, cells, slots⟩ argsL.toArray v B ∧
      ∀ target, Steps p.tables e below (B.U.setTop { g with pc := g.pc + 3, stack := v.toList ++ rest }) target → Steps p.tables e below (T.setTop g) target) ∨
    (∃ (q : Addr) (vm₁ : Vm) (B : Pt), s.WarmedH vm₁ ∧ Stand p l e R s m args below meth c B.U B.locs B.cells B.slots ∧ PostX ⟨T.setVm vm₁, locs, cells, slots⟩ argsL.toArray q B ∧
      Steps p.tables e below (T.setTop g) ((B.U.setTop { g with stack := rest }).pushFrame (.throwing q))) := by
  obtain ⟨mk, hnamed⟩ := Cond.code_named hcode
  obtain ⟨methM, cM, hmethM, -, -, -, -, -, -, hsigM⟩ := Cond.code_spec hnamed hcode
  have hstatic : methM.isStatic = true := Cond.static_spec hnamed hmethM hstat
  obtain ⟨kP, hkP, -⟩ := className_of_methodNamed hnamed
  have hinitP : kP.init = .initialized := Cond.initialized_spec (findClass_of_methodNamed hnamed) hkP hinit
  obtain ⟨vm₁, X₁, hstep₁⟩ := X.invokestatic hexec hown hlink hnamed hmethM hstatic hkP hinitP hy (g := g) hg (argsL := argsL) (rest := rest) (hlen _ hsigM) hstack hdg
  rcases hK m meth c ⟨T.setVm vm₁, locs, cells, slots⟩ { g with stack := rest } (.invokestatic index) mk argsL.toArray X₁ hg hsize hdg hW (X₁.named hnamed) (hpre vm₁ X₁.warmed) with ⟨v, B, X', hpost, hsteps⟩ | ⟨q, B, X', hpost, hsteps⟩
  · exact Or.inl ⟨v, vm₁, B, X₁.warmed, X', hpost, fun target h => hstep₁ _ fun acts => by rw [doInvoke_state]; exact hsteps.trans h⟩
  · exact Or.inr ⟨q, vm₁, B, X₁.warmed, X', hpost, hstep₁ _ fun acts => by rw [doInvoke_state]; exact hsteps⟩
end Calls
theorem vx_cls {s : State} {T : State} {vm₁ : Vm} {E : String} {k : ClassId} (hW : s.WarmedH vm₁) (h : (T.setVm vm₁).vm.findClass E = some k) : s.vm.findClass E = some k := by
  have h1 : vm₁.findClass E = some k := h
  rw [hW.alike.findClass] at h1
  exact h1
/-- the method's frame g, with q thrown over it -/
def vx_W (p : Program) (l : Launch) (e : Env) (R : Room) (s : State) (m : MethodId) (args : Array Value) (below : List Frame) (meth : Method) (c : Code) (H : Heap) (locs : List Loc) (cells slots : Nat) (Q : State → Prop) (g : JFrame) (q : Addr) : Prop :=
  ∀ T : State, T.heap = H → Stand p l e R s m args below meth c T locs cells slots → ∃ t, Steps p.tables e below ((T.setTop g).pushFrame (.throwing q)) t ∧ Q t
def vx_Run (p : Program) (l : Launch) (e : Env) (R : Room) (s : State) (m : MethodId) (args : Array Value) (below : List Frame) (meth : Method) (c : Code) (H : Heap) (locs : List Loc) (cells slots mc ms : Nat) (g : JFrame) (rest : List Value) (Qa : State → Outcome → State → Prop) (XC : String → State → State → Prop) (free : Addr → Prop) : Prop :=
  ∀ T : State, T.heap = H → Stand p l e R s m args below meth c T locs cells slots →
    (∃ (v : Option Value) (st₀ t T' : State) (L : List Loc), st₀.heap = H ∧ Stand p l e R s m args below meth c T' (locs ++ L) (cells + mc) (slots + ms) ∧ (∀ q ∈ L, free q.base) ∧ T'.heap = t.heap ∧ T'.vm = t.vm ∧ Qa st₀ (.returned v) t ∧
      Goes p e below T g T' { g with pc := g.pc + 3, stack := v.toList ++ rest }) ∨
    (∃ (q : Addr) (st₀ t T' : State) (L : List Loc) (E : String) (ce : Cell), st₀.heap = H ∧ Stand p l e R s m args below meth c T' (locs ++ L) (cells + mc) (slots + ms) ∧ (∀ z ∈ L, free z.base) ∧ T'.heap = t.heap ∧ T'.vm = t.vm ∧ XC E st₀ t ∧ t.heap[q]? = some ce ∧ ce.vm = .none ∧ s.vm.findClass E = some ce.cls ∧
      Steps p.tables e below (T.setTop g) ((T'.setTop { g with stack := rest }).pushFrame (.throwing q)))
def vx_X {S : Type} (px : S → Prop) (B : String → S → State → Prop) (A : Nat → Prop) : String → State → State → Prop := fun E st t => ∃ u : S, px u ∧ B E u t ∧ va_F A st t
section Runs
variable {p : Program} {l : Launch} {e : Env} {R : Room} {s : State} {m : MethodId} {args : Array Value} {below : List Frame} {meth : Method} {c : Code} {H : Heap} {locs : List Loc} {cells slots : Nat}
variable {y : MethodName} {bytes cc : ByteArray} {maxL nL mc ms n index : Nat} {ret : Option FieldType} {ws : List Cond} {rm : Room} {Pc : Array Value → State → Prop} {Qc : Array Value → State → Outcome → State → Prop} {XC : String → State → State → Prop} {free : Addr → Prop} {Ts : List Cond} {own C : String} {b : Addr} {As rest : List Value} {g : JFrame}
theorem vx_callBack (cb : CallB R s args own index y bytes maxL ret ws rm mc ms n) (hM : vx_Met l y ws rm Pc Qc XC mc ms free) (hbl : FrameBlind Pc) : vx_Back l R p e below s args y 3 8 (PreOf R mc ms Pc) (PostOf Qc mc ms free) (vx_Post XC mc ms free) := by
  obtain ⟨hrc, hrs, hfr, hlo, hws, hcw, -, hini, -⟩ := cb
  exact vx_back (bytes := bytes) (maxL := maxL) (ret := ret) hM hbl hrc hrs hfr hlo hws hcw (fun a' U hW => word_at hW (Or.inl (by first | rfl | simp [Cond.onTables, Cond.keeps, Cond.steady])) hini)
theorem vx_runV (S : CallFix p m c cc nL s args Ts own) (hM : vx_Met l y ws rm Pc Qc XC mc ms free) (cw : CallW R s args own C index y bytes maxL ret ws rm mc ms n) (hp : PreV s H C b Pc As)
    (hg : g.method = m) (hn : As.length = n) (hsize : g.locals.size = nL) (hstack : g.stack = As.reverse ++ .ref b :: rest) (hW : 2 * g.monitorRoom + (rest.map fun v => v.category).sum ≤ 8) (hdg : decode cc g.pc = .ok (.invokevirtual index, 3)) (hf : cells + mc ≤ R.cells ∧ slots + ms ≤ R.slots) :
    vx_Run p l e R s m args below meth c H locs cells slots mc ms g rest (Qc (Value.ref b :: As).toArray) XC free := by
  have hK : vx_Back l R p e below s args y 3 8 (PreOf R mc ms Pc) (PostOf Qc mc ms free) (vx_Post XC mc ms free) := vx_callBack cw.1 hM hp.1
  obtain ⟨⟨-, -, -, -, -, -, hcode, -, hy, hlen, hl⟩, hin, hse⟩ := cw
  obtain ⟨hx, hb, hml, ho, -⟩ := S
  obtain ⟨-, ⟨cellB, hcB, hoB, hclB⟩, hPc⟩ := hp
  intro T hT X
  rcases vx_callV X hx (C := C) (bytes := bytes) (maxL := maxL) (ret := ret) ho hl hin hse hcode hy hK (by rw [hT]; exact hcB) hoB hclB hg (hsize.trans hml.symm) (argsL := As) (rest := rest) (fun sig h => hn.trans (hlen sig h)) hstack hW (by rw [hb]; exact hdg)
    (fun vm₁ hW₁ => ⟨hf.1, hf.2, hPc (T.setVm vm₁) hT hW₁⟩) with ⟨v, vm₁, ⟨U', l2, c2, s2⟩, hW₁, X', ⟨g', mk, t, L, e1, e2, hq, h1, hL, h2, h3⟩, st⟩ | ⟨q, vm₁, ⟨U', l2, c2, s2⟩, hW₁, X', ⟨g', mk, t, L, E, ce, e1, e2, hq, hce, hcv, hcl, h1, hL, h2, h3⟩, st⟩
  · dsimp only [Pt.U, Pt.locs, Pt.cells, Pt.slots] at X' e1 e2 h1 h2 h3 st
    subst h1; subst h2; subst h3
    exact Or.inl ⟨v, (T.setVm vm₁).calling g' mk (Value.ref b :: As).toArray, t, U', L, hT, X', hL, e1, e2, hq, st⟩
  · dsimp only [Pt.U, Pt.locs, Pt.cells, Pt.slots] at X' e1 e2 h1 h2 h3 st hcl
    subst h1; subst h2; subst h3
    exact Or.inr ⟨q, (T.setVm vm₁).calling g' mk (Value.ref b :: As).toArray, t, U', L, E, ce, hT, X', hL, e1, e2, hq, hce, hcv, vx_cls hW₁ hcl, st⟩
theorem vx_runS (S : CallFix p m c cc nL s args Ts own) (hM : vx_Met l y ws rm Pc Qc XC mc ms free) (cw : CallB R s args own index y bytes maxL ret ws rm mc ms n ∧ (Cond.static y).before args s = true) (hp : PreS s H Pc As)
    (hg : g.method = m) (hn : As.length = n) (hsize : g.locals.size = nL) (hstack : g.stack = As.reverse ++ rest) (hW : 2 * g.monitorRoom + (rest.map fun v => v.category).sum ≤ 8) (hdg : decode cc g.pc = .ok (.invokestatic index, 3)) (hf : cells + mc ≤ R.cells ∧ slots + ms ≤ R.slots) :
    vx_Run p l e R s m args below meth c H locs cells slots mc ms g rest (Qc As.toArray) XC free := by
  have hK : vx_Back l R p e below s args y 3 8 (PreOf R mc ms Pc) (PostOf Qc mc ms free) (vx_Post XC mc ms free) := vx_callBack cw.1 hM hp.1
  obtain ⟨⟨-, -, -, -, -, -, hcode, hini, hy, hlen, hl⟩, hstt⟩ := cw
  obtain ⟨hx, hb, hml, ho, -⟩ := S
  intro T hT X
  rcases vx_callS X hx (bytes := bytes) (maxL := maxL) (ret := ret) ho hl hstt hini hcode hy hK hg (hsize.trans hml.symm) (argsL := As) (rest := rest) (fun sig h => hn.trans (hlen sig h)) hstack hW (by rw [hb]; exact hdg)
    (fun vm₁ hW₁ => ⟨hf.1, hf.2, hp.2 (T.setVm vm₁) hT hW₁⟩) with ⟨v, vm₁, ⟨U', l2, c2, s2⟩, hW₁, X', ⟨g', mk, t, L, e1, e2, hq, h1, hL, h2, h3⟩, st⟩ | ⟨q, vm₁, ⟨U', l2, c2, s2⟩, hW₁, X', ⟨g', mk, t, L, E, ce, e1, e2, hq, hce, hcv, hcl, h1, hL, h2, h3⟩, st⟩
  · dsimp only [Pt.U, Pt.locs, Pt.cells, Pt.slots] at X' e1 e2 h1 h2 h3 st
    subst h1; subst h2; subst h3
    exact Or.inl ⟨v, (T.setVm vm₁).calling g' mk As.toArray, t, U', L, hT, X', hL, e1, e2, hq, st⟩
  · dsimp only [Pt.U, Pt.locs, Pt.cells, Pt.slots] at X' e1 e2 h1 h2 h3 st hcl
    subst h1; subst h2; subst h3
    exact Or.inr ⟨q, (T.setVm vm₁).calling g' mk As.toArray, t, U', L, E, ce, hT, X', hL, e1, e2, hq, hce, hcv, vx_cls hW₁ hcl, st⟩
end Runs
section Rows
variable {p : Program} {l : Launch} {e : Env} {R : Room} {s : State} {m : MethodId} {args : Array Value} {below : List Frame} {meth : Method} {c : Code} {H : Heap} {locs : List Loc} {cells slots : Nat} {Q : State → Prop}
variable {mc ms : Nat} {free : Addr → Prop} {A0 A1 : Nat → Prop} {H0 : Heap} {a : Array Value} {pc : Nat} {ls : Array Slot} {st0 rest : List Value}
theorem vx_keep {st₀ t T' : State} {L : List Loc} (h0 : st₀.heap = H) (e1 : T'.heap = t.heap) (hS : va_S A0 H0 H locs) (hA : ∀ q, q < H.size → A1 q → A0 q) (hf : ∀ q, free q → A0 q) (hL : ∀ q ∈ L, free q.base) (hF : va_F A1 st₀ t) :
    H.size ≤ T'.heap.size ∧ (∀ q : Nat, q < H.size → ¬ A1 q → T'.heap[q]? = H[q]?) ∧ va_S A0 H0 T'.heap (locs ++ L) := by
  obtain ⟨hz, hk⟩ := hF
  rw [h0] at hz hk
  exact ⟨by rw [e1]; exact hz, fun q h1 h2 => by rw [e1]; exact hk q h1 h2,
    ⟨Nat.le_trans hS.1 (by rw [e1]; exact hz), fun q h1 h2 => by rw [e1, hk q (Nat.lt_of_lt_of_le h1 hS.1) (fun z => h2 (hA q (Nat.lt_of_lt_of_le h1 hS.1) z))]; exact hS.2.1 q h1 h2, fun q hq => by
      rcases List.mem_append.mp hq with h | h
      · exact hS.2.2 q h
      · exact hf _ (hL q h)⟩⟩
theorem vx_calli {S SX : Type} {post : Int32 → S → Prop} {px : SX → Prop} {B : S → State → Prop} {BX : String → SX → State → Prop} {AX : Nat → Prop} (hr : vx_Run p l e R s m args below meth c H locs cells slots mc ms (F0 m pc ls st0) rest (va_Qi post B A1 a) (vx_X px BX AX) free) (hS : va_S A0 H0 H locs) (hA : ∀ q, q < H.size → A1 q → A0 q) (hf : ∀ q, free q → A0 q) (hAX : ∀ q, q < H.size → AX q → A0 q)
    (kx : ∀ (E : String) (ce : Cell) (q9 : Addr) (u : SX) (t : State) (H1 : Heap) (locs1 : List Loc), t.heap = H1 → s.vm.Alike t.vm → px u → BX E u t → H.size ≤ H1.size → (∀ q : Nat, q < H.size → ¬ AX q → H1[q]? = H[q]?) → va_S A0 H0 H1 locs1 → H1[q9]? = some ce → ce.vm = .none → s.vm.findClass E = some ce.cls → vx_W p l e R s m args below meth c H1 locs1 (cells + mc) (slots + ms) Q (F0 m pc ls rest) q9)
    (kk : ∀ (r : Int32) (u : S) (t : State) (H1 : Heap) (locs1 : List Loc), t.heap = H1 → s.vm.Alike t.vm → post r u → B u t → H.size ≤ H1.size → (∀ q : Nat, q < H.size → ¬ A1 q → H1[q]? = H[q]?) → va_S A0 H0 H1 locs1 → W p l e R s m args below meth c H1 locs1 (cells + mc) (slots + ms) Q (F0 m (pc + 3) ls (.int r :: rest))) : W p l e R s m args below meth c H locs cells slots Q (F0 m pc ls st0) := by
  intro T hT X
  rcases hr T hT X with ⟨v, st₀, t, T', L, h0, X', hL, e1, e2, ⟨⟨r, u, hv, hp, hb⟩, hF⟩, st⟩ | ⟨q, st₀, t, T', L, E, ce, h0, X', hL, e1, e2, ⟨u, hp, hb, hF⟩, hce, hcv, hcl, st⟩
  · cases hv
    obtain ⟨k1, k2, k3⟩ := vx_keep h0 e1 hS hA hf hL hF
    obtain ⟨t2, a1, b1⟩ := kk r u t T'.heap (locs ++ L) e1.symm (by rw [← e2]; exact X'.warmed.alike) hp hb k1 k2 k3 T' rfl X'
    exact ⟨t2, st t2 a1, b1⟩
  · obtain ⟨k1, k2, k3⟩ := vx_keep h0 e1 hS hAX hf hL hF
    obtain ⟨t2, a1, b1⟩ := kx E ce q u t T'.heap (locs ++ L) e1.symm (by rw [← e2]; exact X'.warmed.alike) hp hb k1 k2 k3 (by rw [e1]; exact hce) hcv hcl T' rfl X'
    exact ⟨t2, st.trans a1, b1⟩
theorem vx_calll {S SX : Type} {post : Int64 → S → Prop} {px : SX → Prop} {B : S → State → Prop} {BX : String → SX → State → Prop} {AX : Nat → Prop} (hr : vx_Run p l e R s m args below meth c H locs cells slots mc ms (F0 m pc ls st0) rest (va_Ql post B A1 a) (vx_X px BX AX) free) (hS : va_S A0 H0 H locs) (hA : ∀ q, q < H.size → A1 q → A0 q) (hf : ∀ q, free q → A0 q) (hAX : ∀ q, q < H.size → AX q → A0 q)
    (kx : ∀ (E : String) (ce : Cell) (q9 : Addr) (u : SX) (t : State) (H1 : Heap) (locs1 : List Loc), t.heap = H1 → s.vm.Alike t.vm → px u → BX E u t → H.size ≤ H1.size → (∀ q : Nat, q < H.size → ¬ AX q → H1[q]? = H[q]?) → va_S A0 H0 H1 locs1 → H1[q9]? = some ce → ce.vm = .none → s.vm.findClass E = some ce.cls → vx_W p l e R s m args below meth c H1 locs1 (cells + mc) (slots + ms) Q (F0 m pc ls rest) q9)
    (kk : ∀ (r : Int64) (u : S) (t : State) (H1 : Heap) (locs1 : List Loc), t.heap = H1 → s.vm.Alike t.vm → post r u → B u t → H.size ≤ H1.size → (∀ q : Nat, q < H.size → ¬ A1 q → H1[q]? = H[q]?) → va_S A0 H0 H1 locs1 → W p l e R s m args below meth c H1 locs1 (cells + mc) (slots + ms) Q (F0 m (pc + 3) ls (.long r :: rest))) : W p l e R s m args below meth c H locs cells slots Q (F0 m pc ls st0) := by
  intro T hT X
  rcases hr T hT X with ⟨v, st₀, t, T', L, h0, X', hL, e1, e2, ⟨⟨r, u, hv, hp, hb⟩, hF⟩, st⟩ | ⟨q, st₀, t, T', L, E, ce, h0, X', hL, e1, e2, ⟨u, hp, hb, hF⟩, hce, hcv, hcl, st⟩
  · cases hv
    obtain ⟨k1, k2, k3⟩ := vx_keep h0 e1 hS hA hf hL hF
    obtain ⟨t2, a1, b1⟩ := kk r u t T'.heap (locs ++ L) e1.symm (by rw [← e2]; exact X'.warmed.alike) hp hb k1 k2 k3 T' rfl X'
    exact ⟨t2, st t2 a1, b1⟩
  · obtain ⟨k1, k2, k3⟩ := vx_keep h0 e1 hS hAX hf hL hF
    obtain ⟨t2, a1, b1⟩ := kx E ce q u t T'.heap (locs ++ L) e1.symm (by rw [← e2]; exact X'.warmed.alike) hp hb k1 k2 k3 (by rw [e1]; exact hce) hcv hcl T' rfl X'
    exact ⟨t2, st.trans a1, b1⟩
theorem vx_callf {S SX : Type} {post : UInt32 → S → Prop} {px : SX → Prop} {B : S → State → Prop} {BX : String → SX → State → Prop} {AX : Nat → Prop} (hr : vx_Run p l e R s m args below meth c H locs cells slots mc ms (F0 m pc ls st0) rest (va_Qf post B A1 a) (vx_X px BX AX) free) (hS : va_S A0 H0 H locs) (hA : ∀ q, q < H.size → A1 q → A0 q) (hf : ∀ q, free q → A0 q) (hAX : ∀ q, q < H.size → AX q → A0 q)
    (kx : ∀ (E : String) (ce : Cell) (q9 : Addr) (u : SX) (t : State) (H1 : Heap) (locs1 : List Loc), t.heap = H1 → s.vm.Alike t.vm → px u → BX E u t → H.size ≤ H1.size → (∀ q : Nat, q < H.size → ¬ AX q → H1[q]? = H[q]?) → va_S A0 H0 H1 locs1 → H1[q9]? = some ce → ce.vm = .none → s.vm.findClass E = some ce.cls → vx_W p l e R s m args below meth c H1 locs1 (cells + mc) (slots + ms) Q (F0 m pc ls rest) q9)
    (kk : ∀ (r : UInt32) (u : S) (t : State) (H1 : Heap) (locs1 : List Loc), t.heap = H1 → s.vm.Alike t.vm → post r u → B u t → H.size ≤ H1.size → (∀ q : Nat, q < H.size → ¬ A1 q → H1[q]? = H[q]?) → va_S A0 H0 H1 locs1 → W p l e R s m args below meth c H1 locs1 (cells + mc) (slots + ms) Q (F0 m (pc + 3) ls (.float r :: rest))) : W p l e R s m args below meth c H locs cells slots Q (F0 m pc ls st0) := by
  intro T hT X
  rcases hr T hT X with ⟨v, st₀, t, T', L, h0, X', hL, e1, e2, ⟨⟨r, u, hv, hp, hb⟩, hF⟩, st⟩ | ⟨q, st₀, t, T', L, E, ce, h0, X', hL, e1, e2, ⟨u, hp, hb, hF⟩, hce, hcv, hcl, st⟩
  · cases hv
    obtain ⟨k1, k2, k3⟩ := vx_keep h0 e1 hS hA hf hL hF
    obtain ⟨t2, a1, b1⟩ := kk r u t T'.heap (locs ++ L) e1.symm (by rw [← e2]; exact X'.warmed.alike) hp hb k1 k2 k3 T' rfl X'
    exact ⟨t2, st t2 a1, b1⟩
  · obtain ⟨k1, k2, k3⟩ := vx_keep h0 e1 hS hAX hf hL hF
    obtain ⟨t2, a1, b1⟩ := kx E ce q u t T'.heap (locs ++ L) e1.symm (by rw [← e2]; exact X'.warmed.alike) hp hb k1 k2 k3 (by rw [e1]; exact hce) hcv hcl T' rfl X'
    exact ⟨t2, st.trans a1, b1⟩
theorem vx_calld {S SX : Type} {post : UInt64 → S → Prop} {px : SX → Prop} {B : S → State → Prop} {BX : String → SX → State → Prop} {AX : Nat → Prop} (hr : vx_Run p l e R s m args below meth c H locs cells slots mc ms (F0 m pc ls st0) rest (va_Qd post B A1 a) (vx_X px BX AX) free) (hS : va_S A0 H0 H locs) (hA : ∀ q, q < H.size → A1 q → A0 q) (hf : ∀ q, free q → A0 q) (hAX : ∀ q, q < H.size → AX q → A0 q)
    (kx : ∀ (E : String) (ce : Cell) (q9 : Addr) (u : SX) (t : State) (H1 : Heap) (locs1 : List Loc), t.heap = H1 → s.vm.Alike t.vm → px u → BX E u t → H.size ≤ H1.size → (∀ q : Nat, q < H.size → ¬ AX q → H1[q]? = H[q]?) → va_S A0 H0 H1 locs1 → H1[q9]? = some ce → ce.vm = .none → s.vm.findClass E = some ce.cls → vx_W p l e R s m args below meth c H1 locs1 (cells + mc) (slots + ms) Q (F0 m pc ls rest) q9)
    (kk : ∀ (r : UInt64) (u : S) (t : State) (H1 : Heap) (locs1 : List Loc), t.heap = H1 → s.vm.Alike t.vm → post r u → B u t → H.size ≤ H1.size → (∀ q : Nat, q < H.size → ¬ A1 q → H1[q]? = H[q]?) → va_S A0 H0 H1 locs1 → W p l e R s m args below meth c H1 locs1 (cells + mc) (slots + ms) Q (F0 m (pc + 3) ls (.double r :: rest))) : W p l e R s m args below meth c H locs cells slots Q (F0 m pc ls st0) := by
  intro T hT X
  rcases hr T hT X with ⟨v, st₀, t, T', L, h0, X', hL, e1, e2, ⟨⟨r, u, hv, hp, hb⟩, hF⟩, st⟩ | ⟨q, st₀, t, T', L, E, ce, h0, X', hL, e1, e2, ⟨u, hp, hb, hF⟩, hce, hcv, hcl, st⟩
  · cases hv
    obtain ⟨k1, k2, k3⟩ := vx_keep h0 e1 hS hA hf hL hF
    obtain ⟨t2, a1, b1⟩ := kk r u t T'.heap (locs ++ L) e1.symm (by rw [← e2]; exact X'.warmed.alike) hp hb k1 k2 k3 T' rfl X'
    exact ⟨t2, st t2 a1, b1⟩
  · obtain ⟨k1, k2, k3⟩ := vx_keep h0 e1 hS hAX hf hL hF
    obtain ⟨t2, a1, b1⟩ := kx E ce q u t T'.heap (locs ++ L) e1.symm (by rw [← e2]; exact X'.warmed.alike) hp hb k1 k2 k3 (by rw [e1]; exact hce) hcv hcl T' rfl X'
    exact ⟨t2, st.trans a1, b1⟩
theorem vx_callv {S SX : Type} {post : S → Prop} {px : SX → Prop} {B : S → State → Prop} {BX : String → SX → State → Prop} {AX : Nat → Prop} (hr : vx_Run p l e R s m args below meth c H locs cells slots mc ms (F0 m pc ls st0) rest (va_Qv post B A1 a) (vx_X px BX AX) free) (hS : va_S A0 H0 H locs) (hA : ∀ q, q < H.size → A1 q → A0 q) (hf : ∀ q, free q → A0 q) (hAX : ∀ q, q < H.size → AX q → A0 q)
    (kx : ∀ (E : String) (ce : Cell) (q9 : Addr) (u : SX) (t : State) (H1 : Heap) (locs1 : List Loc), t.heap = H1 → s.vm.Alike t.vm → px u → BX E u t → H.size ≤ H1.size → (∀ q : Nat, q < H.size → ¬ AX q → H1[q]? = H[q]?) → va_S A0 H0 H1 locs1 → H1[q9]? = some ce → ce.vm = .none → s.vm.findClass E = some ce.cls → vx_W p l e R s m args below meth c H1 locs1 (cells + mc) (slots + ms) Q (F0 m pc ls rest) q9)
    (kk : ∀ (u : S) (t : State) (H1 : Heap) (locs1 : List Loc), t.heap = H1 → s.vm.Alike t.vm → post u → B u t → H.size ≤ H1.size → (∀ q : Nat, q < H.size → ¬ A1 q → H1[q]? = H[q]?) → va_S A0 H0 H1 locs1 → W p l e R s m args below meth c H1 locs1 (cells + mc) (slots + ms) Q (F0 m (pc + 3) ls (rest))) : W p l e R s m args below meth c H locs cells slots Q (F0 m pc ls st0) := by
  intro T hT X
  rcases hr T hT X with ⟨v, st₀, t, T', L, h0, X', hL, e1, e2, ⟨⟨u, hv, hp, hb⟩, hF⟩, st⟩ | ⟨q, st₀, t, T', L, E, ce, h0, X', hL, e1, e2, ⟨u, hp, hb, hF⟩, hce, hcv, hcl, st⟩
  · cases hv
    obtain ⟨k1, k2, k3⟩ := vx_keep h0 e1 hS hA hf hL hF
    obtain ⟨t2, a1, b1⟩ := kk u t T'.heap (locs ++ L) e1.symm (by rw [← e2]; exact X'.warmed.alike) hp hb k1 k2 k3 T' rfl X'
    exact ⟨t2, st t2 a1, b1⟩
  · obtain ⟨k1, k2, k3⟩ := vx_keep h0 e1 hS hAX hf hL hF
    obtain ⟨t2, a1, b1⟩ := kx E ce q u t T'.heap (locs ++ L) e1.symm (by rw [← e2]; exact X'.warmed.alike) hp hb k1 k2 k3 (by rw [e1]; exact hce) hcv hcl T' rfl X'
    exact ⟨t2, st.trans a1, b1⟩
/-- caught by the row x of this method's table; the rows ahead don't take it -/
theorem vx_catch {own name : String} {E : String} {ce : Cell} {q : Addr} (hown : s.vm.findClass own = some m.cls) (pre : List ExceptionTableEntry) (x : ExceptionTableEntry) (suf : List ExceptionTableEntry) (hsplit : c.exceptionTable.toList = pre ++ x :: suf)
    (hpass : ∀ z ∈ pre, covers z pc = false ∨ (z.catchType ≠ 0 ∧ ∃ nm : String, (Cond.classLink own z.catchType nm).before args s = true ∧ va_Nc E nm s)) (hx : covers x pc = true) (h0 : x.catchType ≠ 0)
    (hlink : (Cond.classLink own x.catchType name).before args s = true) (hcast : (Cond.castable E name).before args s = true) (hcell : H[q]? = some ce) (hv : ce.vm = .none) (hcl : s.vm.findClass E = some ce.cls)
    (kk : W p l e R s m args below meth c H locs cells slots Q (F0 m x.handlerPc ls [.ref q])) : vx_W p l e R s m args below meth c H locs cells slots Q (F0 m pc ls rest) q := by
  intro T hT X
  have hpl : e.platform.magicAccessors = ({} : Platform).magicAccessors := by rw [X.admits.platform]
  obtain ⟨c3, c4, hc3, hc4, hasg⟩ := Cond.castable_spec hcast
  cases Option.some.inj (hc3.symm.trans hcl)
  obtain ⟨c5, hc5, hcl5⟩ := Cond.classLink_spec hown hlink e.platform hpl
  cases Option.some.inj (hc4.symm.trans hc5)
  obtain ⟨vm', X', st⟩ := X.thenCaughtThrough q (g := F0 m pc ls rest) rfl (Steps.refl _) (by rw [hT]; exact hcell) (by rw [hv]; rfl) (by obtain ⟨k9, h9, -⟩ := Vm.findClass_spec hcl; exact ⟨k9, h9⟩) pre x suf hsplit
    (fun z hz => by
      rcases hpass z hz with h | ⟨hz0, nm, hl1, hn1⟩
      · exact Or.inl h
      · obtain ⟨c6, hc6, hcl6⟩ := Cond.classLink_spec hown hl1 e.platform hpl
        obtain ⟨a8, b8, h1, h2, h3⟩ := hn1
        cases Option.some.inj (h1.symm.trans hcl)
        cases Option.some.inj (h2.symm.trans hc6)
        exact Or.inr ⟨hz0, _, hcl6, h3⟩) hx (Or.inr ⟨h0, c4, hcl5, hasg⟩)
  obtain ⟨t, a1, b1⟩ := kk (T.setVm vm') hT X'
  exact ⟨t, st.trans a1, b1⟩
end Rows
section Ends
variable {p : Program} {l : Launch} {e : Env} {R : Room} {s : State} {m : MethodId} {args : Array Value} {below : List Frame} {meth : Method} {c : Code} {H : Heap} {locs : List Loc} {cells slots : Nat} {Q : State → Prop}
variable {mc ms : Nat} {free : Addr → Prop} {A0 A1 : Nat → Prop} {H0 : Heap} {a : Array Value} {ls : Array Slot} {st0 rest : List Value}
variable {Qc : Array Value → State → Outcome → State → Prop} {XC : String → State → State → Prop}
/-- what a body that may throw owes at its end -/
def vx_MQ (below : List Frame) (Qc : Array Value → State → Outcome → State → Prop) (XC : String → State → State → Prop) (a : Array Value) (s : State) (mc ms : Nat) (free : Addr → Prop) : State → Prop := fun t =>
  ∃ o, t.status = .running ∧ Ended t below o ∧ vx_Q Qc XC mc ms free a s o t
theorem vx_ret {g : JFrame} {mc ms : Nat} (k : W p l e R s m args below meth c H locs cells slots (MQ below Qc args s mc ms free) g) : W p l e R s m args below meth c H locs cells slots (vx_MQ below Qc XC args s mc ms free) g := by
  intro T hT X
  obtain ⟨t, a1, o, b1, b2, b3, b4⟩ := k T hT X
  exact ⟨t, a1, o, b1, b2, Or.inl ⟨b3, b4⟩⟩
/-- not caught here: it goes on to the caller -/
theorem vx_widen {g : JFrame} {q : Addr} {k n : Nat} (h1 : cells ≤ k) (h2 : slots ≤ n) (kk : vx_W p l e R s m args below meth c H locs k n Q g q) : vx_W p l e R s m args below meth c H locs cells slots Q g q := fun T hT X => kk T hT (stand_widen X h1 h2)
theorem vx_out {pc : Nat} {E : String} {ce : Cell} {q : Addr} {mc ms : Nat} (hout : ∀ x ∈ c.exceptionTable.toList, covers x pc = false) (hlocks : meth.locks = false) (hcell : H[q]? = some ce) (hv : ce.vm = .none) (hcl : s.vm.findClass E = some ce.cls)
    (hx : ∀ t : State, t.heap = H → s.vm.Alike t.vm → XC E s t) (hf : ∀ z ∈ locs, free z.base) (hc : cells ≤ mc) (hs : slots ≤ ms) :
    vx_W p l e R s m args below meth c H locs cells slots (vx_MQ below Qc XC args s mc ms free) (F0 m pc ls rest) q := by
  intro T hT X
  obtain ⟨st1, hrun, hend, hW, hsm⟩ := X.leaveThrown q (g := F0 m pc ls rest) rfl rfl rfl hout hlocks
  have hcell9 : (T.setFrames (.throwing q :: below)).heap[q]? = some ce := by
    show T.heap[q]? = some ce
    rw [hT]; exact hcell
  exact ⟨_, st1, .threw q, hrun, hend, Or.inr ⟨q, rfl, E, ce, locs, hx _ hT hW.alike, hcell9, hv, hcl, hW, hsm.mono hc hs, hf⟩⟩
theorem vx_frame {U : State} {k n : Nat} (h : s.sameButNew ({ U with vm := s.vm } : State) locs k n) : s.heap.size ≤ U.heap.size ∧ ∀ q : Nat, q < s.heap.size → (∀ z ∈ locs, z.base ≠ q) → U.heap[q]? = s.heap[q]? := by
  obtain ⟨-, h2, -, -, -, h6⟩ := h
  refine ⟨h2, fun q hq hz => ?_⟩
  obtain ⟨c9, e1, e2, e3, e4⟩ := h6 q _ (Array.getElem?_eq_getElem hq)
  have hs : c9.slots = (s.heap[q]).slots := Array.ext_getElem? fun i => e4 i fun hm => hz _ hm rfl
  have h9 : c9 = s.heap[q] := by
    rw [hs] at e2
    exact e2
  have e5 : U.heap[q]? = some c9 := e1
  rw [e5, h9, Array.getElem?_eq_getElem hq]
/-- the words of a throw but the four that speak of the heap -/
def vx_no (w : Cond) : Bool := decide (w ≠ .isRef (.static Bundle.tN "UNASSIGNED_STACK" Bundle.steD)) && decide (w ≠ .isRef (.static Bundle.tN "SUPPRESSED_SENTINEL" Bundle.listD)) && decide (w ≠ .laysStatic Bundle.tN "UNASSIGNED_STACK" Bundle.steD) && decide (w ≠ .laysStatic Bundle.tN "SUPPRESSED_SENTINEL" Bundle.listD)
def vx_at0 (own : String) (ic : Nat) (X : String) (names : List String) : List Cond := (Bundle.ownAtoms0 own ic X names).filter vx_no
def vx_atS (own : String) (ic : Nat) (X : String) (names : List String) : List Cond := (Bundle.ownAtoms own ic X names).filter vx_no
/-- a word that the tables alone decide, or a good one -/
def vx_ot (w : Cond) : Bool := w.onTables || goodWord w
theorem vx_ot_at {args a' : Array Value} {s U : State} {w : Cond} (hW : s.WarmedH U.vm) (hvm : s.vm = U.vm) (hg : vx_ot w = true) (h : w.before args s = true) : w.before a' U = true := by
  simp only [vx_ot, Bool.or_eq_true] at hg
  rcases hg with hg | hg
  · exact va_tabs hg hvm h
  · exact word_at hW (good_of_word hg) h
/-- a list's words: the good ones out of the method's own list, the others by premises of their own -/
theorem vx_hat {args : Array Value} {s : State} {L B : List Cond} (h1 : ∀ w ∈ L.filter goodWord, w.before args s = true) (h2 : ∀ w ∈ L.filter (fun w => !goodWord w), w ∈ B) (h3 : ∀ w ∈ B, w.before args s = true) : ∀ w ∈ L, w.before args s = true := by
  intro w hw
  by_cases g : goodWord w = true
  · exact h1 w (List.mem_filter.mpr ⟨hw, g⟩)
  · refine h3 w (h2 w (List.mem_filter.mpr ⟨hw, ?_⟩))
    show (!goodWord w) = true
    cases hgw : goodWord w
    · rfl
    · exact absurd hgw g
theorem vx_c {args : Array Value} {s : State} {w : Cond} {B : List Cond} (h : w.before args s = true) (t : ∀ w ∈ B, w.before args s = true) : ∀ w' ∈ w :: B, w'.before args s = true := fun w' h' => (List.mem_cons.mp h').elim (fun e => by rw [e]; exact h) (t w')
theorem vx_n {args : Array Value} {s : State} : ∀ w ∈ ([] : List Cond), w.before args s = true := fun _ h => nomatch h
theorem vx_own {args : Array Value} {s : State} {L : List Cond} (h1 : ∀ w ∈ L.filter vx_no, w.before args s = true)
    (hU : (Cond.isRef (.static Bundle.tN "UNASSIGNED_STACK" Bundle.steD)).before args s = true) (hN : (Cond.isRef (.static Bundle.tN "SUPPRESSED_SENTINEL" Bundle.listD)).before args s = true)
    (lU : (Cond.laysStatic Bundle.tN "UNASSIGNED_STACK" Bundle.steD).before args s = true) (lN : (Cond.laysStatic Bundle.tN "SUPPRESSED_SENTINEL" Bundle.listD).before args s = true) : ∀ w ∈ L, w.before args s = true := by
  intro w hw
  by_cases e1 : w = .isRef (.static Bundle.tN "UNASSIGNED_STACK" Bundle.steD)
  · rw [e1]; exact hU
  · by_cases e2 : w = .isRef (.static Bundle.tN "SUPPRESSED_SENTINEL" Bundle.listD)
    · rw [e2]; exact hN
    · by_cases e3 : w = .laysStatic Bundle.tN "UNASSIGNED_STACK" Bundle.steD
      · rw [e3]; exact lU
      · by_cases e4 : w = .laysStatic Bundle.tN "SUPPRESSED_SENTINEL" Bundle.listD
        · rw [e4]; exact lN
        · exact h1 w (List.mem_filter.mpr ⟨hw, by unfold vx_no; rw [decide_eq_true e1, decide_eq_true e2, decide_eq_true e3, decide_eq_true e4]; rfl⟩)
/-- where a static field lies, its class's statics cell in H -/
def vx_L (C n d : String) (A : Nat → Prop) (U : State) (H : Heap) : Prop := ∃ (c : ClassId) (k : Class) (i : Nat) (f : Field) (a : Nat) (cell : Cell), U.vm.findClass C = some c ∧ U.fieldFound? C n d = some (c, k, i, f) ∧ f.isStatic = true ∧ k.statics = some a ∧ H[a]? = some cell ∧ cell.vm.isStatics = true ∧ cell.cls = c ∧ f.slot < cell.slots.size ∧ k.staticTypes[f.slot]? = some f.type ∧ ¬ A a
theorem vx_L.moved {C n d : String} {A : Nat → Prop} {u U : State} {H : Heap} (hvm : u.vm.Alike U.vm) (h : vx_L C n d A u H) : vx_L C n d A U H := by
  obtain ⟨c, k, i, f, a, cell, h1, h2, h3, h4, h5, h6, h7, h8, h9, h10⟩ := h
  obtain ⟨k', hi', he⟩ := State.fieldFound?_setVm hvm h2
  exact ⟨c, k', i, f, a, cell, by rw [hvm.findClass]; exact h1, hi', h3, by rw [he]; exact h4, h5, h6, h7, h8, by rw [he]; exact h9, h10⟩
theorem vx_L.kept {C n d : String} {A : Nat → Prop} {U : State} {H H1 : Heap} (h : vx_L C n d A U H) (hq : ∀ a : Nat, a < H.size → ¬ A a → H1[a]? = H[a]?) : vx_L C n d A U H1 := by
  obtain ⟨c, k, i, f, a, cell, h1, h2, h3, h4, h5, h6, h7, h8, h9, h10⟩ := h
  exact ⟨c, k, i, f, a, cell, h1, h2, h3, h4, by rw [hq a (Array.getElem?_eq_some_iff.mp h5).1 h10]; exact h5, h6, h7, h8, h9, h10⟩
theorem vx_L.narrow {C n d : String} {A B : Nat → Prop} {U : State} {H : Heap} (h : vx_L C n d A U H) (hAB : ∀ q, B q → A q) : vx_L C n d B U H := by
  obtain ⟨c, k, i, f, a, cell, h1, h2, h3, h4, h5, h6, h7, h8, h9, h10⟩ := h
  exact ⟨c, k, i, f, a, cell, h1, h2, h3, h4, h5, h6, h7, h8, h9, fun z => h10 (hAB _ z)⟩
theorem vx_L.word {C n d : String} {A : Nat → Prop} {s : State} {args : Array Value} (h : vx_L C n d A s s.heap) : (Cond.laysStatic C n d).before args s = true := by
  obtain ⟨c, k, i, f, a, cell, h1, h2, h3, h4, h5, h6, h7, h8, h9, -⟩ := h
  show (Cond.laysStatic C n d).holds args s none s [] = true
  exact Cond.laysStatic_of h1 h2 h3 h4 h5 h6 h7 h8 h9
/-- .. and what it holds: null or some reference -/
def vx_Zq (C n d : String) (A : Nat → Prop) (U : State) (H : Heap) : Prop := va_Zq C n d A U H ∧ vx_L C n d A U H
theorem vx_Zq.moved {C n d : String} {A : Nat → Prop} {u U : State} {H : Heap} (hvm : u.vm.Alike U.vm) (h : vx_Zq C n d A u H) : vx_Zq C n d A U H := ⟨va_Zq.moved hvm h.1, vx_L.moved hvm h.2⟩
theorem vx_Zq.kept {C n d : String} {A : Nat → Prop} {U : State} {H H1 : Heap} (h : vx_Zq C n d A U H) (hq : ∀ a : Nat, a < H.size → ¬ A a → H1[a]? = H[a]?) : vx_Zq C n d A U H1 := ⟨va_Zq.kept h.1 hq, vx_L.kept h.2 hq⟩
theorem vx_Zq.narrow {C n d : String} {A B : Nat → Prop} {U : State} {H : Heap} (h : vx_Zq C n d A U H) (hAB : ∀ q, B q → A q) : vx_Zq C n d B U H := ⟨va_Zq.narrow h.1 hAB, vx_L.narrow h.2 hAB⟩
theorem vx_Zqof {args : Array Value} {s : State} {C n d : String} {A : Nat → Prop} (hl : (Cond.laysStatic C n d).before args s = true) (hini : (Cond.initialized C).before args s = true) (h : (Cond.isRef (.static C n d)).before args s = true) (hA : ∀ a : Nat, a < s.heap.size → ¬ A a) : vx_Zq C n d A s s.heap := by
  refine ⟨va_Zqof hl hini h hA, ?_⟩
  obtain ⟨c, k, i, f, a, cell, h1, h2, h3, h4, h5, h6, h7, h8, h9⟩ := Cond.laysStatic_spec hl
  exact ⟨c, k, i, f, a, cell, h1, h2, h3, h4, h5, h6, h7, h8, h9, hA a (Array.getElem?_eq_some_iff.mp h5).1⟩
theorem vx_isRef {C n d : String} {v : Value} {A : Nat → Prop} {s : State} {args : Array Value} (h : va_Z C n d v A s s.heap) (hv : v.isRef = true) : (Cond.isRef (.static C n d)).before args s = true := by
  obtain ⟨cf, kf, fi, f, a, cell, h1, h2, h3, h4, h5, h6, h7, -⟩ := h
  have he : (Term.static C n d).eval args s none [] s = some v := by
    simp [Term.eval, State.fieldNamed?, h1, h2, h4, h5, h6, h7]
  simp only [Cond.before, Cond.holds, Cond.value, he]
  cases v <;> simp_all [Value.isRef]
theorem vx_isRefq {C n d : String} {A : Nat → Prop} {s : State} {args : Array Value} (h : va_Zq C n d A s s.heap) : (Cond.isRef (.static C n d)).before args s = true := by
  rcases h with h | ⟨t, h⟩
  · exact vx_isRef h rfl
  · exact vx_isRef h rfl
/-- the same frame, seen from here: as if the method were called anew in this heap -/
theorem vx_rebase {T : State} (X : Stand p l e R s m args below meth c T locs cells slots) {R' : Room} (hf : R'.frames ≤ R.frames) (hl : R'.locals ≤ R.locals) (hc : cells + R'.cells ≤ R.cells) (hs : slots + R'.slots ≤ R.slots) :
    Stand p l e R' ((T.setVm s.vm).setFrames (.invoking m args :: below)) m args below meth c T [] 0 0 := by
  have htop : (T.setVm s.vm).topJava?.isSome := X.here.top
  have hF : ((T.setVm s.vm).setFrames (.invoking m args :: below)).frames = .invoking m args :: below := State.frames_setFrames _ (State.cur_lt_of_top htop)
  obtain ⟨g₀, hg0⟩ := Option.isSome_iff_exists.mp htop
  obtain ⟨r, hr⟩ := State.topJava?_eq_some.mp hg0
  have hl9 : e.platform.stackLimits (T.setVm s.vm).me = e.platform.stackLimits s.me := X.limits
  have hb9 : (T.setVm s.vm).me.stackBytes = s.me.stackBytes := X.bytes
  refine ⟨X.admits, X.cas, X.clock, hF, ?_, X.hears, X.method, X.code, X.here, X.tail, X.warmed, ?_, ?_, ?_⟩
  · have h := X.room
    have hU : ((T.setVm s.vm).setFrames (.invoking m args :: below)).localsInUse = s.localsInUse := by
      rw [State.localsInUse_invoking hF (meth := meth) (c := c) X.method X.code, State.localsInUse_invoking X.frames X.method X.code]
    simp only [State.hasRoom, Bool.and_eq_true, decide_eq_true_eq] at h ⊢
    obtain ⟨⟨⟨⟨h1, h2, h3, h4, h5, h6⟩, h7⟩, h8⟩, h9⟩ := h
    rw [X.frames, List.length_cons] at h2 h3
    have q1 := X.heapSize
    have q2 := X.used
    simp only [hF, hU, List.length_cons, State.stackLimits_setFrames, State.stackBytes_setFrames, hl9, hb9]
    refine ⟨⟨⟨⟨by omega, by omega, by omega, by omega, by omega, h6⟩, ?_⟩, ?_⟩, X.book⟩
    · show T.heap.size + R'.cells ≤ e.platform.maxCells
      omega
    · show T.slotsUsed + R'.slots ≤ e.platform.maxSlots
      omega
  · rw [State.stackLimits_setFrames]; rfl
  · rw [State.stackBytes_setFrames]; rfl
  · refine ⟨?_, Nat.le_refl _, Nat.le_refl _, ?_, ?_, fun a c9 h9 => ⟨c9, h9, rfl, rfl, fun _ _ => rfl⟩⟩
    · obtain ⟨t, ht, -⟩ := State.frames_cons hr
      show T.setVm s.vm = { ((T.setVm s.vm).setFrames (.invoking m args :: below)).setFrames (T.setVm s.vm).frames with heap := T.heap, slotsUsed := T.slotsUsed }
      rw [State.setFrames_setFrames, State.setFrames_self ht]
      rfl
    · show T.slotsUsed = T.slotsUsed + ((T.heap.toList.drop T.heap.size).map (·.slots.size)).sum
      rw [List.drop_eq_nil_of_le (Nat.le_of_eq Array.length_toList)]
      rfl
    · show ((T.heap.toList.drop T.heap.size).map (·.slots.size)).sum ≤ 0
      rw [List.drop_eq_nil_of_le (Nat.le_of_eq Array.length_toList)]
      exact Nat.le_refl _
/-- 'throw new E()': new; dup; invokespecial; athrow -/
theorem vx_throw0 {cc : ByteArray} {pc : Nat} (hexec : p.tables.exec = Jvm.exec) (hb : c.code = cc) (hl : l.stackTraces = false) {own cls : String} {names : List String} {ik ic mc ms : Nat} {A : Nat → Prop}
    (hown : s.vm.findClass own = some m.cls) (hcls : Bundle.fit cls = true) (hnames : ∀ n ∈ names, Bundle.fit n = true)
    (hk : (Cond.classLink own ik cls).before args s = true) (hini : (Cond.initialized cls).before args s = true) (hat : ∀ w ∈ vx_at0 own ic cls names, w.before args s = true)
    (hgood : ∀ w ∈ Cond.classLink own ik cls :: Cond.initialized cls :: vx_at0 own ic cls names, vx_ot w = true)
    (hU : vx_Zq Bundle.tN "UNASSIGNED_STACK" Bundle.steD A s s.heap) (hN : vx_Zq Bundle.tN "SUPPRESSED_SENTINEL" Bundle.listD A s s.heap) (hS : va_S A s.heap H locs) (hsize : ls.size = c.maxLocals)
    (d0 : decode cc pc = .ok (.new ik, 3)) (d3 : decode cc (pc + 3) = .ok (.dup, 1)) (d4 : decode cc (pc + 4) = .ok (.invokespecial ic, 3)) (d7 : decode cc (pc + 7) = .ok (.athrow, 1))
    (hout : ∀ x ∈ c.exceptionTable.toList, covers x (pc + 7) = false)
    (hRframes : names.length + 3 < R.frames) (hRlocals : (rest.map fun v => v.category).sum + (13 * (names.length + 1) + 42) ≤ R.locals) (hRcells : cells + 1 ≤ R.cells) (hRslots : slots + 6 ≤ R.slots) (hlocks : meth.locks = false)
    (hx : ∀ t : State, s.vm.Alike t.vm → H.size ≤ t.heap.size → (∀ q : Nat, q < H.size → t.heap[q]? = H[q]?) → XC cls s t)
    (hf : ∀ z ∈ locs, free z.base) (hc : cells + 1 ≤ mc) (hs : slots + 6 ≤ ms) :
    W p l e R s m args below meth c H locs cells slots (vx_MQ below Qc XC args s mc ms free) (F0 m pc ls rest) := by
  intro T hT X
  have htr : e.platform.stackTraces = false := (show e.platform.stackTraces = l.stackTraces by rw [X.admits.platform]).trans hl
  have Y := vx_rebase X (R' := { frames := R.frames, locals := R.locals, cells := 1, slots := 6 }) (Nat.le_refl _) (Nat.le_refl _) hRcells hRslots
  obtain ⟨s', hA⟩ : ∃ z, z = (T.setVm s.vm).setFrames (.invoking m args :: below) := ⟨_, rfl⟩
  rw [← hA] at Y
  have hvm : s'.vm = s.vm := by rw [hA]; rfl
  have hhp : s'.heap = H := by rw [hA]; exact hT
  have hW0 : s.WarmedH s'.vm := by rw [hvm]; exact State.WarmedH.refl s
  have hat' : ∀ w ∈ vx_at0 own ic cls names, w.before args s' = true := fun w hw => vx_ot_at hW0 hvm.symm (hgood w (List.mem_cons_of_mem _ (List.mem_cons_of_mem _ hw))) (hat w hw)
  have hk' : (Cond.classLink own ik cls).before args s' = true := vx_ot_at hW0 hvm.symm (hgood _ List.mem_cons_self) hk
  have hini' : (Cond.initialized cls).before args s' = true := vx_ot_at hW0 hvm.symm (hgood _ (List.mem_cons_of_mem _ List.mem_cons_self)) hini
  have hU' : vx_Zq Bundle.tN "UNASSIGNED_STACK" Bundle.steD A s' s'.heap := by rw [hhp]; exact vx_Zq.moved hW0.alike (hU.kept hS.2.1)
  have hN' : vx_Zq Bundle.tN "SUPPRESSED_SENTINEL" Bundle.listD A s' s'.heap := by rw [hhp]; exact vx_Zq.moved hW0.alike (hN.kept hS.2.1)
  have h : ∀ w ∈ Bundle.ownAtoms0 own ic cls names, w.before args s' = true := vx_own hat' (vx_isRefq hU'.1) (vx_isRefq hN'.1) hU'.2.word hN'.2.word
  have hown' : s'.vm.findClass own = some m.cls := by rw [hvm]; exact hown
  have hins : (Cond.instantiable cls 6).before args s' = true := h _ (by simp [Bundle.ownAtoms0])
  obtain ⟨vm₁, cX, kX, hfX, hkX, -, -, X₁, st1⟩ := Y.newCold hexec (own := own) (C := cls) (index := ik) (n := 6) hown' hk' hins hini'
    (g := F0 m pc ls rest) rfl (by rw [hb]; exact d0) (Nat.le_refl _) (Nat.le_refl _)
  generalize hT1 : (T.setVm vm₁).pushCell { cls := cX, slots := kX.instanceTypes.map defaultValue, vm := .none } = T1 at X₁ st1
  have hcat : (Value.ref T.heap.size).category = 1 := rfl
  have hcellA : T1.heap[T.heap.size]? = some (freshCell cX kX) := by rw [← hT1]; exact State.heap_pushCell_size _ _
  have d3' : decode c.code (pc + 3) = .ok (.dup, 1) := by rw [hb]; exact d3
  obtain ⟨U, hsteps, hrun, hend, hW, hsame, ce, hce, hO⟩ := X₁.ctorThrow0 hexec htr (own := own) (cls := cls) (names := names) (ic := ic) hown' hcls hnames h (fun x hx => nomatch hx) hfX hkX hcellA (by rw [hhp, hT]; exact Nat.le_refl _)
    (g := { method := m, pc := pc + 4, locals := ls, stack := .ref T.heap.size :: .ref T.heap.size :: rest, locked := none }) rfl hsize rfl rfl (rest := rest) rfl
    (by rw [hb]; exact d4) (by rw [hb]; exact d7) hout hRframes (by simp only [List.map_cons, List.sum_cons, hcat]; omega) hlocks
  obtain ⟨f1, f2⟩ := vx_frame hsame
  rw [hhp] at f1 f2
  have hWs : s.WarmedH U.vm := State.WarmedH.trans hW0 hW
  have hcl : s.vm.findClass cls = some ce.cls := by
    have h9 := hO.cls
    rw [hvm] at h9
    exact h9
  have hall : s.sameButNew ({ U with vm := s.vm } : State) locs mc ms := by
    subst hA
    obtain ⟨e1, e2⟩ := hsame
    rw [State.setFrames_setFrames] at e1
    have h2 : (T.setVm s.vm).sameButNew ({ U with vm := s.vm } : State) [] (0 + 1) (0 + 6) := ⟨e1, e2⟩
    have h3 := X.same.trans h2
    rw [List.append_nil] at h3
    exact h3.mono hc hs
  refine ⟨U, ?_, .threw T.heap.size, hrun, hend, Or.inr ⟨T.heap.size, rfl, cls, ce, locs, hx U hWs.alike f1 (fun q hq => f2 q hq (fun z hz => nomatch hz)), hce, hO.vm, hcl, hWs, hall, hf⟩⟩
  refine st1 _ ?_
  show Steps p.tables e below (T1.setTop { method := m, pc := pc + 3, locals := ls, stack := .ref T.heap.size :: rest, locked := none }) _
  jvm_step X₁.here [X₁.here.top, hexec, d3', Value.category]
  exact hsteps
/-- 'throw new E("text")': new; dup; ldc; invokespecial; athrow -/
theorem vx_throwS {cc : ByteArray} {pc : Nat} (hexec : p.tables.exec = Jvm.exec) (hb : c.code = cc) (hl : l.stackTraces = false) {own cls text : String} {names : List String} {ik is ic mc ms sa : Nat} {A : Nat → Prop}
    (hown : s.vm.findClass own = some m.cls) (hcls : Bundle.fit cls = true) (hnames : ∀ n ∈ names, Bundle.fit n = true)
    (hk : (Cond.classLink own ik cls).before args s = true) (hini : (Cond.initialized cls).before args s = true) (hstr : vk_R own is text sa s) (hat : ∀ w ∈ vx_atS own ic cls names, w.before args s = true)
    (hgood : ∀ w ∈ Cond.classLink own ik cls :: Cond.initialized cls :: vx_atS own ic cls names, vx_ot w = true)
    (hU : vx_Zq Bundle.tN "UNASSIGNED_STACK" Bundle.steD A s s.heap) (hN : vx_Zq Bundle.tN "SUPPRESSED_SENTINEL" Bundle.listD A s s.heap) (hS : va_S A s.heap H locs) (hsize : ls.size = c.maxLocals)
    (d0 : decode cc pc = .ok (.new ik, 3)) (d3 : decode cc (pc + 3) = .ok (.dup, 1)) (d4 : decode cc (pc + 4) = .ok (.ldc is, 2)) (d6 : decode cc (pc + 6) = .ok (.invokespecial ic, 3)) (d9 : decode cc (pc + 9) = .ok (.athrow, 1))
    (hout : ∀ x ∈ c.exceptionTable.toList, covers x (pc + 9) = false)
    (hRframes : names.length + 3 < R.frames) (hRlocals : (rest.map fun v => v.category).sum + (13 * (names.length + 1) + 43) ≤ R.locals) (hRcells : cells + 1 ≤ R.cells) (hRslots : slots + 6 ≤ R.slots) (hlocks : meth.locks = false)
    (hx : ∀ t : State, s.vm.Alike t.vm → H.size ≤ t.heap.size → (∀ q : Nat, q < H.size → t.heap[q]? = H[q]?) → XC cls s t)
    (hf : ∀ z ∈ locs, free z.base) (hc : cells + 1 ≤ mc) (hs : slots + 6 ≤ ms) :
    W p l e R s m args below meth c H locs cells slots (vx_MQ below Qc XC args s mc ms free) (F0 m pc ls rest) := by
  intro T hT X
  have htr : e.platform.stackTraces = false := (show e.platform.stackTraces = l.stackTraces by rw [X.admits.platform]).trans hl
  have Y := vx_rebase X (R' := { frames := R.frames, locals := R.locals, cells := 1, slots := 6 }) (Nat.le_refl _) (Nat.le_refl _) hRcells hRslots
  obtain ⟨s', hA⟩ : ∃ z, z = (T.setVm s.vm).setFrames (.invoking m args :: below) := ⟨_, rfl⟩
  rw [← hA] at Y
  have hvm : s'.vm = s.vm := by rw [hA]; rfl
  have hhp : s'.heap = H := by rw [hA]; exact hT
  have hW0 : s.WarmedH s'.vm := by rw [hvm]; exact State.WarmedH.refl s
  have hat' : ∀ w ∈ vx_atS own ic cls names, w.before args s' = true := fun w hw => vx_ot_at hW0 hvm.symm (hgood w (List.mem_cons_of_mem _ (List.mem_cons_of_mem _ hw))) (hat w hw)
  have hk' : (Cond.classLink own ik cls).before args s' = true := vx_ot_at hW0 hvm.symm (hgood _ List.mem_cons_self) hk
  have hini' : (Cond.initialized cls).before args s' = true := vx_ot_at hW0 hvm.symm (hgood _ (List.mem_cons_of_mem _ List.mem_cons_self)) hini
  have hU' : vx_Zq Bundle.tN "UNASSIGNED_STACK" Bundle.steD A s' s'.heap := by rw [hhp]; exact vx_Zq.moved hW0.alike (hU.kept hS.2.1)
  have hN' : vx_Zq Bundle.tN "SUPPRESSED_SENTINEL" Bundle.listD A s' s'.heap := by rw [hhp]; exact vx_Zq.moved hW0.alike (hN.kept hS.2.1)
  have h : ∀ w ∈ Bundle.ownAtoms own ic cls names, w.before args s' = true := vx_own hat' (vx_isRefq hU'.1) (vx_isRefq hN'.1) hU'.2.word hN'.2.word
  have hown' : s'.vm.findClass own = some m.cls := by rw [hvm]; exact hown
  have hins : (Cond.instantiable cls 6).before args s' = true := h _ (by simp [Bundle.ownAtoms])
  obtain ⟨vm₁, cX, kX, hfX, hkX, -, -, X₁, st1⟩ := Y.newCold hexec (own := own) (C := cls) (index := ik) (n := 6) hown' hk' hins hini'
    (g := F0 m pc ls rest) rfl (by rw [hb]; exact d0) (Nat.le_refl _) (Nat.le_refl _)
  generalize hT1 : (T.setVm vm₁).pushCell { cls := cX, slots := kX.instanceTypes.map defaultValue, vm := .none } = T1 at X₁ st1
  have hcat : (Value.ref T.heap.size).category = 1 := rfl
  have hcellA : T1.heap[T.heap.size]? = some (freshCell cX kX) := by rw [← hT1]; exact State.heap_pushCell_size _ _
  have d3' : decode c.code (pc + 3) = .ok (.dup, 1) := by rw [hb]; exact d3
  have d4' : decode c.code (pc + 4) = .ok (.ldc is, 2) := by rw [hb]; exact d4
  have hstr' : vk_R own is text sa s' := vk_R.warm hW0 hstr
  obtain ⟨U, hsteps, hrun, hend, hW, hsame, ce, hce, hO⟩ := X₁.ctorThrowS hexec htr (own := own) (cls := cls) (names := names) (ic := ic) hown' hcls hnames h (fun x hx => nomatch hx) hfX hkX hcellA (by rw [hhp, hT]; exact Nat.le_refl _) (msg := .ref sa) rfl
    (g := { method := m, pc := pc + 6, locals := ls, stack := .ref sa :: .ref T.heap.size :: .ref T.heap.size :: rest, locked := none }) rfl hsize rfl rfl (rest := rest) rfl
    (by rw [hb]; exact d6) (by rw [hb]; exact d9) hout hRframes (by simp only [List.map_cons, List.sum_cons, hcat]; omega) hlocks
  obtain ⟨f1, f2⟩ := vx_frame hsame
  rw [hhp] at f1 f2
  have hWs : s.WarmedH U.vm := State.WarmedH.trans hW0 hW
  have hcl : s.vm.findClass cls = some ce.cls := by
    have h9 := hO.cls
    rw [hvm] at h9
    exact h9
  have hall : s.sameButNew ({ U with vm := s.vm } : State) locs mc ms := by
    subst hA
    obtain ⟨e1, e2⟩ := hsame
    rw [State.setFrames_setFrames] at e1
    have h2 : (T.setVm s.vm).sameButNew ({ U with vm := s.vm } : State) [] (0 + 1) (0 + 6) := ⟨e1, e2⟩
    have h3 := X.same.trans h2
    rw [List.append_nil] at h3
    exact h3.mono hc hs
  refine ⟨U, ?_, .threw T.heap.size, hrun, hend, Or.inr ⟨T.heap.size, rfl, cls, ce, locs, hx U hWs.alike f1 (fun q hq => f2 q hq (fun z hz => nomatch hz)), hce, hO.vm, hcl, hWs, hall, hf⟩⟩
  refine st1 _ ?_
  show Steps p.tables e below (T1.setTop { method := m, pc := pc + 3, locals := ls, stack := .ref T.heap.size :: rest, locked := none }) _
  jvm_step X₁.here [X₁.here.top, hexec, d3', Value.category]
  exact X₁.ldcString hexec (own := own) (text := text) (index := is) (a := sa) hown' hstr'.1 hstr'.2
    (g := { method := m, pc := pc + 4, locals := ls, stack := .ref T.heap.size :: .ref T.heap.size :: rest, locked := none }) rfl d4' _ hsteps
/-- 'throw new E("text")', the text by a wide index -/
theorem vx_throwSW {cc : ByteArray} {pc : Nat} (hexec : p.tables.exec = Jvm.exec) (hb : c.code = cc) (hl : l.stackTraces = false) {own cls text : String} {names : List String} {ik is ic mc ms sa : Nat} {A : Nat → Prop}
    (hown : s.vm.findClass own = some m.cls) (hcls : Bundle.fit cls = true) (hnames : ∀ n ∈ names, Bundle.fit n = true)
    (hk : (Cond.classLink own ik cls).before args s = true) (hini : (Cond.initialized cls).before args s = true) (hstr : vk_R own is text sa s) (hat : ∀ w ∈ vx_atS own ic cls names, w.before args s = true)
    (hgood : ∀ w ∈ Cond.classLink own ik cls :: Cond.initialized cls :: vx_atS own ic cls names, vx_ot w = true)
    (hU : vx_Zq Bundle.tN "UNASSIGNED_STACK" Bundle.steD A s s.heap) (hN : vx_Zq Bundle.tN "SUPPRESSED_SENTINEL" Bundle.listD A s s.heap) (hS : va_S A s.heap H locs) (hsize : ls.size = c.maxLocals)
    (d0 : decode cc pc = .ok (.new ik, 3)) (d3 : decode cc (pc + 3) = .ok (.dup, 1)) (d4 : decode cc (pc + 4) = .ok (.ldc_w is, 3)) (d7 : decode cc (pc + 7) = .ok (.invokespecial ic, 3)) (d10 : decode cc (pc + 10) = .ok (.athrow, 1))
    (hout : ∀ x ∈ c.exceptionTable.toList, covers x (pc + 10) = false)
    (hRframes : names.length + 3 < R.frames) (hRlocals : (rest.map fun v => v.category).sum + (13 * (names.length + 1) + 43) ≤ R.locals) (hRcells : cells + 1 ≤ R.cells) (hRslots : slots + 6 ≤ R.slots) (hlocks : meth.locks = false)
    (hx : ∀ t : State, s.vm.Alike t.vm → H.size ≤ t.heap.size → (∀ q : Nat, q < H.size → t.heap[q]? = H[q]?) → XC cls s t)
    (hf : ∀ z ∈ locs, free z.base) (hc : cells + 1 ≤ mc) (hs : slots + 6 ≤ ms) :
    W p l e R s m args below meth c H locs cells slots (vx_MQ below Qc XC args s mc ms free) (F0 m pc ls rest) := by
  intro T hT X
  have htr : e.platform.stackTraces = false := (show e.platform.stackTraces = l.stackTraces by rw [X.admits.platform]).trans hl
  have Y := vx_rebase X (R' := { frames := R.frames, locals := R.locals, cells := 1, slots := 6 }) (Nat.le_refl _) (Nat.le_refl _) hRcells hRslots
  obtain ⟨s', hA⟩ : ∃ z, z = (T.setVm s.vm).setFrames (.invoking m args :: below) := ⟨_, rfl⟩
  rw [← hA] at Y
  have hvm : s'.vm = s.vm := by rw [hA]; rfl
  have hhp : s'.heap = H := by rw [hA]; exact hT
  have hW0 : s.WarmedH s'.vm := by rw [hvm]; exact State.WarmedH.refl s
  have hat' : ∀ w ∈ vx_atS own ic cls names, w.before args s' = true := fun w hw => vx_ot_at hW0 hvm.symm (hgood w (List.mem_cons_of_mem _ (List.mem_cons_of_mem _ hw))) (hat w hw)
  have hk' : (Cond.classLink own ik cls).before args s' = true := vx_ot_at hW0 hvm.symm (hgood _ List.mem_cons_self) hk
  have hini' : (Cond.initialized cls).before args s' = true := vx_ot_at hW0 hvm.symm (hgood _ (List.mem_cons_of_mem _ List.mem_cons_self)) hini
  have hU' : vx_Zq Bundle.tN "UNASSIGNED_STACK" Bundle.steD A s' s'.heap := by rw [hhp]; exact vx_Zq.moved hW0.alike (hU.kept hS.2.1)
  have hN' : vx_Zq Bundle.tN "SUPPRESSED_SENTINEL" Bundle.listD A s' s'.heap := by rw [hhp]; exact vx_Zq.moved hW0.alike (hN.kept hS.2.1)
  have h : ∀ w ∈ Bundle.ownAtoms own ic cls names, w.before args s' = true := vx_own hat' (vx_isRefq hU'.1) (vx_isRefq hN'.1) hU'.2.word hN'.2.word
  have hown' : s'.vm.findClass own = some m.cls := by rw [hvm]; exact hown
  have hins : (Cond.instantiable cls 6).before args s' = true := h _ (by simp [Bundle.ownAtoms])
  obtain ⟨vm₁, cX, kX, hfX, hkX, -, -, X₁, st1⟩ := Y.newCold hexec (own := own) (C := cls) (index := ik) (n := 6) hown' hk' hins hini'
    (g := F0 m pc ls rest) rfl (by rw [hb]; exact d0) (Nat.le_refl _) (Nat.le_refl _)
  generalize hT1 : (T.setVm vm₁).pushCell { cls := cX, slots := kX.instanceTypes.map defaultValue, vm := .none } = T1 at X₁ st1
  have hcat : (Value.ref T.heap.size).category = 1 := rfl
  have hcellA : T1.heap[T.heap.size]? = some (freshCell cX kX) := by rw [← hT1]; exact State.heap_pushCell_size _ _
  have d3' : decode c.code (pc + 3) = .ok (.dup, 1) := by rw [hb]; exact d3
  have d4' : decode c.code (pc + 4) = .ok (.ldc_w is, 3) := by rw [hb]; exact d4
  have hstr' : vk_R own is text sa s' := vk_R.warm hW0 hstr
  obtain ⟨U, hsteps, hrun, hend, hW, hsame, ce, hce, hO⟩ := X₁.ctorThrowS hexec htr (own := own) (cls := cls) (names := names) (ic := ic) hown' hcls hnames h (fun x hx => nomatch hx) hfX hkX hcellA (by rw [hhp, hT]; exact Nat.le_refl _) (msg := .ref sa) rfl
    (g := { method := m, pc := pc + 7, locals := ls, stack := .ref sa :: .ref T.heap.size :: .ref T.heap.size :: rest, locked := none }) rfl hsize rfl rfl (rest := rest) rfl
    (by rw [hb]; exact d7) (by rw [hb]; exact d10) hout hRframes (by simp only [List.map_cons, List.sum_cons, hcat]; omega) hlocks
  obtain ⟨f1, f2⟩ := vx_frame hsame
  rw [hhp] at f1 f2
  have hWs : s.WarmedH U.vm := State.WarmedH.trans hW0 hW
  have hcl : s.vm.findClass cls = some ce.cls := by
    have h9 := hO.cls
    rw [hvm] at h9
    exact h9
  have hall : s.sameButNew ({ U with vm := s.vm } : State) locs mc ms := by
    subst hA
    obtain ⟨e1, e2⟩ := hsame
    rw [State.setFrames_setFrames] at e1
    have h2 : (T.setVm s.vm).sameButNew ({ U with vm := s.vm } : State) [] (0 + 1) (0 + 6) := ⟨e1, e2⟩
    have h3 := X.same.trans h2
    rw [List.append_nil] at h3
    exact h3.mono hc hs
  refine ⟨U, ?_, .threw T.heap.size, hrun, hend, Or.inr ⟨T.heap.size, rfl, cls, ce, locs, hx U hWs.alike f1 (fun q hq => f2 q hq (fun z hz => nomatch hz)), hce, hO.vm, hcl, hWs, hall, hf⟩⟩
  refine st1 _ ?_
  show Steps p.tables e below (T1.setTop { method := m, pc := pc + 3, locals := ls, stack := .ref T.heap.size :: rest, locked := none }) _
  jvm_step X₁.here [X₁.here.top, hexec, d3', Value.category]
  exact X₁.ldcStringW hexec (own := own) (text := text) (index := is) (a := sa) hown' hstr'.1 hstr'.2
    (g := { method := m, pc := pc + 4, locals := ls, stack := .ref T.heap.size :: .ref T.heap.size :: rest, locked := none }) rfl d4' _ hsteps
end Ends
section Bodies
variable {l : Launch}
theorem vx_ofW {y : MethodName} {ws ws' : List Cond} {rm : Room} {Pc : Array Value → State → Prop} {Qc : Array Value → State → Outcome → State → Prop} {XC : String → State → State → Prop} {mc ms : Nat} {free : Addr → Prop} {cc : ByteArray} {maxL : Nat} {ret : Option FieldType}
    (hy : plainName y.cls = true) (hw : ws = Cond.code y cc maxL ret :: ws')
    (body : ∀ p e s m args below meth c s₁, BodyLoose p l y (headSpec ws rm) cc maxL ret e s m args below meth c s₁ → c.maxLocals = maxL → (∀ x ∈ c.exceptionTable.toList, False) → Pc args s →
      W p l e (headSpec ws rm).room s m args below meth c s.heap [] 0 0 (vx_MQ below Qc XC args s mc ms free) (entryFrame m args maxL)) : vx_Met l y ws rm Pc Qc XC mc ms free := by
  refine MetFree.of_bodyS (code := cc) (maxLocals := maxL) (ret := ret) hy ?_ ?_
  · intro args s m h hn
    obtain ⟨meth, c, h1, h2, h3, h4, h5, h6, -, -⟩ := Cond.code_spec hn (atoms_spec (ws := ws) h _ (by rw [hw]; exact List.mem_cons_self))
    exact ⟨meth, c, h1, h2, h3, h4, h5, h6⟩
  · intro p e s m args below meth c s₁ B hml hP _
    have hh0 : s₁.heap = s.heap := by rw [B.state]; rfl
    have ht : ∀ x ∈ c.exceptionTable.toList, False := by
      obtain ⟨meth9, c9, h1, h2, -, -, -, -, h7, -⟩ := Cond.code_spec B.named (atoms_spec (ws := ws) B.pre _ (by rw [hw]; exact List.mem_cons_self))
      cases Option.some.inj (h1.symm.trans B.method)
      cases Option.some.inj (h2.symm.trans (Stand.of_body B).code)
      intro x hx
      rw [Array.isEmpty_iff.mp h7] at hx
      cases hx
    obtain ⟨t, a1, o, b1, b2, b3⟩ := body p e s m args below meth c s₁ B hml ht hP s₁ hh0 (Stand.of_body B)
    exact ⟨t, o, a1, b1, b2, b3⟩
/-- the table of a body with handlers -/
theorem vx_table {p : Program} {x y : MethodName} {S : Spec} {cc bytes : ByteArray} {maxL maxL' : Nat} {ret ret' : Option FieldType} {e : Env} {s s₁ : State} {m : MethodId} {args : Array Value} {below : List Frame} {meth : Method} {c : Code} {hh : List (Nat × Nat × Nat × Nat)}
    (B : BodyLoose p l y S cc maxL ret e s m args below meth c s₁) (h : (Cond.codeWith y bytes maxL' ret' hh).before args s = true) : c.exceptionTable.toList = tableOf hh := by
  obtain ⟨m9, meth9, c9, hn9, h1, h2, -, -, h6, -⟩ := Cond.codeWith_spec h
  cases Option.some.inj (hn9.symm.trans B.named)
  cases Option.some.inj (h1.symm.trans B.method)
  cases Option.some.inj (h2.symm.trans (Stand.of_body B).code)
  rw [← h6, table_eq]
end Bodies
end VXA
/-! ===== END ===== -/
/-! ===== BEGIN a static call of a method with an exception table ===== -/
section VXS
variable {p : Program} {l : Launch} {e : Env} {R : Room} {s : State} {m : MethodId} {args : Array Value} {below : List Frame} {meth : Method} {c : Code} {T : State} {H : Heap} {locs : List Loc} {cells slots : Nat}
abbrev vx_CSW (R : Room) (s : State) (args : Array Value) (own : String) (index : Nat) (y : MethodName) (bytes : ByteArray) (maxL : Nat) (ret : Option FieldType) (hh : List (Nat × Nat × Nat × Nat)) (ws : List Cond) (rm : Room) (mc ms n : Nat) : Prop :=
  (rm.cells = mc ∧ rm.slots = ms ∧ rm.frames + 1 ≤ R.frames ∧ 8 + (maxL + 11) + rm.locals ≤ R.locals ∧ (∀ w ∈ ws, ∀ (a' : Array Value) (U : State), s.WarmedH U.vm → w.before a' U = true) ∧ Cond.codeWith y bytes maxL ret hh ∈ ws) ∧
  (Cond.codeWith y bytes maxL ret hh).before args s = true ∧ (Cond.initialized y.cls).before args s = true ∧ (y.cls ≠ "java/lang/invoke/MethodHandle" ∧ y.cls ≠ "java/lang/invoke/VarHandle") ∧
  (∀ sig, parseMethodDescriptor y.desc = some sig → n = sig.parameters.length) ∧ (Cond.methodLink own index y).before args s = true ∧ (Cond.static y).before args s = true
theorem vx_cwSW {own : String} {index maxL mc ms : Nat} {y : MethodName} {bytes : ByteArray} {ret : Option FieldType} {hh : List (Nat × Nat × Nat × Nat)} {Ts ws ws' : List Cond} {rm : Room} (n : Nat) (ht : ∀ w ∈ Ts, w.before args s = true) (hT : GoodIn Ts (va_wsS own index y ws)) (hw : ws = Cond.codeWith y bytes maxL ret hh :: ws') (hrc : rm.cells = mc) (hrs : rm.slots = ms)
    (hd : y.cls ≠ "java/lang/invoke/MethodHandle" ∧ y.cls ≠ "java/lang/invoke/VarHandle" ∧ (parseMethodDescriptor y.desc).map (fun d => d.parameters.length) = some n) (hR : rm.frames + 1 ≤ R.frames ∧ 8 + (maxL + 11) + rm.locals ≤ R.locals) :
    vx_CSW R s args own index y bytes maxL ret hh ws rm mc ms n := by
  have ok : ∀ w ∈ va_wsS own index y ws, w.before args s = true := fun w h => ht w (hT w h).1
  have hG : GoodIn Ts ws := fun w h => hT w (by unfold va_wsS; exact List.mem_append_right _ h)
  have hc : Cond.codeWith y bytes maxL ret hh ∈ ws := by rw [hw]; exact List.mem_cons_self
  refine ⟨⟨hrc, hrs, hR.1, hR.2, pay_in ht hG, hc⟩, ht _ (hG _ hc).1, ok _ (by simp [va_wsS]), ⟨hd.1, hd.2.1⟩, fun sig h => ?_, ok _ (by simp [va_wsS]), ok _ (by simp [va_wsS])⟩
  have h2 := hd.2.2
  rw [h] at h2
  exact (Option.some.inj h2).symm
theorem vx_callSW (X : Stand p l e R s m args below meth c T locs cells slots) (hexec : p.tables.exec = Jvm.exec) {own : String} {index : Nat} {y : MethodName} {bytes : ByteArray} {maxL : Nat} {ret : Option FieldType} {hh : List (Nat × Nat × Nat × Nat)}
    (hown : s.vm.findClass own = some m.cls) (hlink : (Cond.methodLink own index y).before args s = true) (hstat : (Cond.static y).before args s = true) (hinit : (Cond.initialized y.cls).before args s = true)
    (hcode : (Cond.codeWith y bytes maxL ret hh).before args s = true) (hy : y.cls ≠ "java/lang/invoke/MethodHandle" ∧ y.cls ≠ "java/lang/invoke/VarHandle")
    {W9 : Nat} {Pre : Pt → Array Value → Prop} {Post : Pt → Array Value → Option Value → Pt → Prop} (hK : Back l R p e below s args y 3 W9 Pre Post)
    {g : JFrame} (hg : g.method = m) (hsize : g.locals.size = c.maxLocals) {argsL rest : List Value} (hlen : ∀ sig, parseMethodDescriptor y.desc = some sig → argsL.length = sig.parameters.length)
    (hstack : g.stack = argsL.reverse ++ rest) (hW : 2 * g.monitorRoom + (rest.map fun v => v.category).sum ≤ W9) (hdg : decode c.code g.pc = .ok (.invokestatic index, 3))
    (hpre : ∀ vm₁, s.WarmedH vm₁ → Pre ⟨T.setVm vm₁, locs, cells, slots⟩ argsL.toArray) :
    ∃ (v : Option Value) (vm₁ : Vm) (B : Pt), s.WarmedH vm₁ ∧ Stand p l e R s m args below meth c B.U B.locs B.cells B.slots ∧ Post ⟨T.setVm vm₁, locs, cells, slots⟩ argsL.toArray v B ∧
      ∀ target, Steps p.tables e below (B.U.setTop { g with pc := g.pc + 3, stack := v.toList ++ rest }) target → Steps p.tables e below (T.setTop g) target := by
  obtain ⟨mk, methM, cM, hnamed, hmethM, -, -, -, -, -, -, hsigM⟩ := Cond.codeWith_spec hcode
  have hstatic : methM.isStatic = true := Cond.static_spec hnamed hmethM hstat
  obtain ⟨kP, hkP, -⟩ := className_of_methodNamed hnamed
  have hinitP : kP.init = .initialized := Cond.initialized_spec (findClass_of_methodNamed hnamed) hkP hinit
  obtain ⟨vm₁, X₁, hstep₁⟩ := X.invokestatic hexec hown hlink hnamed hmethM hstatic hkP hinitP hy (g := g) hg (argsL := argsL) (rest := rest) (hlen _ hsigM) hstack hdg
  obtain ⟨v, B, X', hpost, hsteps⟩ := hK m meth c ⟨T.setVm vm₁, locs, cells, slots⟩ { g with stack := rest } (.invokestatic index) mk argsL.toArray X₁ hg hsize hdg hW (X₁.named hnamed) (hpre vm₁ X₁.warmed)
  exact ⟨v, vm₁, B, X₁.warmed, X', hpost, fun target h => hstep₁ _ fun acts => by rw [doInvoke_state]; exact hsteps.trans h⟩
theorem vx_runSW {y : MethodName} {bytes cc : ByteArray} {maxL nL mc ms n index : Nat} {ret : Option FieldType} {hh : List (Nat × Nat × Nat × Nat)} {ws : List Cond} {rm : Room} {Pc : Array Value → State → Prop} {Qc : Array Value → State → Outcome → State → Prop} {free : Addr → Prop} {Ts : List Cond} {own : String} {As rest : List Value} {g : JFrame}
    (S : CallFix p m c cc nL s args Ts own) (hM : Met l y ws rm Pc Qc mc ms free) (cw : vx_CSW R s args own index y bytes maxL ret hh ws rm mc ms n) (hp : PreS s H Pc As)
    (hg : g.method = m) (hn : As.length = n) (hsize : g.locals.size = nL) (hstack : g.stack = As.reverse ++ rest) (hW : 2 * g.monitorRoom + (rest.map fun v => v.category).sum ≤ 8) (hdg : decode cc g.pc = .ok (.invokestatic index, 3)) (hf : cells + mc ≤ R.cells ∧ slots + ms ≤ R.slots) :
    va_Run p l e R s m args below meth c H locs cells slots mc ms g rest (Qc As.toArray) (free) := by
  obtain ⟨⟨hrc, hrs, hfr, hlo, hws, hcw⟩, hcode, hini, hy, hlen, hl, hstt⟩ := cw
  have hK : Back l R p e below s args y 3 8 (PreOf R mc ms Pc) (PostOf Qc mc ms free) := va_backW (hh := hh) (bytes := bytes) (maxL := maxL) (ret := ret) hM hp.1 hrc hrs hfr hlo hws hcw (fun a' U hW => word_at hW (Or.inl (by first | rfl | simp [Cond.onTables, Cond.keeps, Cond.steady])) hini)
  obtain ⟨hx, hb, hml, ho, -⟩ := S
  intro T hT X
  obtain ⟨v, vm₁, ⟨U', l2, c2, s2⟩, hW₁, X', ⟨g', mk, t, L, e1, e2, hq, h1, hL, h2, h3⟩, st⟩ := vx_callSW X hx (hh := hh) (bytes := bytes) (maxL := maxL) (ret := ret) ho hl hstt hini hcode hy hK hg (hsize.trans hml.symm) (argsL := As) (rest := rest) (fun sig h => hn.trans (hlen sig h)) hstack hW (by rw [hb]; exact hdg)
    (fun vm₁ hW₁ => ⟨hf.1, hf.2, hp.2 (T.setVm vm₁) hT hW₁⟩)
  dsimp only [Pt.U, Pt.locs, Pt.cells, Pt.slots] at X' e1 e2 h1 h2 h3 st
  subst h1; subst h2; subst h3
  exact ⟨v, (T.setVm vm₁).calling g' mk As.toArray, t, U', L, hT, X', hL, e1, e2, hq, st⟩
/-- not caught here, past rows that name other classes: it goes on to the caller -/
theorem vx_outP {p : Program} {l : Launch} {e : Env} {R : Room} {s : State} {m : MethodId} {args : Array Value} {below : List Frame} {meth : Method} {c : Code} {H : Heap} {locs : List Loc} {cells slots : Nat} {free : Addr → Prop} {ls : Array Slot} {rest : List Value} {Qc : Array Value → State → Outcome → State → Prop} {XC : String → State → State → Prop}
    {pc : Nat} {own E : String} {ce : Cell} {q : Addr} {mc ms : Nat} (hown : s.vm.findClass own = some m.cls) (hlocks : meth.locks = false)
    (hpass : ∀ z ∈ c.exceptionTable.toList, covers z pc = false ∨ (z.catchType ≠ 0 ∧ ∃ nm : String, (Cond.classLink own z.catchType nm).before args s = true ∧ va_Nc E nm s)) (hcell : H[q]? = some ce) (hv : ce.vm = .none) (hcl : s.vm.findClass E = some ce.cls)
    (hx : ∀ t : State, t.heap = H → s.vm.Alike t.vm → XC E s t) (hf : ∀ z ∈ locs, free z.base) (hc : cells ≤ mc) (hs : slots ≤ ms) :
    vx_W p l e R s m args below meth c H locs cells slots (vx_MQ below Qc XC args s mc ms free) (F0 m pc ls rest) q := by
  intro T hT X
  have hpl : e.platform.magicAccessors = ({} : Platform).magicAccessors := by rw [X.admits.platform]
  obtain ⟨vm', hW', X', st⟩ := X.outThrough hlocks q (g := F0 m pc ls rest) rfl rfl rfl (cell := ce) (by rw [hT]; exact hcell) (by rw [hv]; rfl)
    (by obtain ⟨k9, h9, -⟩ := Vm.findClass_spec hcl; exact ⟨k9, h9⟩) (fun z hz => by
      rcases hpass z hz with h | ⟨hz0, nm, hl1, hn1⟩
      · exact Or.inl h
      · obtain ⟨c6, hc6, hcl6⟩ := Cond.classLink_spec hown hl1 e.platform hpl
        obtain ⟨a8, b8, h1, h2, h3⟩ := hn1
        cases Option.some.inj (h1.symm.trans hcl)
        cases Option.some.inj (h2.symm.trans hc6)
        exact Or.inr ⟨hz0, _, hcl6, h3⟩)
  obtain ⟨g₀, hfr⟩ := X'.frames_eq
  have hcell9 : ((T.setVm vm').setFrames (.throwing q :: below)).heap[q]? = some ce := by
    show T.heap[q]? = some ce
    rw [hT]; exact hcell
  have hend : Ended ((T.setVm vm').setFrames (.throwing q :: below)) below (.threw q) := State.frames_setFrames _ (State.cur_lt_of_frames hfr)
  refine ⟨(T.setVm vm').setFrames (.throwing q :: below), ?_, .threw q, X'.here.running, hend, Or.inr ⟨q, rfl, E, ce, locs, hx _ hT (X'.ends _).1.alike, hcell9, hv, hcl, (X'.ends _).1, (X'.ends _).2.mono hc hs, hf⟩⟩
  rw [X.pushThrowing_eq]
  exact st
/-- a thing of a world lies in the heap -/
theorem vx_lt {D : va_G} {cl : List vw_C} {ws : va_W} {H1 : Heap} (h : va_P D cl ws H1) {k : Nat} {q : Nat × va_E} (hk : ws[k]? = some q) : q.1 < H1.size := (h k q hk).lt
end VXS
/-! ===== END ===== -/
/-! ===== BEGIN methods with a table of their own: called by a name, returning or throwing ===== -/
section VXH
/-! vx_backW, vx_callVX, vx_callSX, vx_callVW, vx_runVW, vx_runVX, vx_runSX, vx_ofWH follow the same proofs as their sisters above (Free/Laws.lean, Shelf42/LK1.lean); vx_outP calls Shelf42/NT130.lean (outThrough). -/
section
variable {l : Launch} {R : Room} {p : Program} {e : Env} {below : List Frame} {s : State} {sargs : Array Value} {y : MethodName} {len W9 : Nat}
theorem vx_backW {ws : List Cond} {rm : Room} {Pc : Array Value → State → Prop} {Qc : Array Value → State → Outcome → State → Prop} {XC : String → State → State → Prop} {mc ms : Nat} {free : Addr → Prop} {bytes : ByteArray} {maxL : Nat} {ret : Option FieldType} {hh : List (Nat × Nat × Nat × Nat)}
    (hM : vx_Met l y ws rm Pc Qc XC mc ms free) (hblind : FrameBlind Pc) (hrc : rm.cells = mc) (hrs : rm.slots = ms)
    (hframes : rm.frames + 1 ≤ R.frames) (hlocals : W9 + (maxL + 11) + rm.locals ≤ R.locals)
    (hws : ∀ w ∈ ws, ∀ a' U, s.WarmedH U.vm → w.before a' U = true) (hcode : Cond.codeWith y bytes maxL ret hh ∈ ws) (hinit : ∀ a' U, s.WarmedH U.vm → (Cond.initialized y.cls).before a' U = true) :
    vx_Back l R p e below s sargs y len W9 (PreOf R mc ms Pc) (PostOf Qc mc ms free) (vx_Post XC mc ms free) := by
  intro m meth c A g ig mk a X hg hsize hdg hW hn hp
  have h1 : (headSpec ws rm).pre.before a A.U = true := atoms_intro fun w hw => hws w hw _ _ X.warmed
  have h2 : (Cond.codeWith y bytes maxL ret hh).before a A.U = true := hws _ hcode _ _ X.warmed
  have h3 : (Cond.initialized y.cls).before a A.U = true := hinit _ _ X.warmed
  have h4 : A.cells + (headSpec ws rm).room.cells ≤ R.cells := by rw [show (headSpec ws rm).room.cells = mc from hrc]; exact hp.1
  have h5 : A.slots + (headSpec ws rm).room.slots ≤ R.slots := by rw [show (headSpec ws rm).room.slots = ms from hrs]; exact hp.2.1
  have hPc : Pc a (A.U.calling g mk a) := hblind _ _ _ _ hp.2.2
  obtain ⟨U, Ls, c0, s0⟩ := A
  dsimp only [Pt.U, Pt.locs, Pt.cells, Pt.slots] at h1 h2 h3 h4 h5 X hn hPc ⊢
  obtain ⟨m9, methY, cY, hn9, hmY, hcY, -, hlY, -⟩ := Cond.codeWith_spec h2
  cases Option.some.inj (hn9.symm.trans hn)
  obtain ⟨kY, hkY, -⟩ := className_of_methodNamed hn
  have hinitY : kY.init = .initialized := Cond.initialized_spec (findClass_of_methodNamed hn) hkY h3
  have h : At U g.method c below := by rw [hg]; exact X.here
  have hlocals9 : W9 + (maxL + 11) + (headSpec ws rm).room.locals ≤ R.locals := hlocals
  have happ : (headSpec ws rm).appliesLoose y e.platform (U.calling g mk a) = true :=
    Spec.appliesLoose_calling (g := g) h hdg hn hkY hinitY
      (X.room_calling (g := g) (R' := (headSpec ws rm).room) hsize hmY hcY hframes (by rw [hlY]; omega) h4 h5) h1
  obtain ⟨mid, hmid⟩ := h.above
  have hfr : (U.setTop g).frames = (.java g :: mid) ++ below := by rw [State.frames_setTop' g h.top, hmid]; rfl
  obtain ⟨o, s₂, hsteps, -, hend, hq⟩ := Steps.callFree hM p X.admits X.cas X.clock (acts := []) hfr happ hPc trivial
  have hq' : vx_Q Qc XC mc ms free a (U.calling g mk a) o s₂ := hq
  rw [State.frames_setTop' g h.top] at hend
  obtain ⟨g₀, hg0⟩ := Option.isSome_iff_exists.mp h.top
  obtain ⟨r, hr⟩ := State.topJava?_eq_some.mp hg0
  have hr' : (({ U with heap := s₂.heap, slotsUsed := s₂.slotsUsed } : State).setVm s₂.vm).frames = .java g₀ :: r := hr
  rcases hq' with ⟨hqc, L, hfe, hL⟩ | ⟨q, rfl, E, ce, L, hx, hce, hcv, hcl, hW₂, hsm, hL⟩
  · obtain ⟨⟨v, rfl⟩, hW₂, e2, q2, q3, q4, q5, q6⟩ := id hfe
    have e3 : s₂ = ({ (U.calling g mk a).setFrames s₂.frames with heap := s₂.heap, slotsUsed := s₂.slotsUsed } : State).setVm s₂.vm := by
      have : s₂ = ({ s₂ with vm := (U.calling g mk a).vm } : State).setVm s₂.vm := rfl
      rw [e2] at this
      exact this
    obtain ⟨c₂, i₂, len₂, hc₂, hd₂, hf₂⟩ := hend
    have hW' : U.WarmedH s₂.vm := hW₂
    have hcc : c₂ = c := by
      have h1 : s₂.code? g.method = U.code? g.method := by
        rw [State.code?_eq, State.code?_eq, hW'.alike.method?]
      exact Option.some.inj (hc₂.symm.trans (h1.trans h.code))
    subst hcc
    have hlen : len₂ = len := by rw [hdg] at hd₂; cases hd₂; rfl
    subst hlen
    have hs₂ : s₂ = (({ U with heap := s₂.heap, slotsUsed := s₂.slotsUsed } : State).setVm s₂.vm).setTop { g with pc := g.pc + len₂, stack := v.toList ++ g.stack } := by
      refine e3.trans ?_
      rw [hf₂, State.calling_eq h.top, State.setFrames_setFrames, State.setTop_of_frames _ hr', hr]
      rfl
    have hsame : U.sameButNew ({ U with heap := s₂.heap, slotsUsed := s₂.slotsUsed } : State) L mc ms := by
      refine ⟨?_, q2, q3, q4, q5, q6⟩
      obtain ⟨t, ht, -⟩ := State.frames_cons hr
      show ({ U with heap := s₂.heap, slotsUsed := s₂.slotsUsed } : State) = { U.setFrames U.frames with heap := s₂.heap, slotsUsed := s₂.slotsUsed }
      rw [State.setFrames_self ht]
    subst hg
    refine Or.inl ⟨v, ⟨(({ U with heap := s₂.heap, slotsUsed := s₂.slotsUsed } : State).setVm s₂.vm), Ls ++ L, c0 + mc, s0 + ms⟩,
      ⟨X.admits, X.cas, X.clock, X.frames, X.room, X.hears, X.method, X.code, (X.here.setHeapUsed s₂.heap s₂.slotsUsed).setVm hW'.alike, X.tail, State.WarmedH.trans X.warmed hW', X.limits, X.bytes, X.same.trans (hsame.setVm s.vm)⟩,
      ⟨g, mk, s₂, L, rfl, rfl, hqc, rfl, hL, rfl, rfl⟩, ?_⟩
    show Steps p.tables e below _ ((({ U with heap := s₂.heap, slotsUsed := s₂.slotsUsed } : State).setVm s₂.vm).setTop { g with pc := g.pc + len₂, stack := v.toList ++ g.stack })
    rw [← hs₂]
    exact hsteps
  · obtain ⟨e2, q2, q3, q4, q5, q6⟩ := id hsm
    have e3 : s₂ = ({ (U.calling g mk a).setFrames s₂.frames with heap := s₂.heap, slotsUsed := s₂.slotsUsed } : State).setVm s₂.vm := by
      have : s₂ = ({ s₂ with vm := (U.calling g mk a).vm } : State).setVm s₂.vm := rfl
      rw [e2] at this
      exact this
    have hf₂ : s₂.frames = .throwing q :: .java g :: U.frames.tail := hend
    have hW' : U.WarmedH s₂.vm := hW₂
    have hs₂ : s₂ = ((({ U with heap := s₂.heap, slotsUsed := s₂.slotsUsed } : State).setVm s₂.vm).setTop g).pushFrame (.throwing q) := by
      refine e3.trans ?_
      rw [hf₂, State.calling_eq h.top, State.setFrames_setFrames, State.pushFrame, State.frames_setTop _ hr', State.setTop_of_frames _ hr', State.setFrames_setFrames, hr]
      rfl
    have hsame : U.sameButNew ({ U with heap := s₂.heap, slotsUsed := s₂.slotsUsed } : State) L mc ms := by
      refine ⟨?_, q2, q3, q4, q5, q6⟩
      obtain ⟨t, ht, -⟩ := State.frames_cons hr
      show ({ U with heap := s₂.heap, slotsUsed := s₂.slotsUsed } : State) = { U.setFrames U.frames with heap := s₂.heap, slotsUsed := s₂.slotsUsed }
      rw [State.setFrames_self ht]
    subst hg
    refine Or.inr ⟨q, ⟨(({ U with heap := s₂.heap, slotsUsed := s₂.slotsUsed } : State).setVm s₂.vm), Ls ++ L, c0 + mc, s0 + ms⟩,
      ⟨X.admits, X.cas, X.clock, X.frames, X.room, X.hears, X.method, X.code, (X.here.setHeapUsed s₂.heap s₂.slotsUsed).setVm hW'.alike, X.tail, State.WarmedH.trans X.warmed hW', X.limits, X.bytes, X.same.trans (hsame.setVm s.vm)⟩,
      ⟨g, mk, s₂, L, E, ce, rfl, rfl, hx, hce, hcv, hcl, rfl, hL, rfl, rfl⟩, ?_⟩
    show Steps p.tables e below _ (((({ U with heap := s₂.heap, slotsUsed := s₂.slotsUsed } : State).setVm s₂.vm).setTop g).pushFrame (.throwing q))
    rw [← hs₂]
    exact hsteps
end
variable {p : Program} {l : Launch} {e : Env} {R : Room} {s : State} {m : MethodId} {args : Array Value} {below : List Frame} {meth : Method} {c : Code} {T : State} {H : Heap} {locs : List Loc} {cells slots : Nat}
theorem vx_callVX (X : Stand p l e R s m args below meth c T locs cells slots) (hexec : p.tables.exec = Jvm.exec) {own C : String} {index : Nat} {y : MethodName} {bytes : ByteArray} {maxL : Nat} {ret : Option FieldType} {hh : List (Nat × Nat × Nat × Nat)}
    (hown : s.vm.findClass own = some m.cls) (hlink : (Cond.methodLink own index y).before args s = true) (hinst : (Cond.instanceMethod y).before args s = true) (hsel : (Cond.selects C y y).before args s = true)
    (hcode : (Cond.codeWith y bytes maxL ret hh).before args s = true) (hy : y.cls ≠ "java/lang/invoke/MethodHandle" ∧ y.cls ≠ "java/lang/invoke/VarHandle")
    {W9 : Nat} {Pre : Pt → Array Value → Prop} {Post : Pt → Array Value → Option Value → Pt → Prop} {PostX : Pt → Array Value → Addr → Pt → Prop} (hK : vx_Back l R p e below s args y 3 W9 Pre Post PostX)
    {b : Addr} {cellB : Cell} (hcell : T.heap[b]? = some cellB) (hobj : cellB.vm.isStatics = false) (hcls : s.vm.findClass C = some cellB.cls)
    {g : JFrame} (hg : g.method = m) (hsize : g.locals.size = c.maxLocals) {argsL rest : List Value} (hlen : ∀ sig, parseMethodDescriptor y.desc = some sig → argsL.length = sig.parameters.length)
    (hstack : g.stack = argsL.reverse ++ .ref b :: rest) (hW : 2 * g.monitorRoom + (rest.map fun v => v.category).sum ≤ W9) (hdg : decode c.code g.pc = .ok (.invokevirtual index, 3))
    (hpre : ∀ vm₁, s.WarmedH vm₁ → Pre ⟨T.setVm vm₁, locs, cells, slots⟩ (Value.ref b :: argsL).toArray) :
    (∃ (v : Option Value) (vm₁ : Vm) (B : Pt), s.WarmedH vm₁ ∧ Stand p l e R s m args below meth c B.U B.locs B.cells B.slots ∧ Post ⟨T.setVm vm₁, locs, cells, slots⟩ (Value.ref b :: argsL).toArray v B ∧
      ∀ target, Steps p.tables e below (B.U.setTop { g with pc := g.pc + 3, stack := v.toList ++ rest }) target → Steps p.tables e below (T.setTop g) target) ∨
    (∃ (q : Addr) (vm₁ : Vm) (B : Pt), s.WarmedH vm₁ ∧ Stand p l e R s m args below meth c B.U B.locs B.cells B.slots ∧ PostX ⟨T.setVm vm₁, locs, cells, slots⟩ (Value.ref b :: argsL).toArray q B ∧
      Steps p.tables e below (T.setTop g) ((B.U.setTop { g with stack := rest }).pushFrame (.throwing q))) := by
  obtain ⟨mk, methM, hnamed, hmethM, hstM, habM⟩ := Cond.instanceMethod_spec hinst
  obtain ⟨m8, methM', cM, hn8, hmethM', -, -, -, -, -, -, hsigM⟩ := Cond.codeWith_spec hcode
  cases Option.some.inj (hn8.symm.trans hnamed)
  cases hmethM.symm.trans hmethM'
  obtain ⟨c2, r2, m2, q1, q2, q3, q4, kP, hkP, hkPi⟩ := Cond.selects_spec hsel
  cases hcls.symm.trans q1
  cases (State.methodFound?_of_named hnamed hy).symm.trans q2
  cases hnamed.symm.trans q3
  have hselP : selectMethod e.platform s.vm cellB.cls mk = .method mk := by rw [Launch.admits_selectMethod X.admits]; exact q4
  obtain ⟨vm₁, X₁, hstep₁⟩ := X.invokevirtual hexec hown hlink hnamed hmethM hstM hkP hkPi hy (a := b) (cell := cellB) hcell
    (fun z h => by rw [h] at hobj; cases hobj) hselP hmethM habM hkP hkPi (g := g) hg (argsL := argsL) (rest := rest) (hlen _ hsigM) hstack hdg
  rcases hK m meth c ⟨T.setVm vm₁, locs, cells, slots⟩ { g with stack := rest } (.invokevirtual index) mk (Value.ref b :: argsL).toArray X₁ hg hsize hdg hW (X₁.named hnamed) (hpre vm₁ X₁.warmed) with ⟨v, B, X', hpost, hsteps⟩ | ⟨q, B, X', hpost, hsteps⟩
  · exact Or.inl ⟨v, vm₁, B, X₁.warmed, X', hpost, fun target h => hstep₁ _ fun acts => by rw [doInvoke_state]; exact hsteps.trans h⟩
  · exact Or.inr ⟨q, vm₁, B, X₁.warmed, X', hpost, hstep₁ _ fun acts => by rw [doInvoke_state]; exact hsteps⟩
theorem vx_callSX (X : Stand p l e R s m args below meth c T locs cells slots) (hexec : p.tables.exec = Jvm.exec) {own : String} {index : Nat} {y : MethodName} {bytes : ByteArray} {maxL : Nat} {ret : Option FieldType} {hh : List (Nat × Nat × Nat × Nat)}
    (hown : s.vm.findClass own = some m.cls) (hlink : (Cond.methodLink own index y).before args s = true) (hstat : (Cond.static y).before args s = true) (hinit : (Cond.initialized y.cls).before args s = true)
    (hcode : (Cond.codeWith y bytes maxL ret hh).before args s = true) (hy : y.cls ≠ "java/lang/invoke/MethodHandle" ∧ y.cls ≠ "java/lang/invoke/VarHandle")
    {W9 : Nat} {Pre : Pt → Array Value → Prop} {Post : Pt → Array Value → Option Value → Pt → Prop} {PostX : Pt → Array Value → Addr → Pt → Prop} (hK : vx_Back l R p e below s args y 3 W9 Pre Post PostX)
    {g : JFrame} (hg : g.method = m) (hsize : g.locals.size = c.maxLocals) {argsL rest : List Value} (hlen : ∀ sig, parseMethodDescriptor y.desc = some sig → argsL.length = sig.parameters.length)
    (hstack : g.stack = argsL.reverse ++ rest) (hW : 2 * g.monitorRoom + (rest.map fun v => v.category).sum ≤ W9) (hdg : decode c.code g.pc = .ok (.invokestatic index, 3))
    (hpre : ∀ vm₁, s.WarmedH vm₁ → Pre ⟨T.setVm vm₁, locs, cells, slots⟩ argsL.toArray) :
    (∃ (v : Option Value) (vm₁ : Vm) (B : Pt), s.WarmedH vm₁ ∧ Stand p l e R s m args below meth c B.U B.locs B.cells B.slots ∧ Post ⟨T.setVm vm₁, locs, cells, slots⟩ argsL.toArray v B ∧
      ∀ target, Steps p.tables e below (B.U.setTop { g with pc := g.pc + 3, stack := v.toList ++ rest }) target → Steps p.tables e below (T.setTop g) target) ∨
    (∃ (q : Addr) (vm₁ : Vm) (B : Pt), s.WarmedH vm₁ ∧ Stand p l e R s m args below meth c B.U B.locs B.cells B.slots ∧ PostX ⟨T.setVm vm₁, locs, cells, slots⟩ argsL.toArray q B ∧
      Steps p.tables e below (T.setTop g) ((B.U.setTop { g with stack := rest }).pushFrame (.throwing q))) := by
  obtain ⟨mk, methM, cM, hnamed, hmethM, -, -, -, -, -, -, hsigM⟩ := Cond.codeWith_spec hcode
  have hstatic : methM.isStatic = true := Cond.static_spec hnamed hmethM hstat
  obtain ⟨kP, hkP, -⟩ := className_of_methodNamed hnamed
  have hinitP : kP.init = .initialized := Cond.initialized_spec (findClass_of_methodNamed hnamed) hkP hinit
  obtain ⟨vm₁, X₁, hstep₁⟩ := X.invokestatic hexec hown hlink hnamed hmethM hstatic hkP hinitP hy (g := g) hg (argsL := argsL) (rest := rest) (hlen _ hsigM) hstack hdg
  rcases hK m meth c ⟨T.setVm vm₁, locs, cells, slots⟩ { g with stack := rest } (.invokestatic index) mk argsL.toArray X₁ hg hsize hdg hW (X₁.named hnamed) (hpre vm₁ X₁.warmed) with ⟨v, B, X', hpost, hsteps⟩ | ⟨q, B, X', hpost, hsteps⟩
  · exact Or.inl ⟨v, vm₁, B, X₁.warmed, X', hpost, fun target h => hstep₁ _ fun acts => by rw [doInvoke_state]; exact hsteps.trans h⟩
  · exact Or.inr ⟨q, vm₁, B, X₁.warmed, X', hpost, hstep₁ _ fun acts => by rw [doInvoke_state]; exact hsteps⟩
theorem vx_callVW (X : Stand p l e R s m args below meth c T locs cells slots) (hexec : p.tables.exec = Jvm.exec) {own C : String} {index : Nat} {y : MethodName} {bytes : ByteArray} {maxL : Nat} {ret : Option FieldType} {hh : List (Nat × Nat × Nat × Nat)}
    (hown : s.vm.findClass own = some m.cls) (hlink : (Cond.methodLink own index y).before args s = true) (hinst : (Cond.instanceMethod y).before args s = true) (hsel : (Cond.selects C y y).before args s = true)
    (hcode : (Cond.codeWith y bytes maxL ret hh).before args s = true) (hy : y.cls ≠ "java/lang/invoke/MethodHandle" ∧ y.cls ≠ "java/lang/invoke/VarHandle")
    {W9 : Nat} {Pre : Pt → Array Value → Prop} {Post : Pt → Array Value → Option Value → Pt → Prop} (hK : Back l R p e below s args y 3 W9 Pre Post)
    {b : Addr} {cellB : Cell} (hcell : T.heap[b]? = some cellB) (hobj : cellB.vm.isStatics = false) (hcls : s.vm.findClass C = some cellB.cls)
    {g : JFrame} (hg : g.method = m) (hsize : g.locals.size = c.maxLocals) {argsL rest : List Value} (hlen : ∀ sig, parseMethodDescriptor y.desc = some sig → argsL.length = sig.parameters.length)
    (hstack : g.stack = argsL.reverse ++ .ref b :: rest) (hW : 2 * g.monitorRoom + (rest.map fun v => v.category).sum ≤ W9) (hdg : decode c.code g.pc = .ok (.invokevirtual index, 3))
    (hpre : ∀ vm₁, s.WarmedH vm₁ → Pre ⟨T.setVm vm₁, locs, cells, slots⟩ (Value.ref b :: argsL).toArray) :
    ∃ (v : Option Value) (vm₁ : Vm) (B : Pt), s.WarmedH vm₁ ∧ Stand p l e R s m args below meth c B.U B.locs B.cells B.slots ∧ Post ⟨T.setVm vm₁, locs, cells, slots⟩ (Value.ref b :: argsL).toArray v B ∧
      ∀ target, Steps p.tables e below (B.U.setTop { g with pc := g.pc + 3, stack := v.toList ++ rest }) target → Steps p.tables e below (T.setTop g) target := by
  obtain ⟨mk, methM, hnamed, hmethM, hstM, habM⟩ := Cond.instanceMethod_spec hinst
  obtain ⟨m8, methM', cM, hn8, hmethM', -, -, -, -, -, -, hsigM⟩ := Cond.codeWith_spec hcode
  cases Option.some.inj (hn8.symm.trans hnamed)
  cases hmethM.symm.trans hmethM'
  obtain ⟨c2, r2, m2, q1, q2, q3, q4, kP, hkP, hkPi⟩ := Cond.selects_spec hsel
  cases hcls.symm.trans q1
  cases (State.methodFound?_of_named hnamed hy).symm.trans q2
  cases hnamed.symm.trans q3
  have hselP : selectMethod e.platform s.vm cellB.cls mk = .method mk := by rw [Launch.admits_selectMethod X.admits]; exact q4
  obtain ⟨vm₁, X₁, hstep₁⟩ := X.invokevirtual hexec hown hlink hnamed hmethM hstM hkP hkPi hy (a := b) (cell := cellB) hcell
    (fun z h => by rw [h] at hobj; cases hobj) hselP hmethM habM hkP hkPi (g := g) hg (argsL := argsL) (rest := rest) (hlen _ hsigM) hstack hdg
  obtain ⟨v, B, X', hpost, hsteps⟩ := hK m meth c ⟨T.setVm vm₁, locs, cells, slots⟩ { g with stack := rest } (.invokevirtual index) mk (Value.ref b :: argsL).toArray X₁ hg hsize hdg hW (X₁.named hnamed) (hpre vm₁ X₁.warmed)
  exact ⟨v, vm₁, B, X₁.warmed, X', hpost, fun target h => hstep₁ _ fun acts => by rw [doInvoke_state]; exact hsteps.trans h⟩
abbrev vx_CVW (R : Room) (s : State) (args : Array Value) (own C : String) (index : Nat) (y : MethodName) (bytes : ByteArray) (maxL : Nat) (ret : Option FieldType) (hh : List (Nat × Nat × Nat × Nat)) (ws : List Cond) (rm : Room) (mc ms n : Nat) : Prop :=
  (rm.cells = mc ∧ rm.slots = ms ∧ rm.frames + 1 ≤ R.frames ∧ 8 + (maxL + 11) + rm.locals ≤ R.locals ∧ (∀ w ∈ ws, ∀ (a' : Array Value) (U : State), s.WarmedH U.vm → w.before a' U = true) ∧ Cond.codeWith y bytes maxL ret hh ∈ ws) ∧
  (Cond.codeWith y bytes maxL ret hh).before args s = true ∧ (Cond.initialized y.cls).before args s = true ∧ (y.cls ≠ "java/lang/invoke/MethodHandle" ∧ y.cls ≠ "java/lang/invoke/VarHandle") ∧
  (∀ sig, parseMethodDescriptor y.desc = some sig → n = sig.parameters.length) ∧ (Cond.methodLink own index y).before args s = true ∧ (Cond.instanceMethod y).before args s = true ∧ (Cond.selects C y y).before args s = true
theorem vx_cwVW {own C : String} {index maxL mc ms : Nat} {y : MethodName} {bytes : ByteArray} {ret : Option FieldType} {hh : List (Nat × Nat × Nat × Nat)} {Ts ws ws' : List Cond} {rm : Room} (n : Nat) (ht : ∀ w ∈ Ts, w.before args s = true) (hT : GoodIn Ts (wsV own index C y ws)) (hw : ws = Cond.codeWith y bytes maxL ret hh :: ws') (hrc : rm.cells = mc) (hrs : rm.slots = ms)
    (hd : y.cls = C ∧ y.cls ≠ "java/lang/invoke/MethodHandle" ∧ y.cls ≠ "java/lang/invoke/VarHandle" ∧ (parseMethodDescriptor y.desc).map (fun d => d.parameters.length) = some n) (hR : rm.frames + 1 ≤ R.frames ∧ 8 + (maxL + 11) + rm.locals ≤ R.locals) :
    vx_CVW R s args own C index y bytes maxL ret hh ws rm mc ms n := by
  obtain ⟨hC, hd⟩ := hd
  subst hC
  have ok : ∀ w ∈ wsV own index y.cls y ws, w.before args s = true := fun w h => ht w (hT w h).1
  have hG : GoodIn Ts ws := fun w h => hT w (by unfold wsV; exact List.mem_append_right _ h)
  have hc : Cond.codeWith y bytes maxL ret hh ∈ ws := by rw [hw]; exact List.mem_cons_self
  refine ⟨⟨hrc, hrs, hR.1, hR.2, pay_in ht hG, hc⟩, ht _ (hG _ hc).1, ok _ (by simp [wsV]), ⟨hd.1, hd.2.1⟩, fun sig h => ?_, ok _ (by simp [wsV]), ok _ (by simp [wsV]), ok _ (by simp [wsV])⟩
  have h2 := hd.2.2
  rw [h] at h2
  exact (Option.some.inj h2).symm
theorem vx_runVW {y : MethodName} {bytes cc : ByteArray} {maxL nL mc ms n index : Nat} {ret : Option FieldType} {hh : List (Nat × Nat × Nat × Nat)} {ws : List Cond} {rm : Room} {Pc : Array Value → State → Prop} {Qc : Array Value → State → Outcome → State → Prop} {free : Addr → Prop} {Ts : List Cond} {own C : String} {b : Addr} {As rest : List Value} {g : JFrame}
    (S : CallFix p m c cc nL s args Ts own) (hM : Met l y ws rm Pc Qc mc ms free) (cw : vx_CVW R s args own C index y bytes maxL ret hh ws rm mc ms n) (hp : PreV s H C b Pc As)
    (hg : g.method = m) (hn : As.length = n) (hsize : g.locals.size = nL) (hstack : g.stack = As.reverse ++ .ref b :: rest) (hW : 2 * g.monitorRoom + (rest.map fun v => v.category).sum ≤ 8) (hdg : decode cc g.pc = .ok (.invokevirtual index, 3)) (hf : cells + mc ≤ R.cells ∧ slots + ms ≤ R.slots) :
    va_Run p l e R s m args below meth c H locs cells slots mc ms g rest (Qc (Value.ref b :: As).toArray) free := by
  obtain ⟨⟨hrc, hrs, hfr, hlo, hws, hcw⟩, hcode, hini, hy, hlen, hl, hin, hse⟩ := cw
  have hK : Back l R p e below s args y 3 8 (PreOf R mc ms Pc) (PostOf Qc mc ms free) := va_backW (hh := hh) (bytes := bytes) (maxL := maxL) (ret := ret) hM hp.1 hrc hrs hfr hlo hws hcw (fun a' U hW => word_at hW (Or.inl (by first | rfl | simp [Cond.onTables, Cond.keeps, Cond.steady])) hini)
  obtain ⟨hx, hb, hml, ho, -⟩ := S
  obtain ⟨-, ⟨cellB, hcB, hoB, hclB⟩, hPc⟩ := hp
  intro T hT X
  obtain ⟨v, vm₁, ⟨U', l2, c2, s2⟩, hW₁, X', ⟨g', mk, t, L, e1, e2, hq, h1, hL, h2, h3⟩, st⟩ := vx_callVW X hx (C := C) (hh := hh) (bytes := bytes) (maxL := maxL) (ret := ret) ho hl hin hse hcode hy hK (by rw [hT]; exact hcB) hoB hclB hg (hsize.trans hml.symm) (argsL := As) (rest := rest) (fun sig h => hn.trans (hlen sig h)) hstack hW (by rw [hb]; exact hdg)
    (fun vm₁ hW₁ => ⟨hf.1, hf.2, hPc (T.setVm vm₁) hT hW₁⟩)
  dsimp only [Pt.U, Pt.locs, Pt.cells, Pt.slots] at X' e1 e2 h1 h2 h3 st
  subst h1; subst h2; subst h3
  exact ⟨v, (T.setVm vm₁).calling g' mk (Value.ref b :: As).toArray, t, U', L, hT, X', hL, e1, e2, hq, st⟩
section
variable {y : MethodName} {bytes cc : ByteArray} {maxL nL mc ms n index : Nat} {ret : Option FieldType} {ws : List Cond} {rm : Room} {Pc : Array Value → State → Prop} {Qc : Array Value → State → Outcome → State → Prop} {XC : String → State → State → Prop} {free : Addr → Prop} {Ts : List Cond} {own C : String} {b : Addr} {As rest : List Value} {g : JFrame}
theorem vx_runVX {hh : List (Nat × Nat × Nat × Nat)} (S : CallFix p m c cc nL s args Ts own) (hM : vx_Met l y ws rm Pc Qc XC mc ms free) (cw : vx_CVW R s args own C index y bytes maxL ret hh ws rm mc ms n) (hp : PreV s H C b Pc As)
    (hg : g.method = m) (hn : As.length = n) (hsize : g.locals.size = nL) (hstack : g.stack = As.reverse ++ .ref b :: rest) (hW : 2 * g.monitorRoom + (rest.map fun v => v.category).sum ≤ 8) (hdg : decode cc g.pc = .ok (.invokevirtual index, 3)) (hf : cells + mc ≤ R.cells ∧ slots + ms ≤ R.slots) :
    vx_Run p l e R s m args below meth c H locs cells slots mc ms g rest (Qc (Value.ref b :: As).toArray) XC free := by
  obtain ⟨⟨hrc, hrs, hfr, hlo, hws, hcw⟩, hcode, hini, hy, hlen, hl, hin, hse⟩ := cw
  have hK : vx_Back l R p e below s args y 3 8 (PreOf R mc ms Pc) (PostOf Qc mc ms free) (vx_Post XC mc ms free) := vx_backW (hh := hh) (bytes := bytes) (maxL := maxL) (ret := ret) hM hp.1 hrc hrs hfr hlo hws hcw (fun a' U hW => word_at hW (Or.inl (by first | rfl | simp [Cond.onTables, Cond.keeps, Cond.steady])) hini)
  obtain ⟨hx, hb, hml, ho, -⟩ := S
  obtain ⟨-, ⟨cellB, hcB, hoB, hclB⟩, hPc⟩ := hp
  intro T hT X
  rcases vx_callVX X hx (C := C) (hh := hh) (bytes := bytes) (maxL := maxL) (ret := ret) ho hl hin hse hcode hy hK (by rw [hT]; exact hcB) hoB hclB hg (hsize.trans hml.symm) (argsL := As) (rest := rest) (fun sig h => hn.trans (hlen sig h)) hstack hW (by rw [hb]; exact hdg)
    (fun vm₁ hW₁ => ⟨hf.1, hf.2, hPc (T.setVm vm₁) hT hW₁⟩) with ⟨v, vm₁, ⟨U', l2, c2, s2⟩, hW₁, X', ⟨g', mk, t, L, e1, e2, hq, h1, hL, h2, h3⟩, st⟩ | ⟨q, vm₁, ⟨U', l2, c2, s2⟩, hW₁, X', ⟨g', mk, t, L, E, ce, e1, e2, hq, hce, hcv, hcl, h1, hL, h2, h3⟩, st⟩
  · dsimp only [Pt.U, Pt.locs, Pt.cells, Pt.slots] at X' e1 e2 h1 h2 h3 st
    subst h1; subst h2; subst h3
    exact Or.inl ⟨v, (T.setVm vm₁).calling g' mk (Value.ref b :: As).toArray, t, U', L, hT, X', hL, e1, e2, hq, st⟩
  · dsimp only [Pt.U, Pt.locs, Pt.cells, Pt.slots] at X' e1 e2 h1 h2 h3 st hcl
    subst h1; subst h2; subst h3
    exact Or.inr ⟨q, (T.setVm vm₁).calling g' mk (Value.ref b :: As).toArray, t, U', L, E, ce, hT, X', hL, e1, e2, hq, hce, hcv, vx_cls hW₁ hcl, st⟩
theorem vx_runSX {hh : List (Nat × Nat × Nat × Nat)} (S : CallFix p m c cc nL s args Ts own) (hM : vx_Met l y ws rm Pc Qc XC mc ms free) (cw : vx_CSW R s args own index y bytes maxL ret hh ws rm mc ms n) (hp : PreS s H Pc As)
    (hg : g.method = m) (hn : As.length = n) (hsize : g.locals.size = nL) (hstack : g.stack = As.reverse ++ rest) (hW : 2 * g.monitorRoom + (rest.map fun v => v.category).sum ≤ 8) (hdg : decode cc g.pc = .ok (.invokestatic index, 3)) (hf : cells + mc ≤ R.cells ∧ slots + ms ≤ R.slots) :
    vx_Run p l e R s m args below meth c H locs cells slots mc ms g rest (Qc As.toArray) XC free := by
  obtain ⟨⟨hrc, hrs, hfr, hlo, hws, hcw⟩, hcode, hini, hy, hlen, hl, hstt⟩ := cw
  have hK : vx_Back l R p e below s args y 3 8 (PreOf R mc ms Pc) (PostOf Qc mc ms free) (vx_Post XC mc ms free) := vx_backW (hh := hh) (bytes := bytes) (maxL := maxL) (ret := ret) hM hp.1 hrc hrs hfr hlo hws hcw (fun a' U hW => word_at hW (Or.inl (by first | rfl | simp [Cond.onTables, Cond.keeps, Cond.steady])) hini)
  obtain ⟨hx, hb, hml, ho, -⟩ := S
  intro T hT X
  rcases vx_callSX X hx (hh := hh) (bytes := bytes) (maxL := maxL) (ret := ret) ho hl hstt hini hcode hy hK hg (hsize.trans hml.symm) (argsL := As) (rest := rest) (fun sig h => hn.trans (hlen sig h)) hstack hW (by rw [hb]; exact hdg)
    (fun vm₁ hW₁ => ⟨hf.1, hf.2, hp.2 (T.setVm vm₁) hT hW₁⟩) with ⟨v, vm₁, ⟨U', l2, c2, s2⟩, hW₁, X', ⟨g', mk, t, L, e1, e2, hq, h1, hL, h2, h3⟩, st⟩ | ⟨q, vm₁, ⟨U', l2, c2, s2⟩, hW₁, X', ⟨g', mk, t, L, E, ce, e1, e2, hq, hce, hcv, hcl, h1, hL, h2, h3⟩, st⟩
  · dsimp only [Pt.U, Pt.locs, Pt.cells, Pt.slots] at X' e1 e2 h1 h2 h3 st
    subst h1; subst h2; subst h3
    exact Or.inl ⟨v, (T.setVm vm₁).calling g' mk As.toArray, t, U', L, hT, X', hL, e1, e2, hq, st⟩
  · dsimp only [Pt.U, Pt.locs, Pt.cells, Pt.slots] at X' e1 e2 h1 h2 h3 st hcl
    subst h1; subst h2; subst h3
    exact Or.inr ⟨q, (T.setVm vm₁).calling g' mk As.toArray, t, U', L, E, ce, hT, X', hL, e1, e2, hq, hce, hcv, vx_cls hW₁ hcl, st⟩
end
end VXH
theorem vx_ofWH {l : Launch} {y : MethodName} {ws ws' : List Cond} {rm : Room} {Pc : Array Value → State → Prop} {Qc : Array Value → State → Outcome → State → Prop} {XC : String → State → State → Prop} {mc ms : Nat} {free : Addr → Prop} {cc : ByteArray} {maxL : Nat} {ret : Option FieldType} {hh : List (Nat × Nat × Nat × Nat)}
    (hy : plainName y.cls = true) (hw : ws = Cond.codeWith y cc maxL ret hh :: ws')
    (body : ∀ p e s m args below meth c s₁, BodyLoose p l y (headSpec ws rm) cc maxL ret e s m args below meth c s₁ → c.maxLocals = maxL → Pc args s →
      W p l e (headSpec ws rm).room s m args below meth c s.heap [] 0 0 (vx_MQ below Qc XC args s mc ms free) (entryFrame m args maxL)) : vx_Met l y ws rm Pc Qc XC mc ms free := by
  refine MetFree.of_bodyS (code := cc) (maxLocals := maxL) (ret := ret) hy ?_ ?_
  · intro args s m h hn
    obtain ⟨m9, meth, c, hn9, h1, h2, h3, h4, -, h5, h6, -⟩ := Cond.codeWith_spec (atoms_spec (ws := ws) h _ (by rw [hw]; exact List.mem_cons_self))
    cases hn.symm.trans hn9
    exact ⟨meth, c, h1, h2, h3, h4, h5, h6⟩
  · intro p e s m args below meth c s₁ B hml hP _
    have hh0 : s₁.heap = s.heap := by rw [B.state]; rfl
    obtain ⟨t, a1, o, b1, b2, b3⟩ := body p e s m args below meth c s₁ B hml hP s₁ hh0 (Stand.of_body B)
    exact ⟨t, o, a1, b1, b2, b3⟩
/-! ===== END ===== -/
end
section
def RX0 : String := "WeaveShares$Hall"
def TX0 : u_T := fun k => match k with
  | 0 => ("WeaveShares$Hall", "weavers", "[LWeaveShares$Weaver;", true)
  | 1 => ("WeaveShares$Hall", "orders", "[LWeaveShares$Order;", true)
  | 2 => ("WeaveShares$Hall", "stock", "LWeaveShares$Yarn;", true)
  | 3 => ("WeaveShares$Hall", "settings", "[I", true)
  | 4 => ("WeaveShares$Hall", "dues", "[I", true)
  | 5 => ("WeaveShares$Hall", "orderCount", "I", false)
  | 6 => ("WeaveShares$Hall", "nextNumber", "I", false)
  | 7 => ("WeaveShares$Hall", "hours", "I", false)
  | 8 => ("WeaveShares$Hall", "done", "I", false)
  | 9 => ("WeaveShares$Hall", "late", "I", false)
  | 10 => ("WeaveShares$Hall", "paid", "I", false)
  | 11 => ("WeaveShares$Hall", "used", "I", false)
  | _ => ("WeaveShares$Hall", "idle", "I", false)
def tyX0 : Nat → FieldType := fun k => match k with
  | 0 => .array (.object "WeaveShares$Weaver")
  | 1 => .array (.object "WeaveShares$Order")
  | 2 => .object "WeaveShares$Yarn"
  | 3 => .array .int
  | 4 => .array .int
  | 5 => .int
  | 6 => .int
  | 7 => .int
  | 8 => .int
  | 9 => .int
  | 10 => .int
  | 11 => .int
  | _ => .int
abbrev wsX00 : List Cond := u_ws RX0 TX0 13
theorem nmX0 : ∀ a, a < 13 → ∀ b, b < 13 → a ≠ b → (TX0 a).2.1 ≠ (TX0 b).2.1 := by decide +kernel
theorem tyX0_ok : ∀ k, k < 13 → parseFieldDescriptor (TX0 k).2.2.1 = some (tyX0 k) := by decide +kernel
abbrev cX0_init : ByteArray := prog_2_method_1_code
def yX0_init : MethodName := ⟨RX0, "<init>", "()V"⟩
abbrev cX0_copyFrom : ByteArray := prog_2_method_2_code
def yX0_copyFrom : MethodName := ⟨RX0, "copyFrom", "(LWeaveShares$Hall;)V"⟩
abbrev cX0_orderAt : ByteArray := prog_2_method_3_code
def yX0_orderAt : MethodName := ⟨RX0, "orderAt", "(I)LWeaveShares$Order;"⟩
abbrev cX0_placeOf : ByteArray := prog_2_method_4_code
def yX0_placeOf : MethodName := ⟨RX0, "placeOf", "(I)I"⟩
abbrev cX0_find : ByteArray := prog_2_method_5_code
def yX0_find : MethodName := ⟨RX0, "find", "(I)LWeaveShares$Order;"⟩
abbrev cX0_take : ByteArray := prog_2_method_6_code
def yX0_take : MethodName := ⟨RX0, "take", "(IIIII)I"⟩
abbrev cX0_dismiss : ByteArray := prog_2_method_7_code
def yX0_dismiss : MethodName := ⟨RX0, "dismiss", "(LWeaveShares$Order;)V"⟩
abbrev cX0_merit : ByteArray := prog_2_method_8_code
def yX0_merit : MethodName := ⟨RX0, "merit", "(LWeaveShares$Order;)I"⟩
abbrev cX0_choiceOf : ByteArray := prog_2_method_9_code
def yX0_choiceOf : MethodName := ⟨RX0, "choiceOf", "(LWeaveShares$Weaver;)LWeaveShares$Order;"⟩
abbrev cX0_chosenNumber : ByteArray := prog_2_method_10_code
def yX0_chosenNumber : MethodName := ⟨RX0, "chosenNumber", "(LWeaveShares$Weaver;)I"⟩
abbrev cX0_hindrance : ByteArray := prog_2_method_11_code
def yX0_hindrance : MethodName := ⟨RX0, "hindrance", "(LWeaveShares$Weaver;)I"⟩
abbrev cX0_sourceOf : ByteArray := prog_2_method_12_code
def yX0_sourceOf : MethodName := ⟨RX0, "sourceOf", "(LWeaveShares$Weaver;LWeaveShares$Order;)LWeaveShares$Yarn;"⟩
abbrev cX0_takeYarn : ByteArray := prog_2_method_13_code
def yX0_takeYarn : MethodName := ⟨RX0, "takeYarn", "(LWeaveShares$Yarn;LWeaveShares$Weaver;LWeaveShares$Order;)V"⟩
abbrev cX0_passHour : ByteArray := prog_2_method_14_code
def yX0_passHour : MethodName := ⟨RX0, "passHour", "()I"⟩
abbrev cX0_workLoom : ByteArray := prog_2_method_15_code
def yX0_workLoom : MethodName := ⟨RX0, "workLoom", "(LWeaveShares$Weaver;I)I"⟩
abbrev cX0_finish : ByteArray := prog_2_method_16_code
def yX0_finish : MethodName := ⟨RX0, "finish", "(LWeaveShares$Order;)V"⟩
abbrev cX0_foresee : ByteArray := prog_2_method_17_code
def yX0_foresee : MethodName := ⟨RX0, "foresee", "(I)V"⟩
abbrev cX0_dueOf : ByteArray := prog_2_method_18_code
def yX0_dueOf : MethodName := ⟨RX0, "dueOf", "(LWeaveShares$Order;I)I"⟩
abbrev cX0_sumOf : ByteArray := prog_2_method_19_code
def yX0_sumOf : MethodName := ⟨RX0, "sumOf", "(I)I"⟩
abbrev cX0_loomsAsWideAs : ByteArray := prog_2_method_20_code
def yX0_loomsAsWideAs : MethodName := ⟨RX0, "loomsAsWideAs", "(I)I"⟩
abbrev cX0_number : ByteArray := prog_2_method_21_code
def yX0_number : MethodName := ⟨RX0, "number", "(I)I"⟩
abbrev cX0_orderProperty : ByteArray := prog_2_method_22_code
def yX0_orderProperty : MethodName := ⟨RX0, "orderProperty", "(II)I"⟩
abbrev cX0_earnedRatio : ByteArray := prog_2_method_23_code
def yX0_earnedRatio : MethodName := ⟨RX0, "earnedRatio", "()D"⟩
def RX1 : String := "WeaveShares$Order"
def TX1 : u_T := fun k => match k with
  | 0 => ("WeaveShares$Order", "goodBy", "[I", true)
  | 1 => ("WeaveShares$Order", "number", "I", false)
  | 2 => ("WeaveShares$Order", "colour", "I", false)
  | 3 => ("WeaveShares$Order", "width", "I", false)
  | 4 => ("WeaveShares$Order", "length", "I", false)
  | 5 => ("WeaveShares$Order", "price", "I", false)
  | 6 => ("WeaveShares$Order", "due", "I", false)
  | _ => ("WeaveShares$Order", "good", "I", false)
def tyX1 : Nat → FieldType := fun k => match k with
  | 0 => .array .int
  | 1 => .int
  | 2 => .int
  | 3 => .int
  | 4 => .int
  | 5 => .int
  | 6 => .int
  | _ => .int
abbrev wsX10 : List Cond := u_ws RX1 TX1 8
theorem nmX1 : ∀ a, a < 8 → ∀ b, b < 8 → a ≠ b → (TX1 a).2.1 ≠ (TX1 b).2.1 := by decide +kernel
theorem tyX1_ok : ∀ k, k < 8 → parseFieldDescriptor (TX1 k).2.2.1 = some (tyX1 k) := by decide +kernel
abbrev cX1_init : ByteArray := prog_3_method_1_code
def yX1_init : MethodName := ⟨RX1, "<init>", "()V"⟩
abbrev cX1_become : ByteArray := prog_3_method_2_code
def yX1_become : MethodName := ⟨RX1, "become", "(IIIIII)V"⟩
abbrev cX1_gramsEach : ByteArray := prog_3_method_3_code
def yX1_gramsEach : MethodName := ⟨RX1, "gramsEach", "()I"⟩
abbrev cX1_isDone : ByteArray := prog_3_method_4_code
def yX1_isDone : MethodName := ⟨RX1, "isDone", "()Z"⟩
abbrev cX1_addGood : ByteArray := prog_3_method_5_code
def yX1_addGood : MethodName := ⟨RX1, "addGood", "(I)V"⟩
abbrev cX1_lateHours : ByteArray := prog_3_method_6_code
def yX1_lateHours : MethodName := ⟨RX1, "lateHours", "(I)I"⟩
abbrev cX1_payFor : ByteArray := prog_3_method_7_code
def yX1_payFor : MethodName := ⟨RX1, "payFor", "(II)I"⟩
abbrev cX1_divide : ByteArray := prog_3_method_8_code
def yX1_divide : MethodName := ⟨RX1, "divide", "(I[I)V"⟩
abbrev cX1_copyFrom : ByteArray := prog_3_method_9_code
def yX1_copyFrom : MethodName := ⟨RX1, "copyFrom", "(LWeaveShares$Order;)V"⟩
def RX2 : String := "WeaveShares$OrderReader"
def TX2 : u_T := fun k => match k with
  | 0 => ("WeaveShares$OrderReader", "numbers", "[I", true)
  | 1 => ("WeaveShares$OrderReader", "parts", "I", false)
  | 2 => ("WeaveShares$OrderReader", "field", "I", false)
  | _ => ("WeaveShares$OrderReader", "digits", "I", false)
def tyX2 : Nat → FieldType := fun k => match k with
  | 0 => .array .int
  | 1 => .int
  | 2 => .int
  | _ => .int
abbrev wsX20 : List Cond := u_ws RX2 TX2 4
theorem nmX2 : ∀ a, a < 4 → ∀ b, b < 4 → a ≠ b → (TX2 a).2.1 ≠ (TX2 b).2.1 := by decide +kernel
theorem tyX2_ok : ∀ k, k < 4 → parseFieldDescriptor (TX2 k).2.2.1 = some (tyX2 k) := by decide +kernel
abbrev cX2_init : ByteArray := prog_4_method_1_code
def yX2_init : MethodName := ⟨RX2, "<init>", "()V"⟩
abbrev cX2_restart : ByteArray := prog_4_method_2_code
def yX2_restart : MethodName := ⟨RX2, "restart", "()V"⟩
abbrev cX2_startPart : ByteArray := prog_4_method_3_code
def yX2_startPart : MethodName := ⟨RX2, "startPart", "()V"⟩
abbrev cX2_accepts : ByteArray := prog_4_method_4_code
def yX2_accepts : MethodName := ⟨RX2, "accepts", "(I)Z"⟩
abbrev cX2_isComplete : ByteArray := prog_4_method_5_code
def yX2_isComplete : MethodName := ⟨RX2, "isComplete", "()Z"⟩
abbrev cX2_isField : ByteArray := prog_4_method_6_code
def yX2_isField : MethodName := ⟨RX2, "isField", "()Z"⟩
abbrev cX2_numberStands : ByteArray := prog_4_method_7_code
def yX2_numberStands : MethodName := ⟨RX2, "numberStands", "()Z"⟩
abbrev cX2_acceptsDigit : ByteArray := prog_4_method_8_code
def yX2_acceptsDigit : MethodName := ⟨RX2, "acceptsDigit", "(I)Z"⟩
abbrev cX2_canBecome : ByteArray := prog_4_method_9_code
def yX2_canBecome : MethodName := ⟨RX2, "canBecome", "(III)Z"⟩
abbrev cX2_acceptsMark : ByteArray := prog_4_method_10_code
def yX2_acceptsMark : MethodName := ⟨RX2, "acceptsMark", "(I)Z"⟩
abbrev cX2_fieldBehind : ByteArray := prog_4_method_11_code
def yX2_fieldBehind : MethodName := ⟨RX2, "fieldBehind", "(I)I"⟩
def RX3 : String := "WeaveShares$Weaver"
def TX3 : u_T := fun k => match k with
  | 0 => ("WeaveShares$Weaver", "share", "LWeaveShares$Yarn;", true)
  | 1 => ("WeaveShares$Weaver", "width", "I", false)
  | 2 => ("WeaveShares$Weaver", "speed", "I", false)
  | 3 => ("WeaveShares$Weaver", "care", "I", false)
  | 4 => ("WeaveShares$Weaver", "debt", "I", false)
  | 5 => ("WeaveShares$Weaver", "earned", "I", false)
  | 6 => ("WeaveShares$Weaver", "woven", "I", false)
  | 7 => ("WeaveShares$Weaver", "faults", "I", false)
  | _ => ("WeaveShares$Weaver", "borrowed", "I", false)
def tyX3 : Nat → FieldType := fun k => match k with
  | 0 => .object "WeaveShares$Yarn"
  | 1 => .int
  | 2 => .int
  | 3 => .int
  | 4 => .int
  | 5 => .int
  | 6 => .int
  | 7 => .int
  | _ => .int
abbrev wsX30 : List Cond := u_ws RX3 TX3 9
theorem nmX3 : ∀ a, a < 9 → ∀ b, b < 9 → a ≠ b → (TX3 a).2.1 ≠ (TX3 b).2.1 := by decide +kernel
theorem tyX3_ok : ∀ k, k < 9 → parseFieldDescriptor (TX3 k).2.2.1 = some (tyX3 k) := by decide +kernel
abbrev cX3_init : ByteArray := prog_5_method_1_code
def yX3_init : MethodName := ⟨RX3, "<init>", "()V"⟩
abbrev cX3_hasLoom : ByteArray := prog_5_method_2_code
def yX3_hasLoom : MethodName := ⟨RX3, "hasLoom", "()Z"⟩
abbrev cX3_borrow : ByteArray := prog_5_method_3_code
def yX3_borrow : MethodName := ⟨RX3, "borrow", "(I)V"⟩
abbrev cX3_weavesGood : ByteArray := prog_5_method_4_code
def yX3_weavesGood : MethodName := ⟨RX3, "weavesGood", "()Z"⟩
abbrev cX3_receive : ByteArray := prog_5_method_5_code
def yX3_receive : MethodName := ⟨RX3, "receive", "(II)V"⟩
abbrev cX3_property : ByteArray := prog_5_method_6_code
def yX3_property : MethodName := ⟨RX3, "property", "(I)I"⟩
abbrev cX3_copyFrom : ByteArray := prog_5_method_7_code
def yX3_copyFrom : MethodName := ⟨RX3, "copyFrom", "(LWeaveShares$Weaver;)V"⟩
def RX4 : String := "WeaveShares$Yarn"
def TX4 : u_T := fun k => match k with
  | _ => ("WeaveShares$Yarn", "grams", "[I", true)
def tyX4 : Nat → FieldType := fun k => match k with
  | _ => .array .int
abbrev wsX40 : List Cond := u_ws RX4 TX4 1
theorem nmX4 : ∀ a, a < 1 → ∀ b, b < 1 → a ≠ b → (TX4 a).2.1 ≠ (TX4 b).2.1 := by decide +kernel
theorem tyX4_ok : ∀ k, k < 1 → parseFieldDescriptor (TX4 k).2.2.1 = some (tyX4 k) := by decide +kernel
abbrev cX4_init : ByteArray := prog_6_method_1_code
def yX4_init : MethodName := ⟨RX4, "<init>", "()V"⟩
abbrev cX4_of : ByteArray := prog_6_method_2_code
def yX4_of : MethodName := ⟨RX4, "of", "(I)I"⟩
abbrev cX4_add : ByteArray := prog_6_method_3_code
def yX4_add : MethodName := ⟨RX4, "add", "(II)I"⟩
abbrev cX4_copyFrom : ByteArray := prog_6_method_4_code
def yX4_copyFrom : MethodName := ⟨RX4, "copyFrom", "(LWeaveShares$Yarn;)V"⟩
def RX5 : String := "WeaveShares"
def TX5 : u_T := fun k => match k with
  | 0 => ("WeaveShares", "hall", "LWeaveShares$Hall;", true)
  | 1 => ("WeaveShares", "trial", "LWeaveShares$Hall;", true)
  | 2 => ("WeaveShares", "saved", "[LWeaveShares$Hall;", true)
  | 3 => ("WeaveShares", "buffer", "[I", true)
  | 4 => ("WeaveShares", "reader", "LWeaveShares$OrderReader;", true)
  | 5 => ("WeaveShares", "ends", "[I", true)
  | 6 => ("WeaveShares", "savedCount", "I", false)
  | _ => ("WeaveShares", "bufferLength", "I", false)
def tyX5 : Nat → FieldType := fun k => match k with
  | 0 => .object "WeaveShares$Hall"
  | 1 => .object "WeaveShares$Hall"
  | 2 => .array (.object "WeaveShares$Hall")
  | 3 => .array .int
  | 4 => .object "WeaveShares$OrderReader"
  | 5 => .array .int
  | 6 => .int
  | _ => .int
abbrev wsX50 : List Cond := u_ws RX5 TX5 8
theorem nmX5 : ∀ a, a < 8 → ∀ b, b < 8 → a ≠ b → (TX5 a).2.1 ≠ (TX5 b).2.1 := by decide +kernel
theorem tyX5_ok : ∀ k, k < 8 → parseFieldDescriptor (TX5 k).2.2.1 = some (tyX5 k) := by decide +kernel
abbrev cX5_init : ByteArray := prog_1_method_1_code
def yX5_init : MethodName := ⟨RX5, "<init>", "()V"⟩
abbrev cX5_loom : ByteArray := prog_1_method_2_code
def yX5_loom : MethodName := ⟨RX5, "loom", "(IIII)I"⟩
abbrev cX5_yarn : ByteArray := prog_1_method_3_code
def yX5_yarn : MethodName := ⟨RX5, "yarn", "(III)I"⟩
abbrev cX5_store : ByteArray := prog_1_method_4_code
def yX5_store : MethodName := ⟨RX5, "store", "(II)I"⟩
abbrev cX5_give : ByteArray := prog_1_method_5_code
def yX5_give : MethodName := ⟨RX5, "give", "(IIII)I"⟩
abbrev cX5_order : ByteArray := prog_1_method_6_code
def yX5_order : MethodName := ⟨RX5, "order", "(IIIII)I"⟩
abbrev cX5_cancel : ByteArray := prog_1_method_7_code
def yX5_cancel : MethodName := ⟨RX5, "cancel", "(I)I"⟩
abbrev cX5_set : ByteArray := prog_1_method_8_code
def yX5_set : MethodName := ⟨RX5, "set", "(II)I"⟩
abbrev cX5_pass : ByteArray := prog_1_method_9_code
def yX5_pass : MethodName := ⟨RX5, "pass", "(I)I"⟩
abbrev cX5_append : ByteArray := prog_1_method_10_code
def yX5_append : MethodName := ⟨RX5, "append", "(I)I"⟩
abbrev cX5_clearBuffer : ByteArray := prog_1_method_11_code
def yX5_clearBuffer : MethodName := ⟨RX5, "clearBuffer", "()I"⟩
abbrev cX5_firstError : ByteArray := prog_1_method_12_code
def yX5_firstError : MethodName := ⟨RX5, "firstError", "()I"⟩
abbrev cX5_takeAll : ByteArray := prog_1_method_13_code
def yX5_takeAll : MethodName := ⟨RX5, "takeAll", "()I"⟩
abbrev cX5_undo : ByteArray := prog_1_method_14_code
def yX5_undo : MethodName := ⟨RX5, "undo", "()I"⟩
abbrev cX5_weaver : ByteArray := prog_1_method_15_code
def yX5_weaver : MethodName := ⟨RX5, "weaver", "(II)I"⟩
abbrev cX5_share : ByteArray := prog_1_method_16_code
def yX5_share : MethodName := ⟨RX5, "share", "(II)I"⟩
abbrev cX5_orderOf : ByteArray := prog_1_method_17_code
def yX5_orderOf : MethodName := ⟨RX5, "orderOf", "(II)I"⟩
abbrev cX5_wovenBy : ByteArray := prog_1_method_18_code
def yX5_wovenBy : MethodName := ⟨RX5, "wovenBy", "(II)I"⟩
abbrev cX5_next : ByteArray := prog_1_method_19_code
def yX5_next : MethodName := ⟨RX5, "next", "(II)I"⟩
abbrev cX5_count : ByteArray := prog_1_method_20_code
def yX5_count : MethodName := ⟨RX5, "count", "(I)I"⟩
abbrev cX5_setting : ByteArray := prog_1_method_21_code
def yX5_setting : MethodName := ⟨RX5, "setting", "(I)I"⟩
abbrev cX5_ifPassed : ByteArray := prog_1_method_22_code
def yX5_ifPassed : MethodName := ⟨RX5, "ifPassed", "(II)I"⟩
abbrev cX5_doneIn : ByteArray := prog_1_method_23_code
def yX5_doneIn : MethodName := ⟨RX5, "doneIn", "(I)I"⟩
abbrev cX5_bestRule : ByteArray := prog_1_method_24_code
def yX5_bestRule : MethodName := ⟨RX5, "bestRule", "(I)I"⟩
abbrev cX5_dueNow : ByteArray := prog_1_method_25_code
def yX5_dueNow : MethodName := ⟨RX5, "dueNow", "(II)I"⟩
abbrev cX5_evenness : ByteArray := prog_1_method_26_code
def yX5_evenness : MethodName := ⟨RX5, "evenness", "()D"⟩
abbrev cX5_digest : ByteArray := prog_1_method_27_code
def yX5_digest : MethodName := ⟨RX5, "digest", "()J"⟩
abbrev cX5_isWithin : ByteArray := prog_1_method_28_code
def yX5_isWithin : MethodName := ⟨RX5, "isWithin", "(III)Z"⟩
abbrev cX5_isLoom : ByteArray := prog_1_method_29_code
def yX5_isLoom : MethodName := ⟨RX5, "isLoom", "(III)Z"⟩
abbrev cX5_saveState : ByteArray := prog_1_method_30_code
def yX5_saveState : MethodName := ⟨RX5, "saveState", "()V"⟩
abbrev cX5_dropOldest : ByteArray := prog_1_method_31_code
def yX5_dropOldest : MethodName := ⟨RX5, "dropOldest", "()V"⟩
abbrev cX5_readBuffer : ByteArray := prog_1_method_32_code
def yX5_readBuffer : MethodName := ⟨RX5, "readBuffer", "()I"⟩
abbrev cX5_takeParts : ByteArray := prog_1_method_33_code
def yX5_takeParts : MethodName := ⟨RX5, "takeParts", "()V"⟩
abbrev cX5_takePart : ByteArray := prog_1_method_34_code
def yX5_takePart : MethodName := ⟨RX5, "takePart", "()V"⟩
abbrev cX5_counted : ByteArray := prog_1_method_35_code
def yX5_counted : MethodName := ⟨RX5, "counted", "(I)I"⟩
abbrev cX5_foreseen : ByteArray := prog_1_method_36_code
def yX5_foreseen : MethodName := ⟨RX5, "foreseen", "(II)I"⟩
abbrev cX5_foreseeEnds : ByteArray := prog_1_method_37_code
def yX5_foreseeEnds : MethodName := ⟨RX5, "foreseeEnds", "()V"⟩
abbrev cX5_noteEnds : ByteArray := prog_1_method_38_code
def yX5_noteEnds : MethodName := ⟨RX5, "noteEnds", "(I)V"⟩
abbrev cX5_bestRuleFor : ByteArray := prog_1_method_39_code
def yX5_bestRuleFor : MethodName := ⟨RX5, "bestRuleFor", "(I)I"⟩
abbrev cX5_mixed : ByteArray := prog_1_method_40_code
def yX5_mixed : MethodName := ⟨RX5, "mixed", "(JJ)J"⟩
abbrev cX5_hashCounts : ByteArray := prog_1_method_41_code
def yX5_hashCounts : MethodName := ⟨RX5, "hashCounts", "(J)J"⟩
abbrev cX5_hashWeavers : ByteArray := prog_1_method_42_code
def yX5_hashWeavers : MethodName := ⟨RX5, "hashWeavers", "(J)J"⟩
abbrev cX5_hashOrders : ByteArray := prog_1_method_43_code
def yX5_hashOrders : MethodName := ⟨RX5, "hashOrders", "(J)J"⟩
abbrev cX5_bitsOf : ByteArray := prog_1_method_44_code
def yX5_bitsOf : MethodName := ⟨RX5, "bitsOf", "(D)J"⟩
def RX6 : String := "WeaveSharesModel"
def TX6 : u_T := fun k => match k with
  | 0 => ("WeaveSharesModel", "now", "[I", true)
  | 1 => ("WeaveSharesModel", "then", "[I", true)
  | 2 => ("WeaveSharesModel", "past", "[I", true)
  | 3 => ("WeaveSharesModel", "kept", "I", false)
  | 4 => ("WeaveSharesModel", "text", "[I", true)
  | 5 => ("WeaveSharesModel", "typed", "I", false)
  | 6 => ("WeaveSharesModel", "thrown", "I", false)
  | 7 => ("WeaveSharesModel", "at", "I", false)
  | 8 => ("WeaveSharesModel", "isFault", "Z", false)
  | 9 => ("WeaveSharesModel", "value", "I", false)
  | 10 => ("WeaveSharesModel", "told", "[I", true)
  | 11 => ("WeaveSharesModel", "tolds", "I", false)
  | _ => ("WeaveSharesModel", "dues", "[I", true)
def tyX6 : Nat → FieldType := fun k => match k with
  | 0 => .array .int
  | 1 => .array .int
  | 2 => .array .int
  | 3 => .int
  | 4 => .array .int
  | 5 => .int
  | 6 => .int
  | 7 => .int
  | 8 => .boolean
  | 9 => .int
  | 10 => .array .int
  | 11 => .int
  | _ => .array .int
abbrev wsX60 : List Cond := u_ws RX6 TX6 13
theorem nmX6 : ∀ a, a < 13 → ∀ b, b < 13 → a ≠ b → (TX6 a).2.1 ≠ (TX6 b).2.1 := by decide +kernel
theorem tyX6_ok : ∀ k, k < 13 → parseFieldDescriptor (TX6 k).2.2.1 = some (tyX6 k) := by decide +kernel
abbrev cX6_init : ByteArray := prog_8_method_1_code
def yX6_init : MethodName := ⟨RX6, "<init>", "()V"⟩
abbrev cX6_thrown : ByteArray := prog_8_method_2_code
def yX6_thrown : MethodName := ⟨RX6, "thrown", "()I"⟩
abbrev cX6_fails : ByteArray := prog_8_method_3_code
def yX6_fails : MethodName := ⟨RX6, "fails", "(I)I"⟩
abbrev cX6_in : ByteArray := prog_8_method_4_code
def yX6_in : MethodName := ⟨RX6, "in", "(III)Z"⟩
abbrev cX6_isWeaver : ByteArray := prog_8_method_5_code
def yX6_isWeaver : MethodName := ⟨RX6, "isWeaver", "(I)Z"⟩
abbrev cX6_isColour : ByteArray := prog_8_method_6_code
def yX6_isColour : MethodName := ⟨RX6, "isColour", "(I)Z"⟩
abbrev cX6_of : ByteArray := prog_8_method_7_code
def yX6_of : MethodName := ⟨RX6, "of", "([III)I"⟩
abbrev cX6_adds : ByteArray := prog_8_method_8_code
def yX6_adds : MethodName := ⟨RX6, "adds", "([IIII)V"⟩
abbrev cX6_by : ByteArray := prog_8_method_9_code
def yX6_by : MethodName := ⟨RX6, "by", "([III)I"⟩
abbrev cX6_saves : ByteArray := prog_8_method_10_code
def yX6_saves : MethodName := ⟨RX6, "saves", "()V"⟩
abbrev cX6_undo : ByteArray := prog_8_method_11_code
def yX6_undo : MethodName := ⟨RX6, "undo", "()I"⟩
abbrev cX6_tries : ByteArray := prog_8_method_12_code
def yX6_tries : MethodName := ⟨RX6, "tries", "()V"⟩
abbrev cX6_grams : ByteArray := prog_8_method_13_code
def yX6_grams : MethodName := ⟨RX6, "grams", "([II)I"⟩
abbrev cX6_good : ByteArray := prog_8_method_14_code
def yX6_good : MethodName := ⟨RX6, "good", "([II)I"⟩
abbrev cX6_placeOf : ByteArray := prog_8_method_15_code
def yX6_placeOf : MethodName := ⟨RX6, "placeOf", "([II)I"⟩
abbrev cX6_goes : ByteArray := prog_8_method_16_code
def yX6_goes : MethodName := ⟨RX6, "goes", "([II)V"⟩
abbrev cX6_worth : ByteArray := prog_8_method_17_code
def yX6_worth : MethodName := ⟨RX6, "worth", "([II)I"⟩
abbrev cX6_chosen : ByteArray := prog_8_method_18_code
def yX6_chosen : MethodName := ⟨RX6, "chosen", "([II)I"⟩
abbrev cX6_late : ByteArray := prog_8_method_19_code
def yX6_late : MethodName := ⟨RX6, "late", "([II)I"⟩
abbrev cX6_whole : ByteArray := prog_8_method_20_code
def yX6_whole : MethodName := ⟨RX6, "whole", "([III)I"⟩
abbrev cX6_shares : ByteArray := prog_8_method_21_code
def yX6_shares : MethodName := ⟨RX6, "shares", "([IIII)V"⟩
abbrev cX6_pays : ByteArray := prog_8_method_22_code
def yX6_pays : MethodName := ⟨RX6, "pays", "([II)V"⟩
abbrev cX6_isLent : ByteArray := prog_8_method_23_code
def yX6_isLent : MethodName := ⟨RX6, "isLent", "([III)Z"⟩
abbrev cX6_takes : ByteArray := prog_8_method_24_code
def yX6_takes : MethodName := ⟨RX6, "takes", "([III)Z"⟩
abbrev cX6_makes : ByteArray := prog_8_method_25_code
def yX6_makes : MethodName := ⟨RX6, "makes", "([III)V"⟩
abbrev cX6_weaves : ByteArray := prog_8_method_26_code
def yX6_weaves : MethodName := ⟨RX6, "weaves", "([II)V"⟩
abbrev cX6_hour : ByteArray := prog_8_method_27_code
def yX6_hour : MethodName := ⟨RX6, "hour", "([I)V"⟩
abbrev cX6_hours : ByteArray := prog_8_method_28_code
def yX6_hours : MethodName := ⟨RX6, "hours", "([II)V"⟩
abbrev cX6_loom : ByteArray := prog_8_method_29_code
def yX6_loom : MethodName := ⟨RX6, "loom", "(IIII)I"⟩
abbrev cX6_yarn : ByteArray := prog_8_method_30_code
def yX6_yarn : MethodName := ⟨RX6, "yarn", "(III)I"⟩
abbrev cX6_store : ByteArray := prog_8_method_31_code
def yX6_store : MethodName := ⟨RX6, "store", "(II)I"⟩
abbrev cX6_give : ByteArray := prog_8_method_32_code
def yX6_give : MethodName := ⟨RX6, "give", "(IIII)I"⟩
abbrev cX6_comes : ByteArray := prog_8_method_33_code
def yX6_comes : MethodName := ⟨RX6, "comes", "(IIIII)I"⟩
abbrev cX6_order : ByteArray := prog_8_method_34_code
def yX6_order : MethodName := ⟨RX6, "order", "(IIIII)I"⟩
abbrev cX6_cancel : ByteArray := prog_8_method_35_code
def yX6_cancel : MethodName := ⟨RX6, "cancel", "(I)I"⟩
abbrev cX6_set : ByteArray := prog_8_method_36_code
def yX6_set : MethodName := ⟨RX6, "set", "(II)I"⟩
abbrev cX6_pass : ByteArray := prog_8_method_37_code
def yX6_pass : MethodName := ⟨RX6, "pass", "(I)I"⟩
abbrev cX6_append : ByteArray := prog_8_method_38_code
def yX6_append : MethodName := ⟨RX6, "append", "(I)I"⟩
abbrev cX6_clearBuffer : ByteArray := prog_8_method_39_code
def yX6_clearBuffer : MethodName := ⟨RX6, "clearBuffer", "()I"⟩
abbrev cX6_isAt : ByteArray := prog_8_method_40_code
def yX6_isAt : MethodName := ⟨RX6, "isAt", "(II)Z"⟩
abbrev cX6_stops : ByteArray := prog_8_method_41_code
def yX6_stops : MethodName := ⟨RX6, "stops", "()Z"⟩
abbrev cX6_isSign : ByteArray := prog_8_method_42_code
def yX6_isSign : MethodName := ⟨RX6, "isSign", "(I)Z"⟩
abbrev cX6_begins : ByteArray := prog_8_method_43_code
def yX6_begins : MethodName := ⟨RX6, "begins", "(III)Z"⟩
abbrev cX6_isNumber : ByteArray := prog_8_method_44_code
def yX6_isNumber : MethodName := ⟨RX6, "isNumber", "(III)Z"⟩
abbrev cX6_isPart : ByteArray := prog_8_method_45_code
def yX6_isPart : MethodName := ⟨RX6, "isPart", "()Z"⟩
abbrev cX6_isText : ByteArray := prog_8_method_46_code
def yX6_isText : MethodName := ⟨RX6, "isText", "()Z"⟩
abbrev cX6_firstError : ByteArray := prog_8_method_47_code
def yX6_firstError : MethodName := ⟨RX6, "firstError", "()I"⟩
abbrev cX6_takeAll : ByteArray := prog_8_method_48_code
def yX6_takeAll : MethodName := ⟨RX6, "takeAll", "()I"⟩
abbrev cX6_weaver : ByteArray := prog_8_method_49_code
def yX6_weaver : MethodName := ⟨RX6, "weaver", "(II)I"⟩
abbrev cX6_share : ByteArray := prog_8_method_50_code
def yX6_share : MethodName := ⟨RX6, "share", "(II)I"⟩
abbrev cX6_ofOrder : ByteArray := prog_8_method_51_code
def yX6_ofOrder : MethodName := ⟨RX6, "ofOrder", "(II)I"⟩
abbrev cX6_orderOf : ByteArray := prog_8_method_52_code
def yX6_orderOf : MethodName := ⟨RX6, "orderOf", "(II)I"⟩
abbrev cX6_wovenBy : ByteArray := prog_8_method_53_code
def yX6_wovenBy : MethodName := ⟨RX6, "wovenBy", "(II)I"⟩
abbrev cX6_ofNext : ByteArray := prog_8_method_54_code
def yX6_ofNext : MethodName := ⟨RX6, "ofNext", "(II)I"⟩
abbrev cX6_next : ByteArray := prog_8_method_55_code
def yX6_next : MethodName := ⟨RX6, "next", "(II)I"⟩
abbrev cX6_debts : ByteArray := prog_8_method_56_code
def yX6_debts : MethodName := ⟨RX6, "debts", "([I)I"⟩
abbrev cX6_looms : ByteArray := prog_8_method_57_code
def yX6_looms : MethodName := ⟨RX6, "looms", "()I"⟩
abbrev cX6_counted : ByteArray := prog_8_method_58_code
def yX6_counted : MethodName := ⟨RX6, "counted", "(I)I"⟩
abbrev cX6_count : ByteArray := prog_8_method_59_code
def yX6_count : MethodName := ⟨RX6, "count", "(I)I"⟩
abbrev cX6_setting : ByteArray := prog_8_method_60_code
def yX6_setting : MethodName := ⟨RX6, "setting", "(I)I"⟩
abbrev cX6_byHours : ByteArray := prog_8_method_61_code
def yX6_byHours : MethodName := ⟨RX6, "byHours", "(II)I"⟩
abbrev cX6_ifPassed : ByteArray := prog_8_method_62_code
def yX6_ifPassed : MethodName := ⟨RX6, "ifPassed", "(II)I"⟩
abbrev cX6_behind : ByteArray := prog_8_method_63_code
def yX6_behind : MethodName := ⟨RX6, "behind", "(I)I"⟩
abbrev cX6_doneIn : ByteArray := prog_8_method_64_code
def yX6_doneIn : MethodName := ⟨RX6, "doneIn", "(I)I"⟩
abbrev cX6_best : ByteArray := prog_8_method_65_code
def yX6_best : MethodName := ⟨RX6, "best", "(I)I"⟩
abbrev cX6_bestRule : ByteArray := prog_8_method_66_code
def yX6_bestRule : MethodName := ⟨RX6, "bestRule", "(I)I"⟩
abbrev cX6_due : ByteArray := prog_8_method_67_code
def yX6_due : MethodName := ⟨RX6, "due", "(II)I"⟩
abbrev cX6_dueNow : ByteArray := prog_8_method_68_code
def yX6_dueNow : MethodName := ⟨RX6, "dueNow", "(II)I"⟩
abbrev cX6_even : ByteArray := prog_8_method_69_code
def yX6_even : MethodName := ⟨RX6, "even", "()D"⟩
abbrev cX6_evenness : ByteArray := prog_8_method_70_code
def yX6_evenness : MethodName := ⟨RX6, "evenness", "()D"⟩
abbrev cX6_digest : ByteArray := prog_8_method_71_code
def yX6_digest : MethodName := ⟨RX6, "digest", "()J"⟩
def RJxe99ae : String := "java/lang/Double"
def TJxe99ae : u_T := fun k => match k with
  | _ => ("", "", "", false)
def tyJxe99ae : Nat → FieldType := fun k => match k with
  | _ => .int
theorem nmJxe99ae : ∀ a, a < 0 → ∀ b, b < 0 → a ≠ b → (TJxe99ae a).2.1 ≠ (TJxe99ae b).2.1 := by decide +kernel
theorem tyJxe99ae_ok : ∀ k, k < 0 → parseFieldDescriptor (TJxe99ae k).2.2.1 = some (tyJxe99ae k) := by decide +kernel
abbrev cJxe99ae_isNaN_b9ae7 : ByteArray := prog_9_method_6_code
def yJxe99ae_isNaN_b9ae7 : MethodName := ⟨RJxe99ae, "isNaN", "(D)Z"⟩
abbrev cJxe99ae_doubleToLongBits_ccdee : ByteArray := prog_9_method_23_code
def yJxe99ae_doubleToLongBits_ccdee : MethodName := ⟨RJxe99ae, "doubleToLongBits", "(D)J"⟩
def RJ9 : String := "java/lang/Math"
def TJ9 : u_T := fun k => match k with
  | _ => ("", "", "", false)
def tyJ9 : Nat → FieldType := fun k => match k with
  | _ => .int
theorem nmJ9 : ∀ a, a < 0 → ∀ b, b < 0 → a ≠ b → (TJ9 a).2.1 ≠ (TJ9 b).2.1 := by decide +kernel
theorem tyJ9_ok : ∀ k, k < 0 → parseFieldDescriptor (TJ9 k).2.2.1 = some (tyJ9 k) := by decide +kernel
abbrev cJ9_max_7cf53 : ByteArray := prog_14_method_65_code
def yJ9_max_7cf53 : MethodName := ⟨RJ9, "max", "(II)I"⟩
abbrev cJ9_min_7cf53 : ByteArray := prog_14_method_69_code
def yJ9_min_7cf53 : MethodName := ⟨RJ9, "min", "(II)I"⟩
def RJ0 : String := "java/lang/String"
def TJ0 : u_T := fun k => match k with
  | _ => ("", "", "", false)
def tyJ0 : Nat → FieldType := fun k => match k with
  | _ => .int
theorem nmJ0 : ∀ a, a < 0 → ∀ b, b < 0 → a ≠ b → (TJ0 a).2.1 ≠ (TJ0 b).2.1 := by decide +kernel
theorem tyJ0_ok : ∀ k, k < 0 → parseFieldDescriptor (TJ0 k).2.2.1 = some (tyJ0 k) := by decide +kernel
def RL : String := "WeaveSharesLaw"
abbrev cL_loom : ByteArray := method_3_code
def yL_loom : MethodName := ⟨RL, "loom", "(LWeaveShares;IIII[J)I"⟩
abbrev cL_yarn : ByteArray := method_4_code
def yL_yarn : MethodName := ⟨RL, "yarn", "(LWeaveShares;III[J)I"⟩
abbrev cL_store : ByteArray := method_5_code
def yL_store : MethodName := ⟨RL, "store", "(LWeaveShares;II[J)I"⟩
abbrev cL_give : ByteArray := method_6_code
def yL_give : MethodName := ⟨RL, "give", "(LWeaveShares;IIII[J)I"⟩
abbrev cL_order : ByteArray := method_7_code
def yL_order : MethodName := ⟨RL, "order", "(LWeaveShares;IIIII[J)I"⟩
abbrev cL_cancel : ByteArray := method_8_code
def yL_cancel : MethodName := ⟨RL, "cancel", "(LWeaveShares;I[J)I"⟩
abbrev cL_set : ByteArray := method_9_code
def yL_set : MethodName := ⟨RL, "set", "(LWeaveShares;II[J)I"⟩
abbrev cL_pass : ByteArray := method_10_code
def yL_pass : MethodName := ⟨RL, "pass", "(LWeaveShares;I[J)I"⟩
abbrev cL_append : ByteArray := method_11_code
def yL_append : MethodName := ⟨RL, "append", "(LWeaveShares;I[J)I"⟩
abbrev cL_takeAll : ByteArray := method_12_code
def yL_takeAll : MethodName := ⟨RL, "takeAll", "(LWeaveShares;[J)I"⟩
abbrev cL_undo : ByteArray := method_13_code
def yL_undo : MethodName := ⟨RL, "undo", "(LWeaveShares;[J)I"⟩
abbrev cL_weaver : ByteArray := method_14_code
def yL_weaver : MethodName := ⟨RL, "weaver", "(LWeaveShares;II[J)I"⟩
abbrev cL_share : ByteArray := method_15_code
def yL_share : MethodName := ⟨RL, "share", "(LWeaveShares;II[J)I"⟩
abbrev cL_orderOf : ByteArray := method_16_code
def yL_orderOf : MethodName := ⟨RL, "orderOf", "(LWeaveShares;II[J)I"⟩
abbrev cL_wovenBy : ByteArray := method_17_code
def yL_wovenBy : MethodName := ⟨RL, "wovenBy", "(LWeaveShares;II[J)I"⟩
abbrev cL_next : ByteArray := method_18_code
def yL_next : MethodName := ⟨RL, "next", "(LWeaveShares;II[J)I"⟩
abbrev cL_count : ByteArray := method_19_code
def yL_count : MethodName := ⟨RL, "count", "(LWeaveShares;I[J)I"⟩
abbrev cL_setting : ByteArray := method_20_code
def yL_setting : MethodName := ⟨RL, "setting", "(LWeaveShares;I[J)I"⟩
abbrev cL_ifPassed : ByteArray := method_21_code
def yL_ifPassed : MethodName := ⟨RL, "ifPassed", "(LWeaveShares;II[J)I"⟩
abbrev cL_doneIn : ByteArray := method_22_code
def yL_doneIn : MethodName := ⟨RL, "doneIn", "(LWeaveShares;I[J)I"⟩
abbrev cL_bestRule : ByteArray := method_23_code
def yL_bestRule : MethodName := ⟨RL, "bestRule", "(LWeaveShares;I[J)I"⟩
abbrev cL_dueNow : ByteArray := method_24_code
def yL_dueNow : MethodName := ⟨RL, "dueNow", "(LWeaveShares;II[J)I"⟩
abbrev cL_law : ByteArray := code
def yL_law : MethodName := ⟨RL, "law", "([I)Z"⟩
abbrev vwCl : List vw_C := [(RX0, TX0, 13), (RX1, TX1, 8), (RX2, TX2, 4), (RX3, TX3, 9), (RX4, TX4, 1), (RX5, TX5, 8), (RX6, TX6, 13)]
end
section
theorem dX0_init_0 : decode cX0_init 0 = .ok (.aload_n 0, 1) := by decide +kernel
theorem dX0_init_1 : decode cX0_init 1 = .ok (.invokespecial 3, 3) := by decide +kernel
theorem dX0_init_4 : decode cX0_init 4 = .ok (.aload_n 0, 1) := by decide +kernel
theorem dX0_init_5 : decode cX0_init 5 = .ok (.bipush 6, 2) := by decide +kernel
theorem dX0_init_7 : decode cX0_init 7 = .ok (.anewarray 9, 3) := by decide +kernel
theorem dX0_init_10 : decode cX0_init 10 = .ok (.putfield 11, 3) := by decide +kernel
theorem dX0_init_13 : decode cX0_init 13 = .ok (.aload_n 0, 1) := by decide +kernel
theorem dX0_init_14 : decode cX0_init 14 = .ok (.bipush 10, 2) := by decide +kernel
theorem dX0_init_16 : decode cX0_init 16 = .ok (.anewarray 17, 3) := by decide +kernel
theorem dX0_init_19 : decode cX0_init 19 = .ok (.putfield 19, 3) := by decide +kernel
theorem dX0_init_22 : decode cX0_init 22 = .ok (.aload_n 0, 1) := by decide +kernel
theorem dX0_init_23 : decode cX0_init 23 = .ok (.new 23, 3) := by decide +kernel
theorem dX0_init_26 : decode cX0_init 26 = .ok (.dup, 1) := by decide +kernel
theorem dX0_init_27 : decode cX0_init 27 = .ok (.invokespecial 25, 3) := by decide +kernel
theorem dX0_init_30 : decode cX0_init 30 = .ok (.putfield 26, 3) := by decide +kernel
theorem dX0_init_33 : decode cX0_init 33 = .ok (.aload_n 0, 1) := by decide +kernel
theorem dX0_init_34 : decode cX0_init 34 = .ok (.iconst 4, 1) := by decide +kernel
theorem dX0_init_35 : decode cX0_init 35 = .ok (.newarray .int, 2) := by decide +kernel
theorem dX0_init_37 : decode cX0_init 37 = .ok (.dup, 1) := by decide +kernel
theorem dX0_init_38 : decode cX0_init 38 = .ok (.iconst 0, 1) := by decide +kernel
theorem dX0_init_39 : decode cX0_init 39 = .ok (.iconst 0, 1) := by decide +kernel
theorem dX0_init_40 : decode cX0_init 40 = .ok (.iastore, 1) := by decide +kernel
theorem dX0_init_41 : decode cX0_init 41 = .ok (.dup, 1) := by decide +kernel
theorem dX0_init_42 : decode cX0_init 42 = .ok (.iconst 1, 1) := by decide +kernel
theorem dX0_init_43 : decode cX0_init 43 = .ok (.iconst 1, 1) := by decide +kernel
theorem dX0_init_44 : decode cX0_init 44 = .ok (.iastore, 1) := by decide +kernel
theorem dX0_init_45 : decode cX0_init 45 = .ok (.dup, 1) := by decide +kernel
theorem dX0_init_46 : decode cX0_init 46 = .ok (.iconst 2, 1) := by decide +kernel
theorem dX0_init_47 : decode cX0_init 47 = .ok (.iconst 5, 1) := by decide +kernel
theorem dX0_init_48 : decode cX0_init 48 = .ok (.iastore, 1) := by decide +kernel
theorem dX0_init_49 : decode cX0_init 49 = .ok (.dup, 1) := by decide +kernel
theorem dX0_init_50 : decode cX0_init 50 = .ok (.iconst 3, 1) := by decide +kernel
theorem dX0_init_51 : decode cX0_init 51 = .ok (.iconst 1, 1) := by decide +kernel
theorem dX0_init_52 : decode cX0_init 52 = .ok (.iastore, 1) := by decide +kernel
theorem dX0_init_53 : decode cX0_init 53 = .ok (.putfield 30, 3) := by decide +kernel
theorem dX0_init_56 : decode cX0_init 56 = .ok (.aload_n 0, 1) := by decide +kernel
theorem dX0_init_57 : decode cX0_init 57 = .ok (.bipush 6, 2) := by decide +kernel
theorem dX0_init_59 : decode cX0_init 59 = .ok (.newarray .int, 2) := by decide +kernel
theorem dX0_init_61 : decode cX0_init 61 = .ok (.putfield 34, 3) := by decide +kernel
theorem dX0_init_64 : decode cX0_init 64 = .ok (.iconst 0, 1) := by decide +kernel
theorem dX0_init_65 : decode cX0_init 65 = .ok (.istore_n 1, 1) := by decide +kernel
theorem dX0_init_66 : decode cX0_init 66 = .ok (.iload_n 1, 1) := by decide +kernel
theorem dX0_init_67 : decode cX0_init 67 = .ok (.aload_n 0, 1) := by decide +kernel
theorem dX0_init_68 : decode cX0_init 68 = .ok (.getfield 11, 3) := by decide +kernel
theorem dX0_init_71 : decode cX0_init 71 = .ok (.arraylength, 1) := by decide +kernel
theorem dX0_init_72 : decode cX0_init 72 = .ok (.if_icmp .ge 22, 3) := by decide +kernel
theorem dX0_init_75 : decode cX0_init 75 = .ok (.aload_n 0, 1) := by decide +kernel
theorem dX0_init_76 : decode cX0_init 76 = .ok (.getfield 11, 3) := by decide +kernel
theorem dX0_init_79 : decode cX0_init 79 = .ok (.iload_n 1, 1) := by decide +kernel
theorem dX0_init_80 : decode cX0_init 80 = .ok (.new 9, 3) := by decide +kernel
theorem dX0_init_83 : decode cX0_init 83 = .ok (.dup, 1) := by decide +kernel
theorem dX0_init_84 : decode cX0_init 84 = .ok (.invokespecial 37, 3) := by decide +kernel
theorem dX0_init_87 : decode cX0_init 87 = .ok (.aastore, 1) := by decide +kernel
theorem dX0_init_88 : decode cX0_init 88 = .ok (.iinc 1 1, 3) := by decide +kernel
theorem dX0_init_91 : decode cX0_init 91 = .ok (.goto (-25), 3) := by decide +kernel
theorem dX0_init_94 : decode cX0_init 94 = .ok (.iconst 0, 1) := by decide +kernel
theorem dX0_init_95 : decode cX0_init 95 = .ok (.istore_n 1, 1) := by decide +kernel
theorem dX0_init_96 : decode cX0_init 96 = .ok (.iload_n 1, 1) := by decide +kernel
theorem dX0_init_97 : decode cX0_init 97 = .ok (.aload_n 0, 1) := by decide +kernel
theorem dX0_init_98 : decode cX0_init 98 = .ok (.getfield 19, 3) := by decide +kernel
theorem dX0_init_101 : decode cX0_init 101 = .ok (.arraylength, 1) := by decide +kernel
theorem dX0_init_102 : decode cX0_init 102 = .ok (.if_icmp .ge 22, 3) := by decide +kernel
theorem dX0_init_105 : decode cX0_init 105 = .ok (.aload_n 0, 1) := by decide +kernel
theorem dX0_init_106 : decode cX0_init 106 = .ok (.getfield 19, 3) := by decide +kernel
theorem dX0_init_109 : decode cX0_init 109 = .ok (.iload_n 1, 1) := by decide +kernel
theorem dX0_init_110 : decode cX0_init 110 = .ok (.new 17, 3) := by decide +kernel
theorem dX0_init_113 : decode cX0_init 113 = .ok (.dup, 1) := by decide +kernel
theorem dX0_init_114 : decode cX0_init 114 = .ok (.invokespecial 38, 3) := by decide +kernel
theorem dX0_init_117 : decode cX0_init 117 = .ok (.aastore, 1) := by decide +kernel
theorem dX0_init_118 : decode cX0_init 118 = .ok (.iinc 1 1, 3) := by decide +kernel
theorem dX0_init_121 : decode cX0_init 121 = .ok (.goto (-25), 3) := by decide +kernel
theorem dX0_init_124 : decode cX0_init 124 = .ok (.return_, 1) := by decide +kernel
theorem dX0_copyFrom_0 : decode cX0_copyFrom 0 = .ok (.iconst 0, 1) := by decide +kernel
theorem dX0_copyFrom_1 : decode cX0_copyFrom 1 = .ok (.istore_n 2, 1) := by decide +kernel
theorem dX0_copyFrom_2 : decode cX0_copyFrom 2 = .ok (.iload_n 2, 1) := by decide +kernel
theorem dX0_copyFrom_3 : decode cX0_copyFrom 3 = .ok (.aload_n 0, 1) := by decide +kernel
theorem dX0_copyFrom_4 : decode cX0_copyFrom 4 = .ok (.getfield 11, 3) := by decide +kernel
theorem dX0_copyFrom_7 : decode cX0_copyFrom 7 = .ok (.arraylength, 1) := by decide +kernel
theorem dX0_copyFrom_8 : decode cX0_copyFrom 8 = .ok (.if_icmp .ge 33, 3) := by decide +kernel
theorem dX0_copyFrom_11 : decode cX0_copyFrom 11 = .ok (.iload_n 2, 1) := by decide +kernel
theorem dX0_copyFrom_12 : decode cX0_copyFrom 12 = .ok (.aload_n 1, 1) := by decide +kernel
theorem dX0_copyFrom_13 : decode cX0_copyFrom 13 = .ok (.getfield 11, 3) := by decide +kernel
theorem dX0_copyFrom_16 : decode cX0_copyFrom 16 = .ok (.arraylength, 1) := by decide +kernel
theorem dX0_copyFrom_17 : decode cX0_copyFrom 17 = .ok (.if_icmp .ge 24, 3) := by decide +kernel
theorem dX0_copyFrom_20 : decode cX0_copyFrom 20 = .ok (.aload_n 0, 1) := by decide +kernel
theorem dX0_copyFrom_21 : decode cX0_copyFrom 21 = .ok (.getfield 11, 3) := by decide +kernel
theorem dX0_copyFrom_24 : decode cX0_copyFrom 24 = .ok (.iload_n 2, 1) := by decide +kernel
theorem dX0_copyFrom_25 : decode cX0_copyFrom 25 = .ok (.aaload, 1) := by decide +kernel
theorem dX0_copyFrom_26 : decode cX0_copyFrom 26 = .ok (.aload_n 1, 1) := by decide +kernel
theorem dX0_copyFrom_27 : decode cX0_copyFrom 27 = .ok (.getfield 11, 3) := by decide +kernel
theorem dX0_copyFrom_30 : decode cX0_copyFrom 30 = .ok (.iload_n 2, 1) := by decide +kernel
theorem dX0_copyFrom_31 : decode cX0_copyFrom 31 = .ok (.aaload, 1) := by decide +kernel
theorem dX0_copyFrom_32 : decode cX0_copyFrom 32 = .ok (.invokevirtual 39, 3) := by decide +kernel
theorem dX0_copyFrom_35 : decode cX0_copyFrom 35 = .ok (.iinc 2 1, 3) := by decide +kernel
theorem dX0_copyFrom_38 : decode cX0_copyFrom 38 = .ok (.goto (-36), 3) := by decide +kernel
theorem dX0_copyFrom_41 : decode cX0_copyFrom 41 = .ok (.iconst 0, 1) := by decide +kernel
theorem dX0_copyFrom_42 : decode cX0_copyFrom 42 = .ok (.istore_n 2, 1) := by decide +kernel
theorem dX0_copyFrom_43 : decode cX0_copyFrom 43 = .ok (.iload_n 2, 1) := by decide +kernel
theorem dX0_copyFrom_44 : decode cX0_copyFrom 44 = .ok (.aload_n 0, 1) := by decide +kernel
theorem dX0_copyFrom_45 : decode cX0_copyFrom 45 = .ok (.getfield 19, 3) := by decide +kernel
theorem dX0_copyFrom_48 : decode cX0_copyFrom 48 = .ok (.arraylength, 1) := by decide +kernel
theorem dX0_copyFrom_49 : decode cX0_copyFrom 49 = .ok (.if_icmp .ge 33, 3) := by decide +kernel
theorem dX0_copyFrom_52 : decode cX0_copyFrom 52 = .ok (.iload_n 2, 1) := by decide +kernel
theorem dX0_copyFrom_53 : decode cX0_copyFrom 53 = .ok (.aload_n 1, 1) := by decide +kernel
theorem dX0_copyFrom_54 : decode cX0_copyFrom 54 = .ok (.getfield 19, 3) := by decide +kernel
theorem dX0_copyFrom_57 : decode cX0_copyFrom 57 = .ok (.arraylength, 1) := by decide +kernel
theorem dX0_copyFrom_58 : decode cX0_copyFrom 58 = .ok (.if_icmp .ge 24, 3) := by decide +kernel
theorem dX0_copyFrom_61 : decode cX0_copyFrom 61 = .ok (.aload_n 0, 1) := by decide +kernel
theorem dX0_copyFrom_62 : decode cX0_copyFrom 62 = .ok (.getfield 19, 3) := by decide +kernel
theorem dX0_copyFrom_65 : decode cX0_copyFrom 65 = .ok (.iload_n 2, 1) := by decide +kernel
theorem dX0_copyFrom_66 : decode cX0_copyFrom 66 = .ok (.aaload, 1) := by decide +kernel
theorem dX0_copyFrom_67 : decode cX0_copyFrom 67 = .ok (.aload_n 1, 1) := by decide +kernel
theorem dX0_copyFrom_68 : decode cX0_copyFrom 68 = .ok (.getfield 19, 3) := by decide +kernel
theorem dX0_copyFrom_71 : decode cX0_copyFrom 71 = .ok (.iload_n 2, 1) := by decide +kernel
theorem dX0_copyFrom_72 : decode cX0_copyFrom 72 = .ok (.aaload, 1) := by decide +kernel
theorem dX0_copyFrom_73 : decode cX0_copyFrom 73 = .ok (.invokevirtual 43, 3) := by decide +kernel
theorem dX0_copyFrom_76 : decode cX0_copyFrom 76 = .ok (.iinc 2 1, 3) := by decide +kernel
theorem dX0_copyFrom_79 : decode cX0_copyFrom 79 = .ok (.goto (-36), 3) := by decide +kernel
theorem dX0_copyFrom_82 : decode cX0_copyFrom 82 = .ok (.aload_n 0, 1) := by decide +kernel
theorem dX0_copyFrom_83 : decode cX0_copyFrom 83 = .ok (.getfield 26, 3) := by decide +kernel
theorem dX0_copyFrom_86 : decode cX0_copyFrom 86 = .ok (.aload_n 1, 1) := by decide +kernel
theorem dX0_copyFrom_87 : decode cX0_copyFrom 87 = .ok (.getfield 26, 3) := by decide +kernel
theorem dX0_copyFrom_90 : decode cX0_copyFrom 90 = .ok (.invokevirtual 46, 3) := by decide +kernel
theorem dX0_copyFrom_93 : decode cX0_copyFrom 93 = .ok (.iconst 0, 1) := by decide +kernel
theorem dX0_copyFrom_94 : decode cX0_copyFrom 94 = .ok (.istore_n 2, 1) := by decide +kernel
theorem dX0_copyFrom_95 : decode cX0_copyFrom 95 = .ok (.iload_n 2, 1) := by decide +kernel
theorem dX0_copyFrom_96 : decode cX0_copyFrom 96 = .ok (.aload_n 0, 1) := by decide +kernel
theorem dX0_copyFrom_97 : decode cX0_copyFrom 97 = .ok (.getfield 30, 3) := by decide +kernel
theorem dX0_copyFrom_100 : decode cX0_copyFrom 100 = .ok (.arraylength, 1) := by decide +kernel
theorem dX0_copyFrom_101 : decode cX0_copyFrom 101 = .ok (.if_icmp .ge 30, 3) := by decide +kernel
theorem dX0_copyFrom_104 : decode cX0_copyFrom 104 = .ok (.iload_n 2, 1) := by decide +kernel
theorem dX0_copyFrom_105 : decode cX0_copyFrom 105 = .ok (.aload_n 1, 1) := by decide +kernel
theorem dX0_copyFrom_106 : decode cX0_copyFrom 106 = .ok (.getfield 30, 3) := by decide +kernel
theorem dX0_copyFrom_109 : decode cX0_copyFrom 109 = .ok (.arraylength, 1) := by decide +kernel
theorem dX0_copyFrom_110 : decode cX0_copyFrom 110 = .ok (.if_icmp .ge 21, 3) := by decide +kernel
theorem dX0_copyFrom_113 : decode cX0_copyFrom 113 = .ok (.aload_n 0, 1) := by decide +kernel
theorem dX0_copyFrom_114 : decode cX0_copyFrom 114 = .ok (.getfield 30, 3) := by decide +kernel
theorem dX0_copyFrom_117 : decode cX0_copyFrom 117 = .ok (.iload_n 2, 1) := by decide +kernel
theorem dX0_copyFrom_118 : decode cX0_copyFrom 118 = .ok (.aload_n 1, 1) := by decide +kernel
theorem dX0_copyFrom_119 : decode cX0_copyFrom 119 = .ok (.getfield 30, 3) := by decide +kernel
theorem dX0_copyFrom_122 : decode cX0_copyFrom 122 = .ok (.iload_n 2, 1) := by decide +kernel
theorem dX0_copyFrom_123 : decode cX0_copyFrom 123 = .ok (.iaload, 1) := by decide +kernel
theorem dX0_copyFrom_124 : decode cX0_copyFrom 124 = .ok (.iastore, 1) := by decide +kernel
theorem dX0_copyFrom_125 : decode cX0_copyFrom 125 = .ok (.iinc 2 1, 3) := by decide +kernel
theorem dX0_copyFrom_128 : decode cX0_copyFrom 128 = .ok (.goto (-33), 3) := by decide +kernel
theorem dX0_copyFrom_131 : decode cX0_copyFrom 131 = .ok (.aload_n 0, 1) := by decide +kernel
theorem dX0_copyFrom_132 : decode cX0_copyFrom 132 = .ok (.aload_n 1, 1) := by decide +kernel
theorem dX0_copyFrom_133 : decode cX0_copyFrom 133 = .ok (.getfield 49, 3) := by decide +kernel
theorem dX0_copyFrom_136 : decode cX0_copyFrom 136 = .ok (.putfield 49, 3) := by decide +kernel
theorem dX0_copyFrom_139 : decode cX0_copyFrom 139 = .ok (.aload_n 0, 1) := by decide +kernel
theorem dX0_copyFrom_140 : decode cX0_copyFrom 140 = .ok (.aload_n 1, 1) := by decide +kernel
theorem dX0_copyFrom_141 : decode cX0_copyFrom 141 = .ok (.getfield 53, 3) := by decide +kernel
theorem dX0_copyFrom_144 : decode cX0_copyFrom 144 = .ok (.putfield 53, 3) := by decide +kernel
theorem dX0_copyFrom_147 : decode cX0_copyFrom 147 = .ok (.aload_n 0, 1) := by decide +kernel
theorem dX0_copyFrom_148 : decode cX0_copyFrom 148 = .ok (.aload_n 1, 1) := by decide +kernel
theorem dX0_copyFrom_149 : decode cX0_copyFrom 149 = .ok (.getfield 56, 3) := by decide +kernel
theorem dX0_copyFrom_152 : decode cX0_copyFrom 152 = .ok (.putfield 56, 3) := by decide +kernel
theorem dX0_copyFrom_155 : decode cX0_copyFrom 155 = .ok (.aload_n 0, 1) := by decide +kernel
theorem dX0_copyFrom_156 : decode cX0_copyFrom 156 = .ok (.aload_n 1, 1) := by decide +kernel
theorem dX0_copyFrom_157 : decode cX0_copyFrom 157 = .ok (.getfield 59, 3) := by decide +kernel
theorem dX0_copyFrom_160 : decode cX0_copyFrom 160 = .ok (.putfield 59, 3) := by decide +kernel
theorem dX0_copyFrom_163 : decode cX0_copyFrom 163 = .ok (.aload_n 0, 1) := by decide +kernel
theorem dX0_copyFrom_164 : decode cX0_copyFrom 164 = .ok (.aload_n 1, 1) := by decide +kernel
theorem dX0_copyFrom_165 : decode cX0_copyFrom 165 = .ok (.getfield 62, 3) := by decide +kernel
theorem dX0_copyFrom_168 : decode cX0_copyFrom 168 = .ok (.putfield 62, 3) := by decide +kernel
theorem dX0_copyFrom_171 : decode cX0_copyFrom 171 = .ok (.aload_n 0, 1) := by decide +kernel
theorem dX0_copyFrom_172 : decode cX0_copyFrom 172 = .ok (.aload_n 1, 1) := by decide +kernel
theorem dX0_copyFrom_173 : decode cX0_copyFrom 173 = .ok (.getfield 65, 3) := by decide +kernel
theorem dX0_copyFrom_176 : decode cX0_copyFrom 176 = .ok (.putfield 65, 3) := by decide +kernel
theorem dX0_copyFrom_179 : decode cX0_copyFrom 179 = .ok (.aload_n 0, 1) := by decide +kernel
theorem dX0_copyFrom_180 : decode cX0_copyFrom 180 = .ok (.aload_n 1, 1) := by decide +kernel
theorem dX0_copyFrom_181 : decode cX0_copyFrom 181 = .ok (.getfield 68, 3) := by decide +kernel
theorem dX0_copyFrom_184 : decode cX0_copyFrom 184 = .ok (.putfield 68, 3) := by decide +kernel
theorem dX0_copyFrom_187 : decode cX0_copyFrom 187 = .ok (.aload_n 0, 1) := by decide +kernel
theorem dX0_copyFrom_188 : decode cX0_copyFrom 188 = .ok (.aload_n 1, 1) := by decide +kernel
theorem dX0_copyFrom_189 : decode cX0_copyFrom 189 = .ok (.getfield 71, 3) := by decide +kernel
theorem dX0_copyFrom_192 : decode cX0_copyFrom 192 = .ok (.putfield 71, 3) := by decide +kernel
theorem dX0_copyFrom_195 : decode cX0_copyFrom 195 = .ok (.return_, 1) := by decide +kernel
theorem dX0_orderAt_0 : decode cX0_orderAt 0 = .ok (.iload_n 1, 1) := by decide +kernel
theorem dX0_orderAt_1 : decode cX0_orderAt 1 = .ok (.ifCond .lt 24, 3) := by decide +kernel
theorem dX0_orderAt_4 : decode cX0_orderAt 4 = .ok (.iload_n 1, 1) := by decide +kernel
theorem dX0_orderAt_5 : decode cX0_orderAt 5 = .ok (.aload_n 0, 1) := by decide +kernel
theorem dX0_orderAt_6 : decode cX0_orderAt 6 = .ok (.getfield 49, 3) := by decide +kernel
theorem dX0_orderAt_9 : decode cX0_orderAt 9 = .ok (.if_icmp .ge 16, 3) := by decide +kernel
theorem dX0_orderAt_12 : decode cX0_orderAt 12 = .ok (.iload_n 1, 1) := by decide +kernel
theorem dX0_orderAt_13 : decode cX0_orderAt 13 = .ok (.aload_n 0, 1) := by decide +kernel
theorem dX0_orderAt_14 : decode cX0_orderAt 14 = .ok (.getfield 19, 3) := by decide +kernel
theorem dX0_orderAt_17 : decode cX0_orderAt 17 = .ok (.arraylength, 1) := by decide +kernel
theorem dX0_orderAt_18 : decode cX0_orderAt 18 = .ok (.if_icmp .ge 7, 3) := by decide +kernel
theorem dX0_orderAt_21 : decode cX0_orderAt 21 = .ok (.iconst 1, 1) := by decide +kernel
theorem dX0_orderAt_22 : decode cX0_orderAt 22 = .ok (.goto 4, 3) := by decide +kernel
theorem dX0_orderAt_25 : decode cX0_orderAt 25 = .ok (.iconst 0, 1) := by decide +kernel
theorem dX0_orderAt_26 : decode cX0_orderAt 26 = .ok (.istore_n 2, 1) := by decide +kernel
theorem dX0_orderAt_27 : decode cX0_orderAt 27 = .ok (.iload_n 2, 1) := by decide +kernel
theorem dX0_orderAt_28 : decode cX0_orderAt 28 = .ok (.ifCond .eq 12, 3) := by decide +kernel
theorem dX0_orderAt_31 : decode cX0_orderAt 31 = .ok (.aload_n 0, 1) := by decide +kernel
theorem dX0_orderAt_32 : decode cX0_orderAt 32 = .ok (.getfield 19, 3) := by decide +kernel
theorem dX0_orderAt_35 : decode cX0_orderAt 35 = .ok (.iload_n 1, 1) := by decide +kernel
theorem dX0_orderAt_36 : decode cX0_orderAt 36 = .ok (.aaload, 1) := by decide +kernel
theorem dX0_orderAt_37 : decode cX0_orderAt 37 = .ok (.goto 4, 3) := by decide +kernel
theorem dX0_orderAt_40 : decode cX0_orderAt 40 = .ok (.aconst_null, 1) := by decide +kernel
theorem dX0_orderAt_41 : decode cX0_orderAt 41 = .ok (.areturn, 1) := by decide +kernel
theorem dX0_placeOf_0 : decode cX0_placeOf 0 = .ok (.iconst 0, 1) := by decide +kernel
theorem dX0_placeOf_1 : decode cX0_placeOf 1 = .ok (.istore_n 2, 1) := by decide +kernel
theorem dX0_placeOf_2 : decode cX0_placeOf 2 = .ok (.iload_n 2, 1) := by decide +kernel
theorem dX0_placeOf_3 : decode cX0_placeOf 3 = .ok (.aload_n 0, 1) := by decide +kernel
theorem dX0_placeOf_4 : decode cX0_placeOf 4 = .ok (.getfield 49, 3) := by decide +kernel
theorem dX0_placeOf_7 : decode cX0_placeOf 7 = .ok (.if_icmp .ge 33, 3) := by decide +kernel
theorem dX0_placeOf_10 : decode cX0_placeOf 10 = .ok (.iload_n 2, 1) := by decide +kernel
theorem dX0_placeOf_11 : decode cX0_placeOf 11 = .ok (.aload_n 0, 1) := by decide +kernel
theorem dX0_placeOf_12 : decode cX0_placeOf 12 = .ok (.getfield 19, 3) := by decide +kernel
theorem dX0_placeOf_15 : decode cX0_placeOf 15 = .ok (.arraylength, 1) := by decide +kernel
theorem dX0_placeOf_16 : decode cX0_placeOf 16 = .ok (.if_icmp .ge 24, 3) := by decide +kernel
theorem dX0_placeOf_19 : decode cX0_placeOf 19 = .ok (.aload_n 0, 1) := by decide +kernel
theorem dX0_placeOf_20 : decode cX0_placeOf 20 = .ok (.getfield 19, 3) := by decide +kernel
theorem dX0_placeOf_23 : decode cX0_placeOf 23 = .ok (.iload_n 2, 1) := by decide +kernel
theorem dX0_placeOf_24 : decode cX0_placeOf 24 = .ok (.aaload, 1) := by decide +kernel
theorem dX0_placeOf_25 : decode cX0_placeOf 25 = .ok (.getfield 74, 3) := by decide +kernel
theorem dX0_placeOf_28 : decode cX0_placeOf 28 = .ok (.iload_n 1, 1) := by decide +kernel
theorem dX0_placeOf_29 : decode cX0_placeOf 29 = .ok (.if_icmp .ne 5, 3) := by decide +kernel
theorem dX0_placeOf_32 : decode cX0_placeOf 32 = .ok (.iload_n 2, 1) := by decide +kernel
theorem dX0_placeOf_33 : decode cX0_placeOf 33 = .ok (.ireturn, 1) := by decide +kernel
theorem dX0_placeOf_34 : decode cX0_placeOf 34 = .ok (.iinc 2 1, 3) := by decide +kernel
theorem dX0_placeOf_37 : decode cX0_placeOf 37 = .ok (.goto (-35), 3) := by decide +kernel
theorem dX0_placeOf_40 : decode cX0_placeOf 40 = .ok (.iconst (-1), 1) := by decide +kernel
theorem dX0_placeOf_41 : decode cX0_placeOf 41 = .ok (.ireturn, 1) := by decide +kernel
theorem dX0_find_0 : decode cX0_find 0 = .ok (.aload_n 0, 1) := by decide +kernel
theorem dX0_find_1 : decode cX0_find 1 = .ok (.aload_n 0, 1) := by decide +kernel
theorem dX0_find_2 : decode cX0_find 2 = .ok (.iload_n 1, 1) := by decide +kernel
theorem dX0_find_3 : decode cX0_find 3 = .ok (.invokevirtual 77, 3) := by decide +kernel
theorem dX0_find_6 : decode cX0_find 6 = .ok (.invokevirtual 81, 3) := by decide +kernel
theorem dX0_find_9 : decode cX0_find 9 = .ok (.areturn, 1) := by decide +kernel
theorem dX0_take_0 : decode cX0_take 0 = .ok (.aload_n 0, 1) := by decide +kernel
theorem dX0_take_1 : decode cX0_take 1 = .ok (.getfield 49, 3) := by decide +kernel
theorem dX0_take_4 : decode cX0_take 4 = .ok (.ifCond .lt 15, 3) := by decide +kernel
theorem dX0_take_7 : decode cX0_take 7 = .ok (.aload_n 0, 1) := by decide +kernel
theorem dX0_take_8 : decode cX0_take 8 = .ok (.getfield 49, 3) := by decide +kernel
theorem dX0_take_11 : decode cX0_take 11 = .ok (.aload_n 0, 1) := by decide +kernel
theorem dX0_take_12 : decode cX0_take 12 = .ok (.getfield 19, 3) := by decide +kernel
theorem dX0_take_15 : decode cX0_take 15 = .ok (.arraylength, 1) := by decide +kernel
theorem dX0_take_16 : decode cX0_take 16 = .ok (.if_icmp .lt 5, 3) := by decide +kernel
theorem dX0_take_19 : decode cX0_take 19 = .ok (.iconst (-1), 1) := by decide +kernel
theorem dX0_take_20 : decode cX0_take 20 = .ok (.ireturn, 1) := by decide +kernel
theorem dX0_take_21 : decode cX0_take 21 = .ok (.aload_n 0, 1) := by decide +kernel
theorem dX0_take_22 : decode cX0_take 22 = .ok (.getfield 19, 3) := by decide +kernel
theorem dX0_take_25 : decode cX0_take 25 = .ok (.aload_n 0, 1) := by decide +kernel
theorem dX0_take_26 : decode cX0_take 26 = .ok (.getfield 49, 3) := by decide +kernel
theorem dX0_take_29 : decode cX0_take 29 = .ok (.aaload, 1) := by decide +kernel
theorem dX0_take_30 : decode cX0_take 30 = .ok (.astore 6, 2) := by decide +kernel
theorem dX0_take_32 : decode cX0_take 32 = .ok (.aload 6, 2) := by decide +kernel
theorem dX0_take_34 : decode cX0_take 34 = .ok (.aload_n 0, 1) := by decide +kernel
theorem dX0_take_35 : decode cX0_take 35 = .ok (.getfield 53, 3) := by decide +kernel
theorem dX0_take_38 : decode cX0_take 38 = .ok (.iload_n 1, 1) := by decide +kernel
theorem dX0_take_39 : decode cX0_take 39 = .ok (.iload_n 2, 1) := by decide +kernel
theorem dX0_take_40 : decode cX0_take 40 = .ok (.iload_n 3, 1) := by decide +kernel
theorem dX0_take_41 : decode cX0_take 41 = .ok (.iload 4, 2) := by decide +kernel
theorem dX0_take_43 : decode cX0_take 43 = .ok (.iload 5, 2) := by decide +kernel
theorem dX0_take_45 : decode cX0_take 45 = .ok (.invokevirtual 85, 3) := by decide +kernel
theorem dX0_take_48 : decode cX0_take 48 = .ok (.aload_n 0, 1) := by decide +kernel
theorem dX0_take_49 : decode cX0_take 49 = .ok (.getfield 49, 3) := by decide +kernel
theorem dX0_take_52 : decode cX0_take 52 = .ok (.istore 7, 2) := by decide +kernel
theorem dX0_take_54 : decode cX0_take 54 = .ok (.iload 7, 2) := by decide +kernel
theorem dX0_take_56 : decode cX0_take 56 = .ok (.ifCond .le 53, 3) := by decide +kernel
theorem dX0_take_59 : decode cX0_take 59 = .ok (.aload_n 0, 1) := by decide +kernel
theorem dX0_take_60 : decode cX0_take 60 = .ok (.getfield 19, 3) := by decide +kernel
theorem dX0_take_63 : decode cX0_take 63 = .ok (.iload 7, 2) := by decide +kernel
theorem dX0_take_65 : decode cX0_take 65 = .ok (.iconst 1, 1) := by decide +kernel
theorem dX0_take_66 : decode cX0_take 66 = .ok (.isub, 1) := by decide +kernel
theorem dX0_take_67 : decode cX0_take 67 = .ok (.aaload, 1) := by decide +kernel
theorem dX0_take_68 : decode cX0_take 68 = .ok (.getfield 89, 3) := by decide +kernel
theorem dX0_take_71 : decode cX0_take 71 = .ok (.iload 5, 2) := by decide +kernel
theorem dX0_take_73 : decode cX0_take 73 = .ok (.if_icmp .le 36, 3) := by decide +kernel
theorem dX0_take_76 : decode cX0_take 76 = .ok (.aload_n 0, 1) := by decide +kernel
theorem dX0_take_77 : decode cX0_take 77 = .ok (.getfield 19, 3) := by decide +kernel
theorem dX0_take_80 : decode cX0_take 80 = .ok (.iload 7, 2) := by decide +kernel
theorem dX0_take_82 : decode cX0_take 82 = .ok (.aload_n 0, 1) := by decide +kernel
theorem dX0_take_83 : decode cX0_take 83 = .ok (.getfield 19, 3) := by decide +kernel
theorem dX0_take_86 : decode cX0_take 86 = .ok (.iload 7, 2) := by decide +kernel
theorem dX0_take_88 : decode cX0_take 88 = .ok (.iconst 1, 1) := by decide +kernel
theorem dX0_take_89 : decode cX0_take 89 = .ok (.isub, 1) := by decide +kernel
theorem dX0_take_90 : decode cX0_take 90 = .ok (.aaload, 1) := by decide +kernel
theorem dX0_take_91 : decode cX0_take 91 = .ok (.aastore, 1) := by decide +kernel
theorem dX0_take_92 : decode cX0_take 92 = .ok (.aload_n 0, 1) := by decide +kernel
theorem dX0_take_93 : decode cX0_take 93 = .ok (.getfield 19, 3) := by decide +kernel
theorem dX0_take_96 : decode cX0_take 96 = .ok (.iload 7, 2) := by decide +kernel
theorem dX0_take_98 : decode cX0_take 98 = .ok (.iconst 1, 1) := by decide +kernel
theorem dX0_take_99 : decode cX0_take 99 = .ok (.isub, 1) := by decide +kernel
theorem dX0_take_100 : decode cX0_take 100 = .ok (.aload 6, 2) := by decide +kernel
theorem dX0_take_102 : decode cX0_take 102 = .ok (.aastore, 1) := by decide +kernel
theorem dX0_take_103 : decode cX0_take 103 = .ok (.iinc 7 (-1), 3) := by decide +kernel
theorem dX0_take_106 : decode cX0_take 106 = .ok (.goto (-52), 3) := by decide +kernel
theorem dX0_take_109 : decode cX0_take 109 = .ok (.aload_n 0, 1) := by decide +kernel
theorem dX0_take_110 : decode cX0_take 110 = .ok (.dup, 1) := by decide +kernel
theorem dX0_take_111 : decode cX0_take 111 = .ok (.getfield 49, 3) := by decide +kernel
theorem dX0_take_114 : decode cX0_take 114 = .ok (.iconst 1, 1) := by decide +kernel
theorem dX0_take_115 : decode cX0_take 115 = .ok (.iadd, 1) := by decide +kernel
theorem dX0_take_116 : decode cX0_take 116 = .ok (.putfield 49, 3) := by decide +kernel
theorem dX0_take_119 : decode cX0_take 119 = .ok (.aload_n 0, 1) := by decide +kernel
theorem dX0_take_120 : decode cX0_take 120 = .ok (.dup, 1) := by decide +kernel
theorem dX0_take_121 : decode cX0_take 121 = .ok (.getfield 53, 3) := by decide +kernel
theorem dX0_take_124 : decode cX0_take 124 = .ok (.iconst 1, 1) := by decide +kernel
theorem dX0_take_125 : decode cX0_take 125 = .ok (.iadd, 1) := by decide +kernel
theorem dX0_take_126 : decode cX0_take 126 = .ok (.putfield 53, 3) := by decide +kernel
theorem dX0_take_129 : decode cX0_take 129 = .ok (.aload 6, 2) := by decide +kernel
theorem dX0_take_131 : decode cX0_take 131 = .ok (.getfield 74, 3) := by decide +kernel
theorem dX0_take_134 : decode cX0_take 134 = .ok (.ireturn, 1) := by decide +kernel
theorem dX0_dismiss_0 : decode cX0_dismiss 0 = .ok (.iconst 0, 1) := by decide +kernel
theorem dX0_dismiss_1 : decode cX0_dismiss 1 = .ok (.istore_n 2, 1) := by decide +kernel
theorem dX0_dismiss_2 : decode cX0_dismiss 2 = .ok (.iload_n 2, 1) := by decide +kernel
theorem dX0_dismiss_3 : decode cX0_dismiss 3 = .ok (.iconst 1, 1) := by decide +kernel
theorem dX0_dismiss_4 : decode cX0_dismiss 4 = .ok (.iadd, 1) := by decide +kernel
theorem dX0_dismiss_5 : decode cX0_dismiss 5 = .ok (.aload_n 0, 1) := by decide +kernel
theorem dX0_dismiss_6 : decode cX0_dismiss 6 = .ok (.getfield 19, 3) := by decide +kernel
theorem dX0_dismiss_9 : decode cX0_dismiss 9 = .ok (.arraylength, 1) := by decide +kernel
theorem dX0_dismiss_10 : decode cX0_dismiss 10 = .ok (.if_icmp .ge 42, 3) := by decide +kernel
theorem dX0_dismiss_13 : decode cX0_dismiss 13 = .ok (.aload_n 0, 1) := by decide +kernel
theorem dX0_dismiss_14 : decode cX0_dismiss 14 = .ok (.getfield 19, 3) := by decide +kernel
theorem dX0_dismiss_17 : decode cX0_dismiss 17 = .ok (.iload_n 2, 1) := by decide +kernel
theorem dX0_dismiss_18 : decode cX0_dismiss 18 = .ok (.aaload, 1) := by decide +kernel
theorem dX0_dismiss_19 : decode cX0_dismiss 19 = .ok (.aload_n 1, 1) := by decide +kernel
theorem dX0_dismiss_20 : decode cX0_dismiss 20 = .ok (.if_acmp .ne 26, 3) := by decide +kernel
theorem dX0_dismiss_23 : decode cX0_dismiss 23 = .ok (.aload_n 0, 1) := by decide +kernel
theorem dX0_dismiss_24 : decode cX0_dismiss 24 = .ok (.getfield 19, 3) := by decide +kernel
theorem dX0_dismiss_27 : decode cX0_dismiss 27 = .ok (.iload_n 2, 1) := by decide +kernel
theorem dX0_dismiss_28 : decode cX0_dismiss 28 = .ok (.aload_n 0, 1) := by decide +kernel
theorem dX0_dismiss_29 : decode cX0_dismiss 29 = .ok (.getfield 19, 3) := by decide +kernel
theorem dX0_dismiss_32 : decode cX0_dismiss 32 = .ok (.iload_n 2, 1) := by decide +kernel
theorem dX0_dismiss_33 : decode cX0_dismiss 33 = .ok (.iconst 1, 1) := by decide +kernel
theorem dX0_dismiss_34 : decode cX0_dismiss 34 = .ok (.iadd, 1) := by decide +kernel
theorem dX0_dismiss_35 : decode cX0_dismiss 35 = .ok (.aaload, 1) := by decide +kernel
theorem dX0_dismiss_36 : decode cX0_dismiss 36 = .ok (.aastore, 1) := by decide +kernel
theorem dX0_dismiss_37 : decode cX0_dismiss 37 = .ok (.aload_n 0, 1) := by decide +kernel
theorem dX0_dismiss_38 : decode cX0_dismiss 38 = .ok (.getfield 19, 3) := by decide +kernel
theorem dX0_dismiss_41 : decode cX0_dismiss 41 = .ok (.iload_n 2, 1) := by decide +kernel
theorem dX0_dismiss_42 : decode cX0_dismiss 42 = .ok (.iconst 1, 1) := by decide +kernel
theorem dX0_dismiss_43 : decode cX0_dismiss 43 = .ok (.iadd, 1) := by decide +kernel
theorem dX0_dismiss_44 : decode cX0_dismiss 44 = .ok (.aload_n 1, 1) := by decide +kernel
theorem dX0_dismiss_45 : decode cX0_dismiss 45 = .ok (.aastore, 1) := by decide +kernel
theorem dX0_dismiss_46 : decode cX0_dismiss 46 = .ok (.iinc 2 1, 3) := by decide +kernel
theorem dX0_dismiss_49 : decode cX0_dismiss 49 = .ok (.goto (-47), 3) := by decide +kernel
theorem dX0_dismiss_52 : decode cX0_dismiss 52 = .ok (.aload_n 0, 1) := by decide +kernel
theorem dX0_dismiss_53 : decode cX0_dismiss 53 = .ok (.dup, 1) := by decide +kernel
theorem dX0_dismiss_54 : decode cX0_dismiss 54 = .ok (.getfield 49, 3) := by decide +kernel
theorem dX0_dismiss_57 : decode cX0_dismiss 57 = .ok (.iconst 1, 1) := by decide +kernel
theorem dX0_dismiss_58 : decode cX0_dismiss 58 = .ok (.isub, 1) := by decide +kernel
theorem dX0_dismiss_59 : decode cX0_dismiss 59 = .ok (.putfield 49, 3) := by decide +kernel
theorem dX0_dismiss_62 : decode cX0_dismiss 62 = .ok (.return_, 1) := by decide +kernel
theorem dX0_merit_0 : decode cX0_merit 0 = .ok (.aload_n 0, 1) := by decide +kernel
theorem dX0_merit_1 : decode cX0_merit 1 = .ok (.getfield 30, 3) := by decide +kernel
theorem dX0_merit_4 : decode cX0_merit 4 = .ok (.iconst 0, 1) := by decide +kernel
theorem dX0_merit_5 : decode cX0_merit 5 = .ok (.iaload, 1) := by decide +kernel
theorem dX0_merit_6 : decode cX0_merit 6 = .ok (.lookupswitch 36 #[(1, 26), (2, 31)], 26) := by decide +kernel
theorem dX0_merit_32 : decode cX0_merit 32 = .ok (.aload_n 1, 1) := by decide +kernel
theorem dX0_merit_33 : decode cX0_merit 33 = .ok (.getfield 92, 3) := by decide +kernel
theorem dX0_merit_36 : decode cX0_merit 36 = .ok (.ireturn, 1) := by decide +kernel
theorem dX0_merit_37 : decode cX0_merit 37 = .ok (.aload_n 1, 1) := by decide +kernel
theorem dX0_merit_38 : decode cX0_merit 38 = .ok (.getfield 95, 3) := by decide +kernel
theorem dX0_merit_41 : decode cX0_merit 41 = .ok (.ireturn, 1) := by decide +kernel
theorem dX0_merit_42 : decode cX0_merit 42 = .ok (.iconst 0, 1) := by decide +kernel
theorem dX0_merit_43 : decode cX0_merit 43 = .ok (.ireturn, 1) := by decide +kernel
theorem dX0_choiceOf_0 : decode cX0_choiceOf 0 = .ok (.aconst_null, 1) := by decide +kernel
theorem dX0_choiceOf_1 : decode cX0_choiceOf 1 = .ok (.astore_n 2, 1) := by decide +kernel
theorem dX0_choiceOf_2 : decode cX0_choiceOf 2 = .ok (.iconst 0, 1) := by decide +kernel
theorem dX0_choiceOf_3 : decode cX0_choiceOf 3 = .ok (.istore_n 3, 1) := by decide +kernel
theorem dX0_choiceOf_4 : decode cX0_choiceOf 4 = .ok (.iload_n 3, 1) := by decide +kernel
theorem dX0_choiceOf_5 : decode cX0_choiceOf 5 = .ok (.aload_n 0, 1) := by decide +kernel
theorem dX0_choiceOf_6 : decode cX0_choiceOf 6 = .ok (.getfield 49, 3) := by decide +kernel
theorem dX0_choiceOf_9 : decode cX0_choiceOf 9 = .ok (.if_icmp .ge 59, 3) := by decide +kernel
theorem dX0_choiceOf_12 : decode cX0_choiceOf 12 = .ok (.iload_n 3, 1) := by decide +kernel
theorem dX0_choiceOf_13 : decode cX0_choiceOf 13 = .ok (.aload_n 0, 1) := by decide +kernel
theorem dX0_choiceOf_14 : decode cX0_choiceOf 14 = .ok (.getfield 19, 3) := by decide +kernel
theorem dX0_choiceOf_17 : decode cX0_choiceOf 17 = .ok (.arraylength, 1) := by decide +kernel
theorem dX0_choiceOf_18 : decode cX0_choiceOf 18 = .ok (.if_icmp .ge 50, 3) := by decide +kernel
theorem dX0_choiceOf_21 : decode cX0_choiceOf 21 = .ok (.aload_n 0, 1) := by decide +kernel
theorem dX0_choiceOf_22 : decode cX0_choiceOf 22 = .ok (.getfield 19, 3) := by decide +kernel
theorem dX0_choiceOf_25 : decode cX0_choiceOf 25 = .ok (.iload_n 3, 1) := by decide +kernel
theorem dX0_choiceOf_26 : decode cX0_choiceOf 26 = .ok (.aaload, 1) := by decide +kernel
theorem dX0_choiceOf_27 : decode cX0_choiceOf 27 = .ok (.astore 4, 2) := by decide +kernel
theorem dX0_choiceOf_29 : decode cX0_choiceOf 29 = .ok (.aload 4, 2) := by decide +kernel
theorem dX0_choiceOf_31 : decode cX0_choiceOf 31 = .ok (.getfield 92, 3) := by decide +kernel
theorem dX0_choiceOf_34 : decode cX0_choiceOf 34 = .ok (.aload_n 1, 1) := by decide +kernel
theorem dX0_choiceOf_35 : decode cX0_choiceOf 35 = .ok (.getfield 98, 3) := by decide +kernel
theorem dX0_choiceOf_38 : decode cX0_choiceOf 38 = .ok (.if_icmp .gt 24, 3) := by decide +kernel
theorem dX0_choiceOf_41 : decode cX0_choiceOf 41 = .ok (.aload_n 2, 1) := by decide +kernel
theorem dX0_choiceOf_42 : decode cX0_choiceOf 42 = .ok (.ifnull 17, 3) := by decide +kernel
theorem dX0_choiceOf_45 : decode cX0_choiceOf 45 = .ok (.aload_n 0, 1) := by decide +kernel
theorem dX0_choiceOf_46 : decode cX0_choiceOf 46 = .ok (.aload 4, 2) := by decide +kernel
theorem dX0_choiceOf_48 : decode cX0_choiceOf 48 = .ok (.invokevirtual 99, 3) := by decide +kernel
theorem dX0_choiceOf_51 : decode cX0_choiceOf 51 = .ok (.aload_n 0, 1) := by decide +kernel
theorem dX0_choiceOf_52 : decode cX0_choiceOf 52 = .ok (.aload_n 2, 1) := by decide +kernel
theorem dX0_choiceOf_53 : decode cX0_choiceOf 53 = .ok (.invokevirtual 99, 3) := by decide +kernel
theorem dX0_choiceOf_56 : decode cX0_choiceOf 56 = .ok (.if_icmp .le 6, 3) := by decide +kernel
theorem dX0_choiceOf_59 : decode cX0_choiceOf 59 = .ok (.aload 4, 2) := by decide +kernel
theorem dX0_choiceOf_61 : decode cX0_choiceOf 61 = .ok (.astore_n 2, 1) := by decide +kernel
theorem dX0_choiceOf_62 : decode cX0_choiceOf 62 = .ok (.iinc 3 1, 3) := by decide +kernel
theorem dX0_choiceOf_65 : decode cX0_choiceOf 65 = .ok (.goto (-61), 3) := by decide +kernel
theorem dX0_choiceOf_68 : decode cX0_choiceOf 68 = .ok (.aload_n 2, 1) := by decide +kernel
theorem dX0_choiceOf_69 : decode cX0_choiceOf 69 = .ok (.areturn, 1) := by decide +kernel
theorem dX0_chosenNumber_0 : decode cX0_chosenNumber 0 = .ok (.aload_n 0, 1) := by decide +kernel
theorem dX0_chosenNumber_1 : decode cX0_chosenNumber 1 = .ok (.aload_n 1, 1) := by decide +kernel
theorem dX0_chosenNumber_2 : decode cX0_chosenNumber 2 = .ok (.invokevirtual 103, 3) := by decide +kernel
theorem dX0_chosenNumber_5 : decode cX0_chosenNumber 5 = .ok (.astore_n 2, 1) := by decide +kernel
theorem dX0_chosenNumber_6 : decode cX0_chosenNumber 6 = .ok (.aload_n 2, 1) := by decide +kernel
theorem dX0_chosenNumber_7 : decode cX0_chosenNumber 7 = .ok (.ifnonnull 7, 3) := by decide +kernel
theorem dX0_chosenNumber_10 : decode cX0_chosenNumber 10 = .ok (.iconst (-1), 1) := by decide +kernel
theorem dX0_chosenNumber_11 : decode cX0_chosenNumber 11 = .ok (.goto 7, 3) := by decide +kernel
theorem dX0_chosenNumber_14 : decode cX0_chosenNumber 14 = .ok (.aload_n 2, 1) := by decide +kernel
theorem dX0_chosenNumber_15 : decode cX0_chosenNumber 15 = .ok (.getfield 74, 3) := by decide +kernel
theorem dX0_chosenNumber_18 : decode cX0_chosenNumber 18 = .ok (.ireturn, 1) := by decide +kernel
theorem dX0_hindrance_0 : decode cX0_hindrance 0 = .ok (.aload_n 1, 1) := by decide +kernel
theorem dX0_hindrance_1 : decode cX0_hindrance 1 = .ok (.invokevirtual 107, 3) := by decide +kernel
theorem dX0_hindrance_4 : decode cX0_hindrance 4 = .ok (.ifCond .ne 5, 3) := by decide +kernel
theorem dX0_hindrance_7 : decode cX0_hindrance 7 = .ok (.iconst 1, 1) := by decide +kernel
theorem dX0_hindrance_8 : decode cX0_hindrance 8 = .ok (.ireturn, 1) := by decide +kernel
theorem dX0_hindrance_9 : decode cX0_hindrance 9 = .ok (.aload_n 0, 1) := by decide +kernel
theorem dX0_hindrance_10 : decode cX0_hindrance 10 = .ok (.aload_n 1, 1) := by decide +kernel
theorem dX0_hindrance_11 : decode cX0_hindrance 11 = .ok (.invokevirtual 103, 3) := by decide +kernel
theorem dX0_hindrance_14 : decode cX0_hindrance 14 = .ok (.astore_n 2, 1) := by decide +kernel
theorem dX0_hindrance_15 : decode cX0_hindrance 15 = .ok (.aload_n 2, 1) := by decide +kernel
theorem dX0_hindrance_16 : decode cX0_hindrance 16 = .ok (.ifnonnull 5, 3) := by decide +kernel
theorem dX0_hindrance_19 : decode cX0_hindrance 19 = .ok (.iconst 2, 1) := by decide +kernel
theorem dX0_hindrance_20 : decode cX0_hindrance 20 = .ok (.ireturn, 1) := by decide +kernel
theorem dX0_hindrance_21 : decode cX0_hindrance 21 = .ok (.aload_n 0, 1) := by decide +kernel
theorem dX0_hindrance_22 : decode cX0_hindrance 22 = .ok (.aload_n 1, 1) := by decide +kernel
theorem dX0_hindrance_23 : decode cX0_hindrance 23 = .ok (.aload_n 2, 1) := by decide +kernel
theorem dX0_hindrance_24 : decode cX0_hindrance 24 = .ok (.invokevirtual 111, 3) := by decide +kernel
theorem dX0_hindrance_27 : decode cX0_hindrance 27 = .ok (.ifnonnull 7, 3) := by decide +kernel
theorem dX0_hindrance_30 : decode cX0_hindrance 30 = .ok (.iconst 3, 1) := by decide +kernel
theorem dX0_hindrance_31 : decode cX0_hindrance 31 = .ok (.goto 4, 3) := by decide +kernel
theorem dX0_hindrance_34 : decode cX0_hindrance 34 = .ok (.iconst 0, 1) := by decide +kernel
theorem dX0_hindrance_35 : decode cX0_hindrance 35 = .ok (.ireturn, 1) := by decide +kernel
theorem dX0_sourceOf_0 : decode cX0_sourceOf 0 = .ok (.aload_n 2, 1) := by decide +kernel
theorem dX0_sourceOf_1 : decode cX0_sourceOf 1 = .ok (.invokevirtual 115, 3) := by decide +kernel
theorem dX0_sourceOf_4 : decode cX0_sourceOf 4 = .ok (.istore_n 3, 1) := by decide +kernel
theorem dX0_sourceOf_5 : decode cX0_sourceOf 5 = .ok (.aload_n 1, 1) := by decide +kernel
theorem dX0_sourceOf_6 : decode cX0_sourceOf 6 = .ok (.getfield 119, 3) := by decide +kernel
theorem dX0_sourceOf_9 : decode cX0_sourceOf 9 = .ok (.aload_n 2, 1) := by decide +kernel
theorem dX0_sourceOf_10 : decode cX0_sourceOf 10 = .ok (.getfield 122, 3) := by decide +kernel
theorem dX0_sourceOf_13 : decode cX0_sourceOf 13 = .ok (.invokevirtual 125, 3) := by decide +kernel
theorem dX0_sourceOf_16 : decode cX0_sourceOf 16 = .ok (.iload_n 3, 1) := by decide +kernel
theorem dX0_sourceOf_17 : decode cX0_sourceOf 17 = .ok (.if_icmp .lt 8, 3) := by decide +kernel
theorem dX0_sourceOf_20 : decode cX0_sourceOf 20 = .ok (.aload_n 1, 1) := by decide +kernel
theorem dX0_sourceOf_21 : decode cX0_sourceOf 21 = .ok (.getfield 119, 3) := by decide +kernel
theorem dX0_sourceOf_24 : decode cX0_sourceOf 24 = .ok (.areturn, 1) := by decide +kernel
theorem dX0_sourceOf_25 : decode cX0_sourceOf 25 = .ok (.aload_n 0, 1) := by decide +kernel
theorem dX0_sourceOf_26 : decode cX0_sourceOf 26 = .ok (.getfield 30, 3) := by decide +kernel
theorem dX0_sourceOf_29 : decode cX0_sourceOf 29 = .ok (.iconst 1, 1) := by decide +kernel
theorem dX0_sourceOf_30 : decode cX0_sourceOf 30 = .ok (.iaload, 1) := by decide +kernel
theorem dX0_sourceOf_31 : decode cX0_sourceOf 31 = .ok (.iconst 1, 1) := by decide +kernel
theorem dX0_sourceOf_32 : decode cX0_sourceOf 32 = .ok (.if_icmp .ne 25, 3) := by decide +kernel
theorem dX0_sourceOf_35 : decode cX0_sourceOf 35 = .ok (.aload_n 0, 1) := by decide +kernel
theorem dX0_sourceOf_36 : decode cX0_sourceOf 36 = .ok (.getfield 26, 3) := by decide +kernel
theorem dX0_sourceOf_39 : decode cX0_sourceOf 39 = .ok (.aload_n 2, 1) := by decide +kernel
theorem dX0_sourceOf_40 : decode cX0_sourceOf 40 = .ok (.getfield 122, 3) := by decide +kernel
theorem dX0_sourceOf_43 : decode cX0_sourceOf 43 = .ok (.invokevirtual 125, 3) := by decide +kernel
theorem dX0_sourceOf_46 : decode cX0_sourceOf 46 = .ok (.iload_n 3, 1) := by decide +kernel
theorem dX0_sourceOf_47 : decode cX0_sourceOf 47 = .ok (.if_icmp .lt 10, 3) := by decide +kernel
theorem dX0_sourceOf_50 : decode cX0_sourceOf 50 = .ok (.aload_n 0, 1) := by decide +kernel
theorem dX0_sourceOf_51 : decode cX0_sourceOf 51 = .ok (.getfield 26, 3) := by decide +kernel
theorem dX0_sourceOf_54 : decode cX0_sourceOf 54 = .ok (.goto 4, 3) := by decide +kernel
theorem dX0_sourceOf_57 : decode cX0_sourceOf 57 = .ok (.aconst_null, 1) := by decide +kernel
theorem dX0_sourceOf_58 : decode cX0_sourceOf 58 = .ok (.areturn, 1) := by decide +kernel
theorem dX0_takeYarn_0 : decode cX0_takeYarn 0 = .ok (.aload_n 3, 1) := by decide +kernel
theorem dX0_takeYarn_1 : decode cX0_takeYarn 1 = .ok (.invokevirtual 115, 3) := by decide +kernel
theorem dX0_takeYarn_4 : decode cX0_takeYarn 4 = .ok (.istore 4, 2) := by decide +kernel
theorem dX0_takeYarn_6 : decode cX0_takeYarn 6 = .ok (.aload_n 1, 1) := by decide +kernel
theorem dX0_takeYarn_7 : decode cX0_takeYarn 7 = .ok (.aload_n 3, 1) := by decide +kernel
theorem dX0_takeYarn_8 : decode cX0_takeYarn 8 = .ok (.getfield 122, 3) := by decide +kernel
theorem dX0_takeYarn_11 : decode cX0_takeYarn 11 = .ok (.iload 4, 2) := by decide +kernel
theorem dX0_takeYarn_13 : decode cX0_takeYarn 13 = .ok (.ineg, 1) := by decide +kernel
theorem dX0_takeYarn_14 : decode cX0_takeYarn 14 = .ok (.invokevirtual 128, 3) := by decide +kernel
theorem dX0_takeYarn_17 : decode cX0_takeYarn 17 = .ok (.pop, 1) := by decide +kernel
theorem dX0_takeYarn_18 : decode cX0_takeYarn 18 = .ok (.aload_n 1, 1) := by decide +kernel
theorem dX0_takeYarn_19 : decode cX0_takeYarn 19 = .ok (.aload_n 0, 1) := by decide +kernel
theorem dX0_takeYarn_20 : decode cX0_takeYarn 20 = .ok (.getfield 26, 3) := by decide +kernel
theorem dX0_takeYarn_23 : decode cX0_takeYarn 23 = .ok (.if_acmp .ne 9, 3) := by decide +kernel
theorem dX0_takeYarn_26 : decode cX0_takeYarn 26 = .ok (.aload_n 2, 1) := by decide +kernel
theorem dX0_takeYarn_27 : decode cX0_takeYarn 27 = .ok (.iload 4, 2) := by decide +kernel
theorem dX0_takeYarn_29 : decode cX0_takeYarn 29 = .ok (.invokevirtual 132, 3) := by decide +kernel
theorem dX0_takeYarn_32 : decode cX0_takeYarn 32 = .ok (.aload_n 0, 1) := by decide +kernel
theorem dX0_takeYarn_33 : decode cX0_takeYarn 33 = .ok (.dup, 1) := by decide +kernel
theorem dX0_takeYarn_34 : decode cX0_takeYarn 34 = .ok (.getfield 68, 3) := by decide +kernel
theorem dX0_takeYarn_37 : decode cX0_takeYarn 37 = .ok (.iload 4, 2) := by decide +kernel
theorem dX0_takeYarn_39 : decode cX0_takeYarn 39 = .ok (.iadd, 1) := by decide +kernel
theorem dX0_takeYarn_40 : decode cX0_takeYarn 40 = .ok (.putfield 68, 3) := by decide +kernel
theorem dX0_takeYarn_43 : decode cX0_takeYarn 43 = .ok (.return_, 1) := by decide +kernel
theorem dX0_passHour_0 : decode cX0_passHour 0 = .ok (.iconst 0, 1) := by decide +kernel
theorem dX0_passHour_1 : decode cX0_passHour 1 = .ok (.istore_n 1, 1) := by decide +kernel
theorem dX0_passHour_2 : decode cX0_passHour 2 = .ok (.iconst 0, 1) := by decide +kernel
theorem dX0_passHour_3 : decode cX0_passHour 3 = .ok (.istore_n 2, 1) := by decide +kernel
theorem dX0_passHour_4 : decode cX0_passHour 4 = .ok (.iload_n 2, 1) := by decide +kernel
theorem dX0_passHour_5 : decode cX0_passHour 5 = .ok (.aload_n 0, 1) := by decide +kernel
theorem dX0_passHour_6 : decode cX0_passHour 6 = .ok (.getfield 11, 3) := by decide +kernel
theorem dX0_passHour_9 : decode cX0_passHour 9 = .ok (.arraylength, 1) := by decide +kernel
theorem dX0_passHour_10 : decode cX0_passHour 10 = .ok (.if_icmp .ge 55, 3) := by decide +kernel
theorem dX0_passHour_13 : decode cX0_passHour 13 = .ok (.aload_n 0, 1) := by decide +kernel
theorem dX0_passHour_14 : decode cX0_passHour 14 = .ok (.getfield 11, 3) := by decide +kernel
theorem dX0_passHour_17 : decode cX0_passHour 17 = .ok (.iload_n 2, 1) := by decide +kernel
theorem dX0_passHour_18 : decode cX0_passHour 18 = .ok (.aaload, 1) := by decide +kernel
theorem dX0_passHour_19 : decode cX0_passHour 19 = .ok (.invokevirtual 107, 3) := by decide +kernel
theorem dX0_passHour_22 : decode cX0_passHour 22 = .ok (.ifCond .eq 37, 3) := by decide +kernel
theorem dX0_passHour_25 : decode cX0_passHour 25 = .ok (.aload_n 0, 1) := by decide +kernel
theorem dX0_passHour_26 : decode cX0_passHour 26 = .ok (.aload_n 0, 1) := by decide +kernel
theorem dX0_passHour_27 : decode cX0_passHour 27 = .ok (.getfield 11, 3) := by decide +kernel
theorem dX0_passHour_30 : decode cX0_passHour 30 = .ok (.iload_n 2, 1) := by decide +kernel
theorem dX0_passHour_31 : decode cX0_passHour 31 = .ok (.aaload, 1) := by decide +kernel
theorem dX0_passHour_32 : decode cX0_passHour 32 = .ok (.iload_n 2, 1) := by decide +kernel
theorem dX0_passHour_33 : decode cX0_passHour 33 = .ok (.invokevirtual 136, 3) := by decide +kernel
theorem dX0_passHour_36 : decode cX0_passHour 36 = .ok (.istore_n 3, 1) := by decide +kernel
theorem dX0_passHour_37 : decode cX0_passHour 37 = .ok (.iload_n 1, 1) := by decide +kernel
theorem dX0_passHour_38 : decode cX0_passHour 38 = .ok (.iload_n 3, 1) := by decide +kernel
theorem dX0_passHour_39 : decode cX0_passHour 39 = .ok (.iadd, 1) := by decide +kernel
theorem dX0_passHour_40 : decode cX0_passHour 40 = .ok (.istore_n 1, 1) := by decide +kernel
theorem dX0_passHour_41 : decode cX0_passHour 41 = .ok (.aload_n 0, 1) := by decide +kernel
theorem dX0_passHour_42 : decode cX0_passHour 42 = .ok (.dup, 1) := by decide +kernel
theorem dX0_passHour_43 : decode cX0_passHour 43 = .ok (.getfield 71, 3) := by decide +kernel
theorem dX0_passHour_46 : decode cX0_passHour 46 = .ok (.iload_n 3, 1) := by decide +kernel
theorem dX0_passHour_47 : decode cX0_passHour 47 = .ok (.ifCond .ne 7, 3) := by decide +kernel
theorem dX0_passHour_50 : decode cX0_passHour 50 = .ok (.iconst 1, 1) := by decide +kernel
theorem dX0_passHour_51 : decode cX0_passHour 51 = .ok (.goto 4, 3) := by decide +kernel
theorem dX0_passHour_54 : decode cX0_passHour 54 = .ok (.iconst 0, 1) := by decide +kernel
theorem dX0_passHour_55 : decode cX0_passHour 55 = .ok (.iadd, 1) := by decide +kernel
theorem dX0_passHour_56 : decode cX0_passHour 56 = .ok (.putfield 71, 3) := by decide +kernel
theorem dX0_passHour_59 : decode cX0_passHour 59 = .ok (.iinc 2 1, 3) := by decide +kernel
theorem dX0_passHour_62 : decode cX0_passHour 62 = .ok (.goto (-58), 3) := by decide +kernel
theorem dX0_passHour_65 : decode cX0_passHour 65 = .ok (.aload_n 0, 1) := by decide +kernel
theorem dX0_passHour_66 : decode cX0_passHour 66 = .ok (.dup, 1) := by decide +kernel
theorem dX0_passHour_67 : decode cX0_passHour 67 = .ok (.getfield 56, 3) := by decide +kernel
theorem dX0_passHour_70 : decode cX0_passHour 70 = .ok (.iconst 1, 1) := by decide +kernel
theorem dX0_passHour_71 : decode cX0_passHour 71 = .ok (.iadd, 1) := by decide +kernel
theorem dX0_passHour_72 : decode cX0_passHour 72 = .ok (.putfield 56, 3) := by decide +kernel
theorem dX0_passHour_75 : decode cX0_passHour 75 = .ok (.iload_n 1, 1) := by decide +kernel
theorem dX0_passHour_76 : decode cX0_passHour 76 = .ok (.ireturn, 1) := by decide +kernel
theorem dX0_workLoom_0 : decode cX0_workLoom 0 = .ok (.aload_n 0, 1) := by decide +kernel
theorem dX0_workLoom_1 : decode cX0_workLoom 1 = .ok (.aload_n 1, 1) := by decide +kernel
theorem dX0_workLoom_2 : decode cX0_workLoom 2 = .ok (.invokevirtual 103, 3) := by decide +kernel
theorem dX0_workLoom_5 : decode cX0_workLoom 5 = .ok (.astore_n 3, 1) := by decide +kernel
theorem dX0_workLoom_6 : decode cX0_workLoom 6 = .ok (.aload_n 3, 1) := by decide +kernel
theorem dX0_workLoom_7 : decode cX0_workLoom 7 = .ok (.ifnonnull 5, 3) := by decide +kernel
theorem dX0_workLoom_10 : decode cX0_workLoom 10 = .ok (.iconst 0, 1) := by decide +kernel
theorem dX0_workLoom_11 : decode cX0_workLoom 11 = .ok (.ireturn, 1) := by decide +kernel
theorem dX0_workLoom_12 : decode cX0_workLoom 12 = .ok (.iconst 0, 1) := by decide +kernel
theorem dX0_workLoom_13 : decode cX0_workLoom 13 = .ok (.istore 4, 2) := by decide +kernel
theorem dX0_workLoom_15 : decode cX0_workLoom 15 = .ok (.iconst 0, 1) := by decide +kernel
theorem dX0_workLoom_16 : decode cX0_workLoom 16 = .ok (.istore 5, 2) := by decide +kernel
theorem dX0_workLoom_18 : decode cX0_workLoom 18 = .ok (.iload 5, 2) := by decide +kernel
theorem dX0_workLoom_20 : decode cX0_workLoom 20 = .ok (.aload_n 1, 1) := by decide +kernel
theorem dX0_workLoom_21 : decode cX0_workLoom 21 = .ok (.getfield 140, 3) := by decide +kernel
theorem dX0_workLoom_24 : decode cX0_workLoom 24 = .ok (.if_icmp .ge 55, 3) := by decide +kernel
theorem dX0_workLoom_27 : decode cX0_workLoom 27 = .ok (.aload_n 3, 1) := by decide +kernel
theorem dX0_workLoom_28 : decode cX0_workLoom 28 = .ok (.invokevirtual 143, 3) := by decide +kernel
theorem dX0_workLoom_31 : decode cX0_workLoom 31 = .ok (.ifCond .ne 48, 3) := by decide +kernel
theorem dX0_workLoom_34 : decode cX0_workLoom 34 = .ok (.aload_n 0, 1) := by decide +kernel
theorem dX0_workLoom_35 : decode cX0_workLoom 35 = .ok (.aload_n 1, 1) := by decide +kernel
theorem dX0_workLoom_36 : decode cX0_workLoom 36 = .ok (.aload_n 3, 1) := by decide +kernel
theorem dX0_workLoom_37 : decode cX0_workLoom 37 = .ok (.invokevirtual 111, 3) := by decide +kernel
theorem dX0_workLoom_40 : decode cX0_workLoom 40 = .ok (.astore 6, 2) := by decide +kernel
theorem dX0_workLoom_42 : decode cX0_workLoom 42 = .ok (.aload 6, 2) := by decide +kernel
theorem dX0_workLoom_44 : decode cX0_workLoom 44 = .ok (.ifnonnull 6, 3) := by decide +kernel
theorem dX0_workLoom_47 : decode cX0_workLoom 47 = .ok (.goto 32, 3) := by decide +kernel
theorem dX0_workLoom_50 : decode cX0_workLoom 50 = .ok (.aload_n 0, 1) := by decide +kernel
theorem dX0_workLoom_51 : decode cX0_workLoom 51 = .ok (.aload 6, 2) := by decide +kernel
theorem dX0_workLoom_53 : decode cX0_workLoom 53 = .ok (.aload_n 1, 1) := by decide +kernel
theorem dX0_workLoom_54 : decode cX0_workLoom 54 = .ok (.aload_n 3, 1) := by decide +kernel
theorem dX0_workLoom_55 : decode cX0_workLoom 55 = .ok (.invokevirtual 146, 3) := by decide +kernel
theorem dX0_workLoom_58 : decode cX0_workLoom 58 = .ok (.iinc 4 1, 3) := by decide +kernel
theorem dX0_workLoom_61 : decode cX0_workLoom 61 = .ok (.aload_n 1, 1) := by decide +kernel
theorem dX0_workLoom_62 : decode cX0_workLoom 62 = .ok (.invokevirtual 150, 3) := by decide +kernel
theorem dX0_workLoom_65 : decode cX0_workLoom 65 = .ok (.ifCond .eq 8, 3) := by decide +kernel
theorem dX0_workLoom_68 : decode cX0_workLoom 68 = .ok (.aload_n 3, 1) := by decide +kernel
theorem dX0_workLoom_69 : decode cX0_workLoom 69 = .ok (.iload_n 2, 1) := by decide +kernel
theorem dX0_workLoom_70 : decode cX0_workLoom 70 = .ok (.invokevirtual 153, 3) := by decide +kernel
theorem dX0_workLoom_73 : decode cX0_workLoom 73 = .ok (.iinc 5 1, 3) := by decide +kernel
theorem dX0_workLoom_76 : decode cX0_workLoom 76 = .ok (.goto (-58), 3) := by decide +kernel
theorem dX0_workLoom_79 : decode cX0_workLoom 79 = .ok (.aload_n 3, 1) := by decide +kernel
theorem dX0_workLoom_80 : decode cX0_workLoom 80 = .ok (.invokevirtual 143, 3) := by decide +kernel
theorem dX0_workLoom_83 : decode cX0_workLoom 83 = .ok (.ifCond .eq 8, 3) := by decide +kernel
theorem dX0_workLoom_86 : decode cX0_workLoom 86 = .ok (.aload_n 0, 1) := by decide +kernel
theorem dX0_workLoom_87 : decode cX0_workLoom 87 = .ok (.aload_n 3, 1) := by decide +kernel
theorem dX0_workLoom_88 : decode cX0_workLoom 88 = .ok (.invokevirtual 156, 3) := by decide +kernel
theorem dX0_workLoom_91 : decode cX0_workLoom 91 = .ok (.iload 4, 2) := by decide +kernel
theorem dX0_workLoom_93 : decode cX0_workLoom 93 = .ok (.ireturn, 1) := by decide +kernel
theorem dX0_finish_0 : decode cX0_finish 0 = .ok (.aload_n 1, 1) := by decide +kernel
theorem dX0_finish_1 : decode cX0_finish 1 = .ok (.aload_n 0, 1) := by decide +kernel
theorem dX0_finish_2 : decode cX0_finish 2 = .ok (.getfield 56, 3) := by decide +kernel
theorem dX0_finish_5 : decode cX0_finish 5 = .ok (.invokevirtual 159, 3) := by decide +kernel
theorem dX0_finish_8 : decode cX0_finish 8 = .ok (.istore_n 2, 1) := by decide +kernel
theorem dX0_finish_9 : decode cX0_finish 9 = .ok (.aload_n 1, 1) := by decide +kernel
theorem dX0_finish_10 : decode cX0_finish 10 = .ok (.iload_n 2, 1) := by decide +kernel
theorem dX0_finish_11 : decode cX0_finish 11 = .ok (.aload_n 0, 1) := by decide +kernel
theorem dX0_finish_12 : decode cX0_finish 12 = .ok (.getfield 30, 3) := by decide +kernel
theorem dX0_finish_15 : decode cX0_finish 15 = .ok (.iconst 2, 1) := by decide +kernel
theorem dX0_finish_16 : decode cX0_finish 16 = .ok (.iaload, 1) := by decide +kernel
theorem dX0_finish_17 : decode cX0_finish 17 = .ok (.invokevirtual 162, 3) := by decide +kernel
theorem dX0_finish_20 : decode cX0_finish 20 = .ok (.istore_n 3, 1) := by decide +kernel
theorem dX0_finish_21 : decode cX0_finish 21 = .ok (.aload_n 1, 1) := by decide +kernel
theorem dX0_finish_22 : decode cX0_finish 22 = .ok (.iload_n 3, 1) := by decide +kernel
theorem dX0_finish_23 : decode cX0_finish 23 = .ok (.aload_n 0, 1) := by decide +kernel
theorem dX0_finish_24 : decode cX0_finish 24 = .ok (.getfield 34, 3) := by decide +kernel
theorem dX0_finish_27 : decode cX0_finish 27 = .ok (.invokevirtual 165, 3) := by decide +kernel
theorem dX0_finish_30 : decode cX0_finish 30 = .ok (.iconst 0, 1) := by decide +kernel
theorem dX0_finish_31 : decode cX0_finish 31 = .ok (.istore 4, 2) := by decide +kernel
theorem dX0_finish_33 : decode cX0_finish 33 = .ok (.iload 4, 2) := by decide +kernel
theorem dX0_finish_35 : decode cX0_finish 35 = .ok (.aload_n 0, 1) := by decide +kernel
theorem dX0_finish_36 : decode cX0_finish 36 = .ok (.getfield 11, 3) := by decide +kernel
theorem dX0_finish_39 : decode cX0_finish 39 = .ok (.arraylength, 1) := by decide +kernel
theorem dX0_finish_40 : decode cX0_finish 40 = .ok (.if_icmp .ge 42, 3) := by decide +kernel
theorem dX0_finish_43 : decode cX0_finish 43 = .ok (.iload 4, 2) := by decide +kernel
theorem dX0_finish_45 : decode cX0_finish 45 = .ok (.aload_n 0, 1) := by decide +kernel
theorem dX0_finish_46 : decode cX0_finish 46 = .ok (.getfield 34, 3) := by decide +kernel
theorem dX0_finish_49 : decode cX0_finish 49 = .ok (.arraylength, 1) := by decide +kernel
theorem dX0_finish_50 : decode cX0_finish 50 = .ok (.if_icmp .ge 32, 3) := by decide +kernel
theorem dX0_finish_53 : decode cX0_finish 53 = .ok (.aload_n 0, 1) := by decide +kernel
theorem dX0_finish_54 : decode cX0_finish 54 = .ok (.getfield 11, 3) := by decide +kernel
theorem dX0_finish_57 : decode cX0_finish 57 = .ok (.iload 4, 2) := by decide +kernel
theorem dX0_finish_59 : decode cX0_finish 59 = .ok (.aaload, 1) := by decide +kernel
theorem dX0_finish_60 : decode cX0_finish 60 = .ok (.aload_n 0, 1) := by decide +kernel
theorem dX0_finish_61 : decode cX0_finish 61 = .ok (.getfield 34, 3) := by decide +kernel
theorem dX0_finish_64 : decode cX0_finish 64 = .ok (.iload 4, 2) := by decide +kernel
theorem dX0_finish_66 : decode cX0_finish 66 = .ok (.iaload, 1) := by decide +kernel
theorem dX0_finish_67 : decode cX0_finish 67 = .ok (.aload_n 0, 1) := by decide +kernel
theorem dX0_finish_68 : decode cX0_finish 68 = .ok (.getfield 30, 3) := by decide +kernel
theorem dX0_finish_71 : decode cX0_finish 71 = .ok (.iconst 3, 1) := by decide +kernel
theorem dX0_finish_72 : decode cX0_finish 72 = .ok (.iaload, 1) := by decide +kernel
theorem dX0_finish_73 : decode cX0_finish 73 = .ok (.invokevirtual 169, 3) := by decide +kernel
theorem dX0_finish_76 : decode cX0_finish 76 = .ok (.iinc 4 1, 3) := by decide +kernel
theorem dX0_finish_79 : decode cX0_finish 79 = .ok (.goto (-46), 3) := by decide +kernel
theorem dX0_finish_82 : decode cX0_finish 82 = .ok (.aload_n 0, 1) := by decide +kernel
theorem dX0_finish_83 : decode cX0_finish 83 = .ok (.dup, 1) := by decide +kernel
theorem dX0_finish_84 : decode cX0_finish 84 = .ok (.getfield 65, 3) := by decide +kernel
theorem dX0_finish_87 : decode cX0_finish 87 = .ok (.iload_n 3, 1) := by decide +kernel
theorem dX0_finish_88 : decode cX0_finish 88 = .ok (.iadd, 1) := by decide +kernel
theorem dX0_finish_89 : decode cX0_finish 89 = .ok (.putfield 65, 3) := by decide +kernel
theorem dX0_finish_92 : decode cX0_finish 92 = .ok (.aload_n 0, 1) := by decide +kernel
theorem dX0_finish_93 : decode cX0_finish 93 = .ok (.dup, 1) := by decide +kernel
theorem dX0_finish_94 : decode cX0_finish 94 = .ok (.getfield 59, 3) := by decide +kernel
theorem dX0_finish_97 : decode cX0_finish 97 = .ok (.iconst 1, 1) := by decide +kernel
theorem dX0_finish_98 : decode cX0_finish 98 = .ok (.iadd, 1) := by decide +kernel
theorem dX0_finish_99 : decode cX0_finish 99 = .ok (.putfield 59, 3) := by decide +kernel
theorem dX0_finish_102 : decode cX0_finish 102 = .ok (.aload_n 0, 1) := by decide +kernel
theorem dX0_finish_103 : decode cX0_finish 103 = .ok (.dup, 1) := by decide +kernel
theorem dX0_finish_104 : decode cX0_finish 104 = .ok (.getfield 62, 3) := by decide +kernel
theorem dX0_finish_107 : decode cX0_finish 107 = .ok (.iload_n 2, 1) := by decide +kernel
theorem dX0_finish_108 : decode cX0_finish 108 = .ok (.ifCond .le 7, 3) := by decide +kernel
theorem dX0_finish_111 : decode cX0_finish 111 = .ok (.iconst 1, 1) := by decide +kernel
theorem dX0_finish_112 : decode cX0_finish 112 = .ok (.goto 4, 3) := by decide +kernel
theorem dX0_finish_115 : decode cX0_finish 115 = .ok (.iconst 0, 1) := by decide +kernel
theorem dX0_finish_116 : decode cX0_finish 116 = .ok (.iadd, 1) := by decide +kernel
theorem dX0_finish_117 : decode cX0_finish 117 = .ok (.putfield 62, 3) := by decide +kernel
theorem dX0_finish_120 : decode cX0_finish 120 = .ok (.aload_n 0, 1) := by decide +kernel
theorem dX0_finish_121 : decode cX0_finish 121 = .ok (.aload_n 1, 1) := by decide +kernel
theorem dX0_finish_122 : decode cX0_finish 122 = .ok (.invokevirtual 173, 3) := by decide +kernel
theorem dX0_finish_125 : decode cX0_finish 125 = .ok (.return_, 1) := by decide +kernel
theorem dX0_foresee_0 : decode cX0_foresee 0 = .ok (.iconst 1, 1) := by decide +kernel
theorem dX0_foresee_1 : decode cX0_foresee 1 = .ok (.istore_n 2, 1) := by decide +kernel
theorem dX0_foresee_2 : decode cX0_foresee 2 = .ok (.iconst 0, 1) := by decide +kernel
theorem dX0_foresee_3 : decode cX0_foresee 3 = .ok (.istore_n 3, 1) := by decide +kernel
theorem dX0_foresee_4 : decode cX0_foresee 4 = .ok (.iload_n 3, 1) := by decide +kernel
theorem dX0_foresee_5 : decode cX0_foresee 5 = .ok (.iload_n 1, 1) := by decide +kernel
theorem dX0_foresee_6 : decode cX0_foresee 6 = .ok (.if_icmp .ge 26, 3) := by decide +kernel
theorem dX0_foresee_9 : decode cX0_foresee 9 = .ok (.iload_n 2, 1) := by decide +kernel
theorem dX0_foresee_10 : decode cX0_foresee 10 = .ok (.ifCond .eq 22, 3) := by decide +kernel
theorem dX0_foresee_13 : decode cX0_foresee 13 = .ok (.aload_n 0, 1) := by decide +kernel
theorem dX0_foresee_14 : decode cX0_foresee 14 = .ok (.invokevirtual 176, 3) := by decide +kernel
theorem dX0_foresee_17 : decode cX0_foresee 17 = .ok (.ifCond .le 7, 3) := by decide +kernel
theorem dX0_foresee_20 : decode cX0_foresee 20 = .ok (.iconst 1, 1) := by decide +kernel
theorem dX0_foresee_21 : decode cX0_foresee 21 = .ok (.goto 4, 3) := by decide +kernel
theorem dX0_foresee_24 : decode cX0_foresee 24 = .ok (.iconst 0, 1) := by decide +kernel
theorem dX0_foresee_25 : decode cX0_foresee 25 = .ok (.istore_n 2, 1) := by decide +kernel
theorem dX0_foresee_26 : decode cX0_foresee 26 = .ok (.iinc 3 1, 3) := by decide +kernel
theorem dX0_foresee_29 : decode cX0_foresee 29 = .ok (.goto (-25), 3) := by decide +kernel
theorem dX0_foresee_32 : decode cX0_foresee 32 = .ok (.return_, 1) := by decide +kernel
theorem dX0_dueOf_0 : decode cX0_dueOf 0 = .ok (.aload_n 1, 1) := by decide +kernel
theorem dX0_dueOf_1 : decode cX0_dueOf 1 = .ok (.aload_n 1, 1) := by decide +kernel
theorem dX0_dueOf_2 : decode cX0_dueOf 2 = .ok (.aload_n 0, 1) := by decide +kernel
theorem dX0_dueOf_3 : decode cX0_dueOf 3 = .ok (.getfield 56, 3) := by decide +kernel
theorem dX0_dueOf_6 : decode cX0_dueOf 6 = .ok (.invokevirtual 159, 3) := by decide +kernel
theorem dX0_dueOf_9 : decode cX0_dueOf 9 = .ok (.aload_n 0, 1) := by decide +kernel
theorem dX0_dueOf_10 : decode cX0_dueOf 10 = .ok (.getfield 30, 3) := by decide +kernel
theorem dX0_dueOf_13 : decode cX0_dueOf 13 = .ok (.iconst 2, 1) := by decide +kernel
theorem dX0_dueOf_14 : decode cX0_dueOf 14 = .ok (.iaload, 1) := by decide +kernel
theorem dX0_dueOf_15 : decode cX0_dueOf 15 = .ok (.invokevirtual 162, 3) := by decide +kernel
theorem dX0_dueOf_18 : decode cX0_dueOf 18 = .ok (.istore_n 3, 1) := by decide +kernel
theorem dX0_dueOf_19 : decode cX0_dueOf 19 = .ok (.aload_n 1, 1) := by decide +kernel
theorem dX0_dueOf_20 : decode cX0_dueOf 20 = .ok (.iload_n 3, 1) := by decide +kernel
theorem dX0_dueOf_21 : decode cX0_dueOf 21 = .ok (.aload_n 0, 1) := by decide +kernel
theorem dX0_dueOf_22 : decode cX0_dueOf 22 = .ok (.getfield 34, 3) := by decide +kernel
theorem dX0_dueOf_25 : decode cX0_dueOf 25 = .ok (.invokevirtual 165, 3) := by decide +kernel
theorem dX0_dueOf_28 : decode cX0_dueOf 28 = .ok (.iload_n 2, 1) := by decide +kernel
theorem dX0_dueOf_29 : decode cX0_dueOf 29 = .ok (.ifCond .lt 21, 3) := by decide +kernel
theorem dX0_dueOf_32 : decode cX0_dueOf 32 = .ok (.iload_n 2, 1) := by decide +kernel
theorem dX0_dueOf_33 : decode cX0_dueOf 33 = .ok (.aload_n 0, 1) := by decide +kernel
theorem dX0_dueOf_34 : decode cX0_dueOf 34 = .ok (.getfield 34, 3) := by decide +kernel
theorem dX0_dueOf_37 : decode cX0_dueOf 37 = .ok (.arraylength, 1) := by decide +kernel
theorem dX0_dueOf_38 : decode cX0_dueOf 38 = .ok (.if_icmp .ge 12, 3) := by decide +kernel
theorem dX0_dueOf_41 : decode cX0_dueOf 41 = .ok (.aload_n 0, 1) := by decide +kernel
theorem dX0_dueOf_42 : decode cX0_dueOf 42 = .ok (.getfield 34, 3) := by decide +kernel
theorem dX0_dueOf_45 : decode cX0_dueOf 45 = .ok (.iload_n 2, 1) := by decide +kernel
theorem dX0_dueOf_46 : decode cX0_dueOf 46 = .ok (.iaload, 1) := by decide +kernel
theorem dX0_dueOf_47 : decode cX0_dueOf 47 = .ok (.goto 4, 3) := by decide +kernel
theorem dX0_dueOf_50 : decode cX0_dueOf 50 = .ok (.iconst 0, 1) := by decide +kernel
theorem dX0_dueOf_51 : decode cX0_dueOf 51 = .ok (.ireturn, 1) := by decide +kernel
theorem dX0_sumOf_0 : decode cX0_sumOf 0 = .ok (.iconst 0, 1) := by decide +kernel
theorem dX0_sumOf_1 : decode cX0_sumOf 1 = .ok (.istore_n 2, 1) := by decide +kernel
theorem dX0_sumOf_2 : decode cX0_sumOf 2 = .ok (.iconst 0, 1) := by decide +kernel
theorem dX0_sumOf_3 : decode cX0_sumOf 3 = .ok (.istore_n 3, 1) := by decide +kernel
theorem dX0_sumOf_4 : decode cX0_sumOf 4 = .ok (.iload_n 3, 1) := by decide +kernel
theorem dX0_sumOf_5 : decode cX0_sumOf 5 = .ok (.aload_n 0, 1) := by decide +kernel
theorem dX0_sumOf_6 : decode cX0_sumOf 6 = .ok (.getfield 11, 3) := by decide +kernel
theorem dX0_sumOf_9 : decode cX0_sumOf 9 = .ok (.arraylength, 1) := by decide +kernel
theorem dX0_sumOf_10 : decode cX0_sumOf 10 = .ok (.if_icmp .ge 22, 3) := by decide +kernel
theorem dX0_sumOf_13 : decode cX0_sumOf 13 = .ok (.iload_n 2, 1) := by decide +kernel
theorem dX0_sumOf_14 : decode cX0_sumOf 14 = .ok (.aload_n 0, 1) := by decide +kernel
theorem dX0_sumOf_15 : decode cX0_sumOf 15 = .ok (.getfield 11, 3) := by decide +kernel
theorem dX0_sumOf_18 : decode cX0_sumOf 18 = .ok (.iload_n 3, 1) := by decide +kernel
theorem dX0_sumOf_19 : decode cX0_sumOf 19 = .ok (.aaload, 1) := by decide +kernel
theorem dX0_sumOf_20 : decode cX0_sumOf 20 = .ok (.iload_n 1, 1) := by decide +kernel
theorem dX0_sumOf_21 : decode cX0_sumOf 21 = .ok (.invokevirtual 179, 3) := by decide +kernel
theorem dX0_sumOf_24 : decode cX0_sumOf 24 = .ok (.iadd, 1) := by decide +kernel
theorem dX0_sumOf_25 : decode cX0_sumOf 25 = .ok (.istore_n 2, 1) := by decide +kernel
theorem dX0_sumOf_26 : decode cX0_sumOf 26 = .ok (.iinc 3 1, 3) := by decide +kernel
theorem dX0_sumOf_29 : decode cX0_sumOf 29 = .ok (.goto (-25), 3) := by decide +kernel
theorem dX0_sumOf_32 : decode cX0_sumOf 32 = .ok (.iload_n 2, 1) := by decide +kernel
theorem dX0_sumOf_33 : decode cX0_sumOf 33 = .ok (.ireturn, 1) := by decide +kernel
theorem dX0_loomsAsWideAs_0 : decode cX0_loomsAsWideAs 0 = .ok (.iconst 0, 1) := by decide +kernel
theorem dX0_loomsAsWideAs_1 : decode cX0_loomsAsWideAs 1 = .ok (.istore_n 2, 1) := by decide +kernel
theorem dX0_loomsAsWideAs_2 : decode cX0_loomsAsWideAs 2 = .ok (.iconst 0, 1) := by decide +kernel
theorem dX0_loomsAsWideAs_3 : decode cX0_loomsAsWideAs 3 = .ok (.istore_n 3, 1) := by decide +kernel
theorem dX0_loomsAsWideAs_4 : decode cX0_loomsAsWideAs 4 = .ok (.iload_n 3, 1) := by decide +kernel
theorem dX0_loomsAsWideAs_5 : decode cX0_loomsAsWideAs 5 = .ok (.aload_n 0, 1) := by decide +kernel
theorem dX0_loomsAsWideAs_6 : decode cX0_loomsAsWideAs 6 = .ok (.getfield 11, 3) := by decide +kernel
theorem dX0_loomsAsWideAs_9 : decode cX0_loomsAsWideAs 9 = .ok (.arraylength, 1) := by decide +kernel
theorem dX0_loomsAsWideAs_10 : decode cX0_loomsAsWideAs 10 = .ok (.if_icmp .ge 30, 3) := by decide +kernel
theorem dX0_loomsAsWideAs_13 : decode cX0_loomsAsWideAs 13 = .ok (.iload_n 2, 1) := by decide +kernel
theorem dX0_loomsAsWideAs_14 : decode cX0_loomsAsWideAs 14 = .ok (.aload_n 0, 1) := by decide +kernel
theorem dX0_loomsAsWideAs_15 : decode cX0_loomsAsWideAs 15 = .ok (.getfield 11, 3) := by decide +kernel
theorem dX0_loomsAsWideAs_18 : decode cX0_loomsAsWideAs 18 = .ok (.iload_n 3, 1) := by decide +kernel
theorem dX0_loomsAsWideAs_19 : decode cX0_loomsAsWideAs 19 = .ok (.aaload, 1) := by decide +kernel
theorem dX0_loomsAsWideAs_20 : decode cX0_loomsAsWideAs 20 = .ok (.getfield 98, 3) := by decide +kernel
theorem dX0_loomsAsWideAs_23 : decode cX0_loomsAsWideAs 23 = .ok (.iload_n 1, 1) := by decide +kernel
theorem dX0_loomsAsWideAs_24 : decode cX0_loomsAsWideAs 24 = .ok (.if_icmp .lt 7, 3) := by decide +kernel
theorem dX0_loomsAsWideAs_27 : decode cX0_loomsAsWideAs 27 = .ok (.iconst 1, 1) := by decide +kernel
theorem dX0_loomsAsWideAs_28 : decode cX0_loomsAsWideAs 28 = .ok (.goto 4, 3) := by decide +kernel
theorem dX0_loomsAsWideAs_31 : decode cX0_loomsAsWideAs 31 = .ok (.iconst 0, 1) := by decide +kernel
theorem dX0_loomsAsWideAs_32 : decode cX0_loomsAsWideAs 32 = .ok (.iadd, 1) := by decide +kernel
theorem dX0_loomsAsWideAs_33 : decode cX0_loomsAsWideAs 33 = .ok (.istore_n 2, 1) := by decide +kernel
theorem dX0_loomsAsWideAs_34 : decode cX0_loomsAsWideAs 34 = .ok (.iinc 3 1, 3) := by decide +kernel
theorem dX0_loomsAsWideAs_37 : decode cX0_loomsAsWideAs 37 = .ok (.goto (-33), 3) := by decide +kernel
theorem dX0_loomsAsWideAs_40 : decode cX0_loomsAsWideAs 40 = .ok (.iload_n 2, 1) := by decide +kernel
theorem dX0_loomsAsWideAs_41 : decode cX0_loomsAsWideAs 41 = .ok (.ireturn, 1) := by decide +kernel
theorem dX0_number_0 : decode cX0_number 0 = .ok (.iload_n 1, 1) := by decide +kernel
theorem dX0_number_1 : decode cX0_number 1 = .ok (.tableswitch 111 0 9 #[55, 60, 65, 70, 75, 80, 86, 93, 98, 104], 55) := by decide +kernel
theorem dX0_number_56 : decode cX0_number 56 = .ok (.aload_n 0, 1) := by decide +kernel
theorem dX0_number_57 : decode cX0_number 57 = .ok (.getfield 56, 3) := by decide +kernel
theorem dX0_number_60 : decode cX0_number 60 = .ok (.ireturn, 1) := by decide +kernel
theorem dX0_number_61 : decode cX0_number 61 = .ok (.aload_n 0, 1) := by decide +kernel
theorem dX0_number_62 : decode cX0_number 62 = .ok (.getfield 49, 3) := by decide +kernel
theorem dX0_number_65 : decode cX0_number 65 = .ok (.ireturn, 1) := by decide +kernel
theorem dX0_number_66 : decode cX0_number 66 = .ok (.aload_n 0, 1) := by decide +kernel
theorem dX0_number_67 : decode cX0_number 67 = .ok (.getfield 59, 3) := by decide +kernel
theorem dX0_number_70 : decode cX0_number 70 = .ok (.ireturn, 1) := by decide +kernel
theorem dX0_number_71 : decode cX0_number 71 = .ok (.aload_n 0, 1) := by decide +kernel
theorem dX0_number_72 : decode cX0_number 72 = .ok (.getfield 62, 3) := by decide +kernel
theorem dX0_number_75 : decode cX0_number 75 = .ok (.ireturn, 1) := by decide +kernel
theorem dX0_number_76 : decode cX0_number 76 = .ok (.aload_n 0, 1) := by decide +kernel
theorem dX0_number_77 : decode cX0_number 77 = .ok (.getfield 65, 3) := by decide +kernel
theorem dX0_number_80 : decode cX0_number 80 = .ok (.ireturn, 1) := by decide +kernel
theorem dX0_number_81 : decode cX0_number 81 = .ok (.aload_n 0, 1) := by decide +kernel
theorem dX0_number_82 : decode cX0_number 82 = .ok (.iconst 5, 1) := by decide +kernel
theorem dX0_number_83 : decode cX0_number 83 = .ok (.invokevirtual 182, 3) := by decide +kernel
theorem dX0_number_86 : decode cX0_number 86 = .ok (.ireturn, 1) := by decide +kernel
theorem dX0_number_87 : decode cX0_number 87 = .ok (.aload_n 0, 1) := by decide +kernel
theorem dX0_number_88 : decode cX0_number 88 = .ok (.bipush 6, 2) := by decide +kernel
theorem dX0_number_90 : decode cX0_number 90 = .ok (.invokevirtual 182, 3) := by decide +kernel
theorem dX0_number_93 : decode cX0_number 93 = .ok (.ireturn, 1) := by decide +kernel
theorem dX0_number_94 : decode cX0_number 94 = .ok (.aload_n 0, 1) := by decide +kernel
theorem dX0_number_95 : decode cX0_number 95 = .ok (.getfield 68, 3) := by decide +kernel
theorem dX0_number_98 : decode cX0_number 98 = .ok (.ireturn, 1) := by decide +kernel
theorem dX0_number_99 : decode cX0_number 99 = .ok (.aload_n 0, 1) := by decide +kernel
theorem dX0_number_100 : decode cX0_number 100 = .ok (.iconst 3, 1) := by decide +kernel
theorem dX0_number_101 : decode cX0_number 101 = .ok (.invokevirtual 182, 3) := by decide +kernel
theorem dX0_number_104 : decode cX0_number 104 = .ok (.ireturn, 1) := by decide +kernel
theorem dX0_number_105 : decode cX0_number 105 = .ok (.aload_n 0, 1) := by decide +kernel
theorem dX0_number_106 : decode cX0_number 106 = .ok (.bipush 40, 2) := by decide +kernel
theorem dX0_number_108 : decode cX0_number 108 = .ok (.invokevirtual 185, 3) := by decide +kernel
theorem dX0_number_111 : decode cX0_number 111 = .ok (.ireturn, 1) := by decide +kernel
theorem dX0_number_112 : decode cX0_number 112 = .ok (.aload_n 0, 1) := by decide +kernel
theorem dX0_number_113 : decode cX0_number 113 = .ok (.getfield 71, 3) := by decide +kernel
theorem dX0_number_116 : decode cX0_number 116 = .ok (.ireturn, 1) := by decide +kernel
theorem dX0_orderProperty_0 : decode cX0_orderProperty 0 = .ok (.aload_n 0, 1) := by decide +kernel
theorem dX0_orderProperty_1 : decode cX0_orderProperty 1 = .ok (.iload_n 1, 1) := by decide +kernel
theorem dX0_orderProperty_2 : decode cX0_orderProperty 2 = .ok (.invokevirtual 81, 3) := by decide +kernel
theorem dX0_orderProperty_5 : decode cX0_orderProperty 5 = .ok (.astore_n 3, 1) := by decide +kernel
theorem dX0_orderProperty_6 : decode cX0_orderProperty 6 = .ok (.aload_n 3, 1) := by decide +kernel
theorem dX0_orderProperty_7 : decode cX0_orderProperty 7 = .ok (.ifnonnull 5, 3) := by decide +kernel
theorem dX0_orderProperty_10 : decode cX0_orderProperty 10 = .ok (.iconst (-1), 1) := by decide +kernel
theorem dX0_orderProperty_11 : decode cX0_orderProperty 11 = .ok (.ireturn, 1) := by decide +kernel
theorem dX0_orderProperty_12 : decode cX0_orderProperty 12 = .ok (.iload_n 2, 1) := by decide +kernel
theorem dX0_orderProperty_13 : decode cX0_orderProperty 13 = .ok (.tableswitch 97 0 7 #[47, 52, 57, 62, 67, 72, 77, 82], 47) := by decide +kernel
theorem dX0_orderProperty_60 : decode cX0_orderProperty 60 = .ok (.aload_n 3, 1) := by decide +kernel
theorem dX0_orderProperty_61 : decode cX0_orderProperty 61 = .ok (.getfield 74, 3) := by decide +kernel
theorem dX0_orderProperty_64 : decode cX0_orderProperty 64 = .ok (.ireturn, 1) := by decide +kernel
theorem dX0_orderProperty_65 : decode cX0_orderProperty 65 = .ok (.aload_n 3, 1) := by decide +kernel
theorem dX0_orderProperty_66 : decode cX0_orderProperty 66 = .ok (.getfield 122, 3) := by decide +kernel
theorem dX0_orderProperty_69 : decode cX0_orderProperty 69 = .ok (.ireturn, 1) := by decide +kernel
theorem dX0_orderProperty_70 : decode cX0_orderProperty 70 = .ok (.aload_n 3, 1) := by decide +kernel
theorem dX0_orderProperty_71 : decode cX0_orderProperty 71 = .ok (.getfield 92, 3) := by decide +kernel
theorem dX0_orderProperty_74 : decode cX0_orderProperty 74 = .ok (.ireturn, 1) := by decide +kernel
theorem dX0_orderProperty_75 : decode cX0_orderProperty 75 = .ok (.aload_n 3, 1) := by decide +kernel
theorem dX0_orderProperty_76 : decode cX0_orderProperty 76 = .ok (.getfield 188, 3) := by decide +kernel
theorem dX0_orderProperty_79 : decode cX0_orderProperty 79 = .ok (.ireturn, 1) := by decide +kernel
theorem dX0_orderProperty_80 : decode cX0_orderProperty 80 = .ok (.aload_n 3, 1) := by decide +kernel
theorem dX0_orderProperty_81 : decode cX0_orderProperty 81 = .ok (.getfield 95, 3) := by decide +kernel
theorem dX0_orderProperty_84 : decode cX0_orderProperty 84 = .ok (.ireturn, 1) := by decide +kernel
theorem dX0_orderProperty_85 : decode cX0_orderProperty 85 = .ok (.aload_n 3, 1) := by decide +kernel
theorem dX0_orderProperty_86 : decode cX0_orderProperty 86 = .ok (.getfield 89, 3) := by decide +kernel
theorem dX0_orderProperty_89 : decode cX0_orderProperty 89 = .ok (.ireturn, 1) := by decide +kernel
theorem dX0_orderProperty_90 : decode cX0_orderProperty 90 = .ok (.aload_n 3, 1) := by decide +kernel
theorem dX0_orderProperty_91 : decode cX0_orderProperty 91 = .ok (.getfield 191, 3) := by decide +kernel
theorem dX0_orderProperty_94 : decode cX0_orderProperty 94 = .ok (.ireturn, 1) := by decide +kernel
theorem dX0_orderProperty_95 : decode cX0_orderProperty 95 = .ok (.aload_n 3, 1) := by decide +kernel
theorem dX0_orderProperty_96 : decode cX0_orderProperty 96 = .ok (.getfield 188, 3) := by decide +kernel
theorem dX0_orderProperty_99 : decode cX0_orderProperty 99 = .ok (.aload_n 3, 1) := by decide +kernel
theorem dX0_orderProperty_100 : decode cX0_orderProperty 100 = .ok (.getfield 191, 3) := by decide +kernel
theorem dX0_orderProperty_103 : decode cX0_orderProperty 103 = .ok (.isub, 1) := by decide +kernel
theorem dX0_orderProperty_104 : decode cX0_orderProperty 104 = .ok (.aload_n 3, 1) := by decide +kernel
theorem dX0_orderProperty_105 : decode cX0_orderProperty 105 = .ok (.invokevirtual 115, 3) := by decide +kernel
theorem dX0_orderProperty_108 : decode cX0_orderProperty 108 = .ok (.imul, 1) := by decide +kernel
theorem dX0_orderProperty_109 : decode cX0_orderProperty 109 = .ok (.ireturn, 1) := by decide +kernel
theorem dX0_orderProperty_110 : decode cX0_orderProperty 110 = .ok (.aload_n 0, 1) := by decide +kernel
theorem dX0_orderProperty_111 : decode cX0_orderProperty 111 = .ok (.aload_n 3, 1) := by decide +kernel
theorem dX0_orderProperty_112 : decode cX0_orderProperty 112 = .ok (.getfield 92, 3) := by decide +kernel
theorem dX0_orderProperty_115 : decode cX0_orderProperty 115 = .ok (.invokevirtual 185, 3) := by decide +kernel
theorem dX0_orderProperty_118 : decode cX0_orderProperty 118 = .ok (.ireturn, 1) := by decide +kernel
theorem dX0_earnedRatio_0 : decode cX0_earnedRatio 0 = .ok (.iconst 0, 1) := by decide +kernel
theorem dX0_earnedRatio_1 : decode cX0_earnedRatio 1 = .ok (.istore_n 1, 1) := by decide +kernel
theorem dX0_earnedRatio_2 : decode cX0_earnedRatio 2 = .ok (.iconst 0, 1) := by decide +kernel
theorem dX0_earnedRatio_3 : decode cX0_earnedRatio 3 = .ok (.istore_n 2, 1) := by decide +kernel
theorem dX0_earnedRatio_4 : decode cX0_earnedRatio 4 = .ok (.iconst 0, 1) := by decide +kernel
theorem dX0_earnedRatio_5 : decode cX0_earnedRatio 5 = .ok (.istore_n 3, 1) := by decide +kernel
theorem dX0_earnedRatio_6 : decode cX0_earnedRatio 6 = .ok (.iconst 0, 1) := by decide +kernel
theorem dX0_earnedRatio_7 : decode cX0_earnedRatio 7 = .ok (.istore 4, 2) := by decide +kernel
theorem dX0_earnedRatio_9 : decode cX0_earnedRatio 9 = .ok (.iload 4, 2) := by decide +kernel
theorem dX0_earnedRatio_11 : decode cX0_earnedRatio 11 = .ok (.aload_n 0, 1) := by decide +kernel
theorem dX0_earnedRatio_12 : decode cX0_earnedRatio 12 = .ok (.getfield 11, 3) := by decide +kernel
theorem dX0_earnedRatio_15 : decode cX0_earnedRatio 15 = .ok (.arraylength, 1) := by decide +kernel
theorem dX0_earnedRatio_16 : decode cX0_earnedRatio 16 = .ok (.if_icmp .ge 59, 3) := by decide +kernel
theorem dX0_earnedRatio_19 : decode cX0_earnedRatio 19 = .ok (.aload_n 0, 1) := by decide +kernel
theorem dX0_earnedRatio_20 : decode cX0_earnedRatio 20 = .ok (.getfield 11, 3) := by decide +kernel
theorem dX0_earnedRatio_23 : decode cX0_earnedRatio 23 = .ok (.iload 4, 2) := by decide +kernel
theorem dX0_earnedRatio_25 : decode cX0_earnedRatio 25 = .ok (.aaload, 1) := by decide +kernel
theorem dX0_earnedRatio_26 : decode cX0_earnedRatio 26 = .ok (.invokevirtual 107, 3) := by decide +kernel
theorem dX0_earnedRatio_29 : decode cX0_earnedRatio 29 = .ok (.ifCond .eq 40, 3) := by decide +kernel
theorem dX0_earnedRatio_32 : decode cX0_earnedRatio 32 = .ok (.aload_n 0, 1) := by decide +kernel
theorem dX0_earnedRatio_33 : decode cX0_earnedRatio 33 = .ok (.getfield 11, 3) := by decide +kernel
theorem dX0_earnedRatio_36 : decode cX0_earnedRatio 36 = .ok (.iload 4, 2) := by decide +kernel
theorem dX0_earnedRatio_38 : decode cX0_earnedRatio 38 = .ok (.aaload, 1) := by decide +kernel
theorem dX0_earnedRatio_39 : decode cX0_earnedRatio 39 = .ok (.getfield 194, 3) := by decide +kernel
theorem dX0_earnedRatio_42 : decode cX0_earnedRatio 42 = .ok (.istore 5, 2) := by decide +kernel
theorem dX0_earnedRatio_44 : decode cX0_earnedRatio 44 = .ok (.iload_n 1, 1) := by decide +kernel
theorem dX0_earnedRatio_45 : decode cX0_earnedRatio 45 = .ok (.ifCond .eq 12, 3) := by decide +kernel
theorem dX0_earnedRatio_48 : decode cX0_earnedRatio 48 = .ok (.iload_n 2, 1) := by decide +kernel
theorem dX0_earnedRatio_49 : decode cX0_earnedRatio 49 = .ok (.iload 5, 2) := by decide +kernel
theorem dX0_earnedRatio_51 : decode cX0_earnedRatio 51 = .ok (.invokestatic 197, 3) := by decide +kernel
theorem dX0_earnedRatio_54 : decode cX0_earnedRatio 54 = .ok (.goto 5, 3) := by decide +kernel
theorem dX0_earnedRatio_57 : decode cX0_earnedRatio 57 = .ok (.iload 5, 2) := by decide +kernel
theorem dX0_earnedRatio_59 : decode cX0_earnedRatio 59 = .ok (.istore_n 2, 1) := by decide +kernel
theorem dX0_earnedRatio_60 : decode cX0_earnedRatio 60 = .ok (.iload_n 3, 1) := by decide +kernel
theorem dX0_earnedRatio_61 : decode cX0_earnedRatio 61 = .ok (.iload 5, 2) := by decide +kernel
theorem dX0_earnedRatio_63 : decode cX0_earnedRatio 63 = .ok (.invokestatic 202, 3) := by decide +kernel
theorem dX0_earnedRatio_66 : decode cX0_earnedRatio 66 = .ok (.istore_n 3, 1) := by decide +kernel
theorem dX0_earnedRatio_67 : decode cX0_earnedRatio 67 = .ok (.iconst 1, 1) := by decide +kernel
theorem dX0_earnedRatio_68 : decode cX0_earnedRatio 68 = .ok (.istore_n 1, 1) := by decide +kernel
theorem dX0_earnedRatio_69 : decode cX0_earnedRatio 69 = .ok (.iinc 4 1, 3) := by decide +kernel
theorem dX0_earnedRatio_72 : decode cX0_earnedRatio 72 = .ok (.goto (-63), 3) := by decide +kernel
theorem dX0_earnedRatio_75 : decode cX0_earnedRatio 75 = .ok (.iload_n 3, 1) := by decide +kernel
theorem dX0_earnedRatio_76 : decode cX0_earnedRatio 76 = .ok (.ifCond .le 11, 3) := by decide +kernel
theorem dX0_earnedRatio_79 : decode cX0_earnedRatio 79 = .ok (.iload_n 2, 1) := by decide +kernel
theorem dX0_earnedRatio_80 : decode cX0_earnedRatio 80 = .ok (.i2d, 1) := by decide +kernel
theorem dX0_earnedRatio_81 : decode cX0_earnedRatio 81 = .ok (.iload_n 3, 1) := by decide +kernel
theorem dX0_earnedRatio_82 : decode cX0_earnedRatio 82 = .ok (.i2d, 1) := by decide +kernel
theorem dX0_earnedRatio_83 : decode cX0_earnedRatio 83 = .ok (.ddiv, 1) := by decide +kernel
theorem dX0_earnedRatio_84 : decode cX0_earnedRatio 84 = .ok (.goto 4, 3) := by decide +kernel
theorem dX0_earnedRatio_87 : decode cX0_earnedRatio 87 = .ok (.dconst 1, 1) := by decide +kernel
theorem dX0_earnedRatio_88 : decode cX0_earnedRatio 88 = .ok (.dreturn, 1) := by decide +kernel
theorem dX1_init_0 : decode cX1_init 0 = .ok (.aload_n 0, 1) := by decide +kernel
theorem dX1_init_1 : decode cX1_init 1 = .ok (.invokespecial 3, 3) := by decide +kernel
theorem dX1_init_4 : decode cX1_init 4 = .ok (.aload_n 0, 1) := by decide +kernel
theorem dX1_init_5 : decode cX1_init 5 = .ok (.bipush 6, 2) := by decide +kernel
theorem dX1_init_7 : decode cX1_init 7 = .ok (.newarray .int, 2) := by decide +kernel
theorem dX1_init_9 : decode cX1_init 9 = .ok (.putfield 9, 3) := by decide +kernel
theorem dX1_init_12 : decode cX1_init 12 = .ok (.return_, 1) := by decide +kernel
theorem dX1_become_0 : decode cX1_become 0 = .ok (.aload_n 0, 1) := by decide +kernel
theorem dX1_become_1 : decode cX1_become 1 = .ok (.iload_n 1, 1) := by decide +kernel
theorem dX1_become_2 : decode cX1_become 2 = .ok (.putfield 15, 3) := by decide +kernel
theorem dX1_become_5 : decode cX1_become 5 = .ok (.aload_n 0, 1) := by decide +kernel
theorem dX1_become_6 : decode cX1_become 6 = .ok (.iload_n 2, 1) := by decide +kernel
theorem dX1_become_7 : decode cX1_become 7 = .ok (.putfield 19, 3) := by decide +kernel
theorem dX1_become_10 : decode cX1_become 10 = .ok (.aload_n 0, 1) := by decide +kernel
theorem dX1_become_11 : decode cX1_become 11 = .ok (.iload_n 3, 1) := by decide +kernel
theorem dX1_become_12 : decode cX1_become 12 = .ok (.putfield 22, 3) := by decide +kernel
theorem dX1_become_15 : decode cX1_become 15 = .ok (.aload_n 0, 1) := by decide +kernel
theorem dX1_become_16 : decode cX1_become 16 = .ok (.iload 4, 2) := by decide +kernel
theorem dX1_become_18 : decode cX1_become 18 = .ok (.putfield 25, 3) := by decide +kernel
theorem dX1_become_21 : decode cX1_become 21 = .ok (.aload_n 0, 1) := by decide +kernel
theorem dX1_become_22 : decode cX1_become 22 = .ok (.iload 5, 2) := by decide +kernel
theorem dX1_become_24 : decode cX1_become 24 = .ok (.putfield 28, 3) := by decide +kernel
theorem dX1_become_27 : decode cX1_become 27 = .ok (.aload_n 0, 1) := by decide +kernel
theorem dX1_become_28 : decode cX1_become 28 = .ok (.iload 6, 2) := by decide +kernel
theorem dX1_become_30 : decode cX1_become 30 = .ok (.putfield 31, 3) := by decide +kernel
theorem dX1_become_33 : decode cX1_become 33 = .ok (.aload_n 0, 1) := by decide +kernel
theorem dX1_become_34 : decode cX1_become 34 = .ok (.iconst 0, 1) := by decide +kernel
theorem dX1_become_35 : decode cX1_become 35 = .ok (.putfield 34, 3) := by decide +kernel
theorem dX1_become_38 : decode cX1_become 38 = .ok (.iconst 0, 1) := by decide +kernel
theorem dX1_become_39 : decode cX1_become 39 = .ok (.istore 7, 2) := by decide +kernel
theorem dX1_become_41 : decode cX1_become 41 = .ok (.iload 7, 2) := by decide +kernel
theorem dX1_become_43 : decode cX1_become 43 = .ok (.aload_n 0, 1) := by decide +kernel
theorem dX1_become_44 : decode cX1_become 44 = .ok (.getfield 9, 3) := by decide +kernel
theorem dX1_become_47 : decode cX1_become 47 = .ok (.arraylength, 1) := by decide +kernel
theorem dX1_become_48 : decode cX1_become 48 = .ok (.if_icmp .ge 17, 3) := by decide +kernel
theorem dX1_become_51 : decode cX1_become 51 = .ok (.aload_n 0, 1) := by decide +kernel
theorem dX1_become_52 : decode cX1_become 52 = .ok (.getfield 9, 3) := by decide +kernel
theorem dX1_become_55 : decode cX1_become 55 = .ok (.iload 7, 2) := by decide +kernel
theorem dX1_become_57 : decode cX1_become 57 = .ok (.iconst 0, 1) := by decide +kernel
theorem dX1_become_58 : decode cX1_become 58 = .ok (.iastore, 1) := by decide +kernel
theorem dX1_become_59 : decode cX1_become 59 = .ok (.iinc 7 1, 3) := by decide +kernel
theorem dX1_become_62 : decode cX1_become 62 = .ok (.goto (-21), 3) := by decide +kernel
theorem dX1_become_65 : decode cX1_become 65 = .ok (.return_, 1) := by decide +kernel
theorem dX1_gramsEach_0 : decode cX1_gramsEach 0 = .ok (.aload_n 0, 1) := by decide +kernel
theorem dX1_gramsEach_1 : decode cX1_gramsEach 1 = .ok (.getfield 22, 3) := by decide +kernel
theorem dX1_gramsEach_4 : decode cX1_gramsEach 4 = .ok (.bipush 9, 2) := by decide +kernel
theorem dX1_gramsEach_6 : decode cX1_gramsEach 6 = .ok (.iadd, 1) := by decide +kernel
theorem dX1_gramsEach_7 : decode cX1_gramsEach 7 = .ok (.bipush 10, 2) := by decide +kernel
theorem dX1_gramsEach_9 : decode cX1_gramsEach 9 = .ok (.idiv, 1) := by decide +kernel
theorem dX1_gramsEach_10 : decode cX1_gramsEach 10 = .ok (.ireturn, 1) := by decide +kernel
theorem dX1_isDone_0 : decode cX1_isDone 0 = .ok (.aload_n 0, 1) := by decide +kernel
theorem dX1_isDone_1 : decode cX1_isDone 1 = .ok (.getfield 34, 3) := by decide +kernel
theorem dX1_isDone_4 : decode cX1_isDone 4 = .ok (.aload_n 0, 1) := by decide +kernel
theorem dX1_isDone_5 : decode cX1_isDone 5 = .ok (.getfield 25, 3) := by decide +kernel
theorem dX1_isDone_8 : decode cX1_isDone 8 = .ok (.if_icmp .lt 7, 3) := by decide +kernel
theorem dX1_isDone_11 : decode cX1_isDone 11 = .ok (.iconst 1, 1) := by decide +kernel
theorem dX1_isDone_12 : decode cX1_isDone 12 = .ok (.goto 4, 3) := by decide +kernel
theorem dX1_isDone_15 : decode cX1_isDone 15 = .ok (.iconst 0, 1) := by decide +kernel
theorem dX1_isDone_16 : decode cX1_isDone 16 = .ok (.ireturn, 1) := by decide +kernel
theorem dX1_addGood_0 : decode cX1_addGood 0 = .ok (.iload_n 1, 1) := by decide +kernel
theorem dX1_addGood_1 : decode cX1_addGood 1 = .ok (.ifCond .lt 32, 3) := by decide +kernel
theorem dX1_addGood_4 : decode cX1_addGood 4 = .ok (.iload_n 1, 1) := by decide +kernel
theorem dX1_addGood_5 : decode cX1_addGood 5 = .ok (.aload_n 0, 1) := by decide +kernel
theorem dX1_addGood_6 : decode cX1_addGood 6 = .ok (.getfield 9, 3) := by decide +kernel
theorem dX1_addGood_9 : decode cX1_addGood 9 = .ok (.arraylength, 1) := by decide +kernel
theorem dX1_addGood_10 : decode cX1_addGood 10 = .ok (.if_icmp .ge 23, 3) := by decide +kernel
theorem dX1_addGood_13 : decode cX1_addGood 13 = .ok (.aload_n 0, 1) := by decide +kernel
theorem dX1_addGood_14 : decode cX1_addGood 14 = .ok (.getfield 9, 3) := by decide +kernel
theorem dX1_addGood_17 : decode cX1_addGood 17 = .ok (.iload_n 1, 1) := by decide +kernel
theorem dX1_addGood_18 : decode cX1_addGood 18 = .ok (.dup2, 1) := by decide +kernel
theorem dX1_addGood_19 : decode cX1_addGood 19 = .ok (.iaload, 1) := by decide +kernel
theorem dX1_addGood_20 : decode cX1_addGood 20 = .ok (.iconst 1, 1) := by decide +kernel
theorem dX1_addGood_21 : decode cX1_addGood 21 = .ok (.iadd, 1) := by decide +kernel
theorem dX1_addGood_22 : decode cX1_addGood 22 = .ok (.iastore, 1) := by decide +kernel
theorem dX1_addGood_23 : decode cX1_addGood 23 = .ok (.aload_n 0, 1) := by decide +kernel
theorem dX1_addGood_24 : decode cX1_addGood 24 = .ok (.dup, 1) := by decide +kernel
theorem dX1_addGood_25 : decode cX1_addGood 25 = .ok (.getfield 34, 3) := by decide +kernel
theorem dX1_addGood_28 : decode cX1_addGood 28 = .ok (.iconst 1, 1) := by decide +kernel
theorem dX1_addGood_29 : decode cX1_addGood 29 = .ok (.iadd, 1) := by decide +kernel
theorem dX1_addGood_30 : decode cX1_addGood 30 = .ok (.putfield 34, 3) := by decide +kernel
theorem dX1_addGood_33 : decode cX1_addGood 33 = .ok (.return_, 1) := by decide +kernel
theorem dX1_lateHours_0 : decode cX1_lateHours 0 = .ok (.iload_n 1, 1) := by decide +kernel
theorem dX1_lateHours_1 : decode cX1_lateHours 1 = .ok (.aload_n 0, 1) := by decide +kernel
theorem dX1_lateHours_2 : decode cX1_lateHours 2 = .ok (.getfield 31, 3) := by decide +kernel
theorem dX1_lateHours_5 : decode cX1_lateHours 5 = .ok (.if_icmp .le 12, 3) := by decide +kernel
theorem dX1_lateHours_8 : decode cX1_lateHours 8 = .ok (.iload_n 1, 1) := by decide +kernel
theorem dX1_lateHours_9 : decode cX1_lateHours 9 = .ok (.aload_n 0, 1) := by decide +kernel
theorem dX1_lateHours_10 : decode cX1_lateHours 10 = .ok (.getfield 31, 3) := by decide +kernel
theorem dX1_lateHours_13 : decode cX1_lateHours 13 = .ok (.isub, 1) := by decide +kernel
theorem dX1_lateHours_14 : decode cX1_lateHours 14 = .ok (.goto 4, 3) := by decide +kernel
theorem dX1_lateHours_17 : decode cX1_lateHours 17 = .ok (.iconst 0, 1) := by decide +kernel
theorem dX1_lateHours_18 : decode cX1_lateHours 18 = .ok (.ireturn, 1) := by decide +kernel
theorem dX1_payFor_0 : decode cX1_payFor 0 = .ok (.aload_n 0, 1) := by decide +kernel
theorem dX1_payFor_1 : decode cX1_payFor 1 = .ok (.getfield 28, 3) := by decide +kernel
theorem dX1_payFor_4 : decode cX1_payFor 4 = .ok (.aload_n 0, 1) := by decide +kernel
theorem dX1_payFor_5 : decode cX1_payFor 5 = .ok (.getfield 34, 3) := by decide +kernel
theorem dX1_payFor_8 : decode cX1_payFor 8 = .ok (.imul, 1) := by decide +kernel
theorem dX1_payFor_9 : decode cX1_payFor 9 = .ok (.istore_n 3, 1) := by decide +kernel
theorem dX1_payFor_10 : decode cX1_payFor 10 = .ok (.iload_n 3, 1) := by decide +kernel
theorem dX1_payFor_11 : decode cX1_payFor 11 = .ok (.i2l, 1) := by decide +kernel
theorem dX1_payFor_12 : decode cX1_payFor 12 = .ok (.iload_n 1, 1) := by decide +kernel
theorem dX1_payFor_13 : decode cX1_payFor 13 = .ok (.i2l, 1) := by decide +kernel
theorem dX1_payFor_14 : decode cX1_payFor 14 = .ok (.lmul, 1) := by decide +kernel
theorem dX1_payFor_15 : decode cX1_payFor 15 = .ok (.iload_n 2, 1) := by decide +kernel
theorem dX1_payFor_16 : decode cX1_payFor 16 = .ok (.i2l, 1) := by decide +kernel
theorem dX1_payFor_17 : decode cX1_payFor 17 = .ok (.lmul, 1) := by decide +kernel
theorem dX1_payFor_18 : decode cX1_payFor 18 = .ok (.ldc2_w 37, 3) := by decide +kernel
theorem dX1_payFor_21 : decode cX1_payFor 21 = .ok (.ldiv, 1) := by decide +kernel
theorem dX1_payFor_22 : decode cX1_payFor 22 = .ok (.lstore 4, 2) := by decide +kernel
theorem dX1_payFor_24 : decode cX1_payFor 24 = .ok (.lload 4, 2) := by decide +kernel
theorem dX1_payFor_26 : decode cX1_payFor 26 = .ok (.iload_n 3, 1) := by decide +kernel
theorem dX1_payFor_27 : decode cX1_payFor 27 = .ok (.i2l, 1) := by decide +kernel
theorem dX1_payFor_28 : decode cX1_payFor 28 = .ok (.lcmp, 1) := by decide +kernel
theorem dX1_payFor_29 : decode cX1_payFor 29 = .ok (.ifCond .ge 11, 3) := by decide +kernel
theorem dX1_payFor_32 : decode cX1_payFor 32 = .ok (.iload_n 3, 1) := by decide +kernel
theorem dX1_payFor_33 : decode cX1_payFor 33 = .ok (.lload 4, 2) := by decide +kernel
theorem dX1_payFor_35 : decode cX1_payFor 35 = .ok (.l2i, 1) := by decide +kernel
theorem dX1_payFor_36 : decode cX1_payFor 36 = .ok (.isub, 1) := by decide +kernel
theorem dX1_payFor_37 : decode cX1_payFor 37 = .ok (.goto 4, 3) := by decide +kernel
theorem dX1_payFor_40 : decode cX1_payFor 40 = .ok (.iconst 0, 1) := by decide +kernel
theorem dX1_payFor_41 : decode cX1_payFor 41 = .ok (.ireturn, 1) := by decide +kernel
theorem dX1_divide_0 : decode cX1_divide 0 = .ok (.iload_n 1, 1) := by decide +kernel
theorem dX1_divide_1 : decode cX1_divide 1 = .ok (.istore_n 3, 1) := by decide +kernel
theorem dX1_divide_2 : decode cX1_divide 2 = .ok (.iconst 0, 1) := by decide +kernel
theorem dX1_divide_3 : decode cX1_divide 3 = .ok (.istore 4, 2) := by decide +kernel
theorem dX1_divide_5 : decode cX1_divide 5 = .ok (.iconst 0, 1) := by decide +kernel
theorem dX1_divide_6 : decode cX1_divide 6 = .ok (.istore 5, 2) := by decide +kernel
theorem dX1_divide_8 : decode cX1_divide 8 = .ok (.iload 5, 2) := by decide +kernel
theorem dX1_divide_10 : decode cX1_divide 10 = .ok (.aload_n 0, 1) := by decide +kernel
theorem dX1_divide_11 : decode cX1_divide 11 = .ok (.getfield 9, 3) := by decide +kernel
theorem dX1_divide_14 : decode cX1_divide 14 = .ok (.arraylength, 1) := by decide +kernel
theorem dX1_divide_15 : decode cX1_divide 15 = .ok (.if_icmp .ge 73, 3) := by decide +kernel
theorem dX1_divide_18 : decode cX1_divide 18 = .ok (.iload 5, 2) := by decide +kernel
theorem dX1_divide_20 : decode cX1_divide 20 = .ok (.aload_n 2, 1) := by decide +kernel
theorem dX1_divide_21 : decode cX1_divide 21 = .ok (.arraylength, 1) := by decide +kernel
theorem dX1_divide_22 : decode cX1_divide 22 = .ok (.if_icmp .ge 66, 3) := by decide +kernel
theorem dX1_divide_25 : decode cX1_divide 25 = .ok (.aload_n 2, 1) := by decide +kernel
theorem dX1_divide_26 : decode cX1_divide 26 = .ok (.iload 5, 2) := by decide +kernel
theorem dX1_divide_28 : decode cX1_divide 28 = .ok (.aload_n 0, 1) := by decide +kernel
theorem dX1_divide_29 : decode cX1_divide 29 = .ok (.getfield 34, 3) := by decide +kernel
theorem dX1_divide_32 : decode cX1_divide 32 = .ok (.ifCond .le 20, 3) := by decide +kernel
theorem dX1_divide_35 : decode cX1_divide 35 = .ok (.iload_n 1, 1) := by decide +kernel
theorem dX1_divide_36 : decode cX1_divide 36 = .ok (.aload_n 0, 1) := by decide +kernel
theorem dX1_divide_37 : decode cX1_divide 37 = .ok (.getfield 9, 3) := by decide +kernel
theorem dX1_divide_40 : decode cX1_divide 40 = .ok (.iload 5, 2) := by decide +kernel
theorem dX1_divide_42 : decode cX1_divide 42 = .ok (.iaload, 1) := by decide +kernel
theorem dX1_divide_43 : decode cX1_divide 43 = .ok (.imul, 1) := by decide +kernel
theorem dX1_divide_44 : decode cX1_divide 44 = .ok (.aload_n 0, 1) := by decide +kernel
theorem dX1_divide_45 : decode cX1_divide 45 = .ok (.getfield 34, 3) := by decide +kernel
theorem dX1_divide_48 : decode cX1_divide 48 = .ok (.idiv, 1) := by decide +kernel
theorem dX1_divide_49 : decode cX1_divide 49 = .ok (.goto 4, 3) := by decide +kernel
theorem dX1_divide_52 : decode cX1_divide 52 = .ok (.iconst 0, 1) := by decide +kernel
theorem dX1_divide_53 : decode cX1_divide 53 = .ok (.iastore, 1) := by decide +kernel
theorem dX1_divide_54 : decode cX1_divide 54 = .ok (.iload_n 3, 1) := by decide +kernel
theorem dX1_divide_55 : decode cX1_divide 55 = .ok (.aload_n 2, 1) := by decide +kernel
theorem dX1_divide_56 : decode cX1_divide 56 = .ok (.iload 5, 2) := by decide +kernel
theorem dX1_divide_58 : decode cX1_divide 58 = .ok (.iaload, 1) := by decide +kernel
theorem dX1_divide_59 : decode cX1_divide 59 = .ok (.isub, 1) := by decide +kernel
theorem dX1_divide_60 : decode cX1_divide 60 = .ok (.istore_n 3, 1) := by decide +kernel
theorem dX1_divide_61 : decode cX1_divide 61 = .ok (.aload_n 0, 1) := by decide +kernel
theorem dX1_divide_62 : decode cX1_divide 62 = .ok (.getfield 9, 3) := by decide +kernel
theorem dX1_divide_65 : decode cX1_divide 65 = .ok (.iload 5, 2) := by decide +kernel
theorem dX1_divide_67 : decode cX1_divide 67 = .ok (.iaload, 1) := by decide +kernel
theorem dX1_divide_68 : decode cX1_divide 68 = .ok (.aload_n 0, 1) := by decide +kernel
theorem dX1_divide_69 : decode cX1_divide 69 = .ok (.getfield 9, 3) := by decide +kernel
theorem dX1_divide_72 : decode cX1_divide 72 = .ok (.iload 4, 2) := by decide +kernel
theorem dX1_divide_74 : decode cX1_divide 74 = .ok (.iaload, 1) := by decide +kernel
theorem dX1_divide_75 : decode cX1_divide 75 = .ok (.if_icmp .le 7, 3) := by decide +kernel
theorem dX1_divide_78 : decode cX1_divide 78 = .ok (.iload 5, 2) := by decide +kernel
theorem dX1_divide_80 : decode cX1_divide 80 = .ok (.istore 4, 2) := by decide +kernel
theorem dX1_divide_82 : decode cX1_divide 82 = .ok (.iinc 5 1, 3) := by decide +kernel
theorem dX1_divide_85 : decode cX1_divide 85 = .ok (.goto (-77), 3) := by decide +kernel
theorem dX1_divide_88 : decode cX1_divide 88 = .ok (.iload 4, 2) := by decide +kernel
theorem dX1_divide_90 : decode cX1_divide 90 = .ok (.aload_n 2, 1) := by decide +kernel
theorem dX1_divide_91 : decode cX1_divide 91 = .ok (.arraylength, 1) := by decide +kernel
theorem dX1_divide_92 : decode cX1_divide 92 = .ok (.if_icmp .ge 11, 3) := by decide +kernel
theorem dX1_divide_95 : decode cX1_divide 95 = .ok (.aload_n 2, 1) := by decide +kernel
theorem dX1_divide_96 : decode cX1_divide 96 = .ok (.iload 4, 2) := by decide +kernel
theorem dX1_divide_98 : decode cX1_divide 98 = .ok (.dup2, 1) := by decide +kernel
theorem dX1_divide_99 : decode cX1_divide 99 = .ok (.iaload, 1) := by decide +kernel
theorem dX1_divide_100 : decode cX1_divide 100 = .ok (.iload_n 3, 1) := by decide +kernel
theorem dX1_divide_101 : decode cX1_divide 101 = .ok (.iadd, 1) := by decide +kernel
theorem dX1_divide_102 : decode cX1_divide 102 = .ok (.iastore, 1) := by decide +kernel
theorem dX1_divide_103 : decode cX1_divide 103 = .ok (.return_, 1) := by decide +kernel
theorem dX1_copyFrom_0 : decode cX1_copyFrom 0 = .ok (.iconst 0, 1) := by decide +kernel
theorem dX1_copyFrom_1 : decode cX1_copyFrom 1 = .ok (.istore_n 2, 1) := by decide +kernel
theorem dX1_copyFrom_2 : decode cX1_copyFrom 2 = .ok (.iload_n 2, 1) := by decide +kernel
theorem dX1_copyFrom_3 : decode cX1_copyFrom 3 = .ok (.aload_n 0, 1) := by decide +kernel
theorem dX1_copyFrom_4 : decode cX1_copyFrom 4 = .ok (.getfield 9, 3) := by decide +kernel
theorem dX1_copyFrom_7 : decode cX1_copyFrom 7 = .ok (.arraylength, 1) := by decide +kernel
theorem dX1_copyFrom_8 : decode cX1_copyFrom 8 = .ok (.if_icmp .ge 30, 3) := by decide +kernel
theorem dX1_copyFrom_11 : decode cX1_copyFrom 11 = .ok (.iload_n 2, 1) := by decide +kernel
theorem dX1_copyFrom_12 : decode cX1_copyFrom 12 = .ok (.aload_n 1, 1) := by decide +kernel
theorem dX1_copyFrom_13 : decode cX1_copyFrom 13 = .ok (.getfield 9, 3) := by decide +kernel
theorem dX1_copyFrom_16 : decode cX1_copyFrom 16 = .ok (.arraylength, 1) := by decide +kernel
theorem dX1_copyFrom_17 : decode cX1_copyFrom 17 = .ok (.if_icmp .ge 21, 3) := by decide +kernel
theorem dX1_copyFrom_20 : decode cX1_copyFrom 20 = .ok (.aload_n 0, 1) := by decide +kernel
theorem dX1_copyFrom_21 : decode cX1_copyFrom 21 = .ok (.getfield 9, 3) := by decide +kernel
theorem dX1_copyFrom_24 : decode cX1_copyFrom 24 = .ok (.iload_n 2, 1) := by decide +kernel
theorem dX1_copyFrom_25 : decode cX1_copyFrom 25 = .ok (.aload_n 1, 1) := by decide +kernel
theorem dX1_copyFrom_26 : decode cX1_copyFrom 26 = .ok (.getfield 9, 3) := by decide +kernel
theorem dX1_copyFrom_29 : decode cX1_copyFrom 29 = .ok (.iload_n 2, 1) := by decide +kernel
theorem dX1_copyFrom_30 : decode cX1_copyFrom 30 = .ok (.iaload, 1) := by decide +kernel
theorem dX1_copyFrom_31 : decode cX1_copyFrom 31 = .ok (.iastore, 1) := by decide +kernel
theorem dX1_copyFrom_32 : decode cX1_copyFrom 32 = .ok (.iinc 2 1, 3) := by decide +kernel
theorem dX1_copyFrom_35 : decode cX1_copyFrom 35 = .ok (.goto (-33), 3) := by decide +kernel
theorem dX1_copyFrom_38 : decode cX1_copyFrom 38 = .ok (.aload_n 0, 1) := by decide +kernel
theorem dX1_copyFrom_39 : decode cX1_copyFrom 39 = .ok (.aload_n 1, 1) := by decide +kernel
theorem dX1_copyFrom_40 : decode cX1_copyFrom 40 = .ok (.getfield 15, 3) := by decide +kernel
theorem dX1_copyFrom_43 : decode cX1_copyFrom 43 = .ok (.putfield 15, 3) := by decide +kernel
theorem dX1_copyFrom_46 : decode cX1_copyFrom 46 = .ok (.aload_n 0, 1) := by decide +kernel
theorem dX1_copyFrom_47 : decode cX1_copyFrom 47 = .ok (.aload_n 1, 1) := by decide +kernel
theorem dX1_copyFrom_48 : decode cX1_copyFrom 48 = .ok (.getfield 19, 3) := by decide +kernel
theorem dX1_copyFrom_51 : decode cX1_copyFrom 51 = .ok (.putfield 19, 3) := by decide +kernel
theorem dX1_copyFrom_54 : decode cX1_copyFrom 54 = .ok (.aload_n 0, 1) := by decide +kernel
theorem dX1_copyFrom_55 : decode cX1_copyFrom 55 = .ok (.aload_n 1, 1) := by decide +kernel
theorem dX1_copyFrom_56 : decode cX1_copyFrom 56 = .ok (.getfield 22, 3) := by decide +kernel
theorem dX1_copyFrom_59 : decode cX1_copyFrom 59 = .ok (.putfield 22, 3) := by decide +kernel
theorem dX1_copyFrom_62 : decode cX1_copyFrom 62 = .ok (.aload_n 0, 1) := by decide +kernel
theorem dX1_copyFrom_63 : decode cX1_copyFrom 63 = .ok (.aload_n 1, 1) := by decide +kernel
theorem dX1_copyFrom_64 : decode cX1_copyFrom 64 = .ok (.getfield 25, 3) := by decide +kernel
theorem dX1_copyFrom_67 : decode cX1_copyFrom 67 = .ok (.putfield 25, 3) := by decide +kernel
theorem dX1_copyFrom_70 : decode cX1_copyFrom 70 = .ok (.aload_n 0, 1) := by decide +kernel
theorem dX1_copyFrom_71 : decode cX1_copyFrom 71 = .ok (.aload_n 1, 1) := by decide +kernel
theorem dX1_copyFrom_72 : decode cX1_copyFrom 72 = .ok (.getfield 28, 3) := by decide +kernel
theorem dX1_copyFrom_75 : decode cX1_copyFrom 75 = .ok (.putfield 28, 3) := by decide +kernel
theorem dX1_copyFrom_78 : decode cX1_copyFrom 78 = .ok (.aload_n 0, 1) := by decide +kernel
theorem dX1_copyFrom_79 : decode cX1_copyFrom 79 = .ok (.aload_n 1, 1) := by decide +kernel
theorem dX1_copyFrom_80 : decode cX1_copyFrom 80 = .ok (.getfield 31, 3) := by decide +kernel
theorem dX1_copyFrom_83 : decode cX1_copyFrom 83 = .ok (.putfield 31, 3) := by decide +kernel
theorem dX1_copyFrom_86 : decode cX1_copyFrom 86 = .ok (.aload_n 0, 1) := by decide +kernel
theorem dX1_copyFrom_87 : decode cX1_copyFrom 87 = .ok (.aload_n 1, 1) := by decide +kernel
theorem dX1_copyFrom_88 : decode cX1_copyFrom 88 = .ok (.getfield 34, 3) := by decide +kernel
theorem dX1_copyFrom_91 : decode cX1_copyFrom 91 = .ok (.putfield 34, 3) := by decide +kernel
theorem dX1_copyFrom_94 : decode cX1_copyFrom 94 = .ok (.return_, 1) := by decide +kernel
theorem dX2_init_0 : decode cX2_init 0 = .ok (.aload_n 0, 1) := by decide +kernel
theorem dX2_init_1 : decode cX2_init 1 = .ok (.invokespecial 3, 3) := by decide +kernel
theorem dX2_init_4 : decode cX2_init 4 = .ok (.aload_n 0, 1) := by decide +kernel
theorem dX2_init_5 : decode cX2_init 5 = .ok (.iconst 5, 1) := by decide +kernel
theorem dX2_init_6 : decode cX2_init 6 = .ok (.newarray .int, 2) := by decide +kernel
theorem dX2_init_8 : decode cX2_init 8 = .ok (.putfield 9, 3) := by decide +kernel
theorem dX2_init_11 : decode cX2_init 11 = .ok (.return_, 1) := by decide +kernel
theorem dX2_restart_0 : decode cX2_restart 0 = .ok (.aload_n 0, 1) := by decide +kernel
theorem dX2_restart_1 : decode cX2_restart 1 = .ok (.iconst 0, 1) := by decide +kernel
theorem dX2_restart_2 : decode cX2_restart 2 = .ok (.putfield 15, 3) := by decide +kernel
theorem dX2_restart_5 : decode cX2_restart 5 = .ok (.aload_n 0, 1) := by decide +kernel
theorem dX2_restart_6 : decode cX2_restart 6 = .ok (.invokevirtual 19, 3) := by decide +kernel
theorem dX2_restart_9 : decode cX2_restart 9 = .ok (.return_, 1) := by decide +kernel
theorem dX2_startPart_0 : decode cX2_startPart 0 = .ok (.aload_n 0, 1) := by decide +kernel
theorem dX2_startPart_1 : decode cX2_startPart 1 = .ok (.dup, 1) := by decide +kernel
theorem dX2_startPart_2 : decode cX2_startPart 2 = .ok (.getfield 15, 3) := by decide +kernel
theorem dX2_startPart_5 : decode cX2_startPart 5 = .ok (.iconst 1, 1) := by decide +kernel
theorem dX2_startPart_6 : decode cX2_startPart 6 = .ok (.iadd, 1) := by decide +kernel
theorem dX2_startPart_7 : decode cX2_startPart 7 = .ok (.putfield 15, 3) := by decide +kernel
theorem dX2_startPart_10 : decode cX2_startPart 10 = .ok (.aload_n 0, 1) := by decide +kernel
theorem dX2_startPart_11 : decode cX2_startPart 11 = .ok (.iconst 0, 1) := by decide +kernel
theorem dX2_startPart_12 : decode cX2_startPart 12 = .ok (.putfield 22, 3) := by decide +kernel
theorem dX2_startPart_15 : decode cX2_startPart 15 = .ok (.aload_n 0, 1) := by decide +kernel
theorem dX2_startPart_16 : decode cX2_startPart 16 = .ok (.iconst 0, 1) := by decide +kernel
theorem dX2_startPart_17 : decode cX2_startPart 17 = .ok (.putfield 25, 3) := by decide +kernel
theorem dX2_startPart_20 : decode cX2_startPart 20 = .ok (.aload_n 0, 1) := by decide +kernel
theorem dX2_startPart_21 : decode cX2_startPart 21 = .ok (.getfield 9, 3) := by decide +kernel
theorem dX2_startPart_24 : decode cX2_startPart 24 = .ok (.iconst 3, 1) := by decide +kernel
theorem dX2_startPart_25 : decode cX2_startPart 25 = .ok (.bipush 10, 2) := by decide +kernel
theorem dX2_startPart_27 : decode cX2_startPart 27 = .ok (.iastore, 1) := by decide +kernel
theorem dX2_startPart_28 : decode cX2_startPart 28 = .ok (.aload_n 0, 1) := by decide +kernel
theorem dX2_startPart_29 : decode cX2_startPart 29 = .ok (.getfield 9, 3) := by decide +kernel
theorem dX2_startPart_32 : decode cX2_startPart 32 = .ok (.iconst 4, 1) := by decide +kernel
theorem dX2_startPart_33 : decode cX2_startPart 33 = .ok (.sipush 9999, 3) := by decide +kernel
theorem dX2_startPart_36 : decode cX2_startPart 36 = .ok (.iastore, 1) := by decide +kernel
theorem dX2_startPart_37 : decode cX2_startPart 37 = .ok (.return_, 1) := by decide +kernel
theorem dX2_accepts_0 : decode cX2_accepts 0 = .ok (.iload_n 1, 1) := by decide +kernel
theorem dX2_accepts_1 : decode cX2_accepts 1 = .ok (.bipush 48, 2) := by decide +kernel
theorem dX2_accepts_3 : decode cX2_accepts 3 = .ok (.if_icmp .lt 18, 3) := by decide +kernel
theorem dX2_accepts_6 : decode cX2_accepts 6 = .ok (.iload_n 1, 1) := by decide +kernel
theorem dX2_accepts_7 : decode cX2_accepts 7 = .ok (.bipush 57, 2) := by decide +kernel
theorem dX2_accepts_9 : decode cX2_accepts 9 = .ok (.if_icmp .gt 12, 3) := by decide +kernel
theorem dX2_accepts_12 : decode cX2_accepts 12 = .ok (.aload_n 0, 1) := by decide +kernel
theorem dX2_accepts_13 : decode cX2_accepts 13 = .ok (.iload_n 1, 1) := by decide +kernel
theorem dX2_accepts_14 : decode cX2_accepts 14 = .ok (.bipush 48, 2) := by decide +kernel
theorem dX2_accepts_16 : decode cX2_accepts 16 = .ok (.isub, 1) := by decide +kernel
theorem dX2_accepts_17 : decode cX2_accepts 17 = .ok (.invokevirtual 28, 3) := by decide +kernel
theorem dX2_accepts_20 : decode cX2_accepts 20 = .ok (.ireturn, 1) := by decide +kernel
theorem dX2_accepts_21 : decode cX2_accepts 21 = .ok (.aload_n 0, 1) := by decide +kernel
theorem dX2_accepts_22 : decode cX2_accepts 22 = .ok (.invokevirtual 32, 3) := by decide +kernel
theorem dX2_accepts_25 : decode cX2_accepts 25 = .ok (.ifCond .eq 15, 3) := by decide +kernel
theorem dX2_accepts_28 : decode cX2_accepts 28 = .ok (.aload_n 0, 1) := by decide +kernel
theorem dX2_accepts_29 : decode cX2_accepts 29 = .ok (.iload_n 1, 1) := by decide +kernel
theorem dX2_accepts_30 : decode cX2_accepts 30 = .ok (.invokevirtual 36, 3) := by decide +kernel
theorem dX2_accepts_33 : decode cX2_accepts 33 = .ok (.ifCond .eq 7, 3) := by decide +kernel
theorem dX2_accepts_36 : decode cX2_accepts 36 = .ok (.iconst 1, 1) := by decide +kernel
theorem dX2_accepts_37 : decode cX2_accepts 37 = .ok (.goto 4, 3) := by decide +kernel
theorem dX2_accepts_40 : decode cX2_accepts 40 = .ok (.iconst 0, 1) := by decide +kernel
theorem dX2_accepts_41 : decode cX2_accepts 41 = .ok (.ireturn, 1) := by decide +kernel
theorem dX2_isComplete_0 : decode cX2_isComplete 0 = .ok (.aload_n 0, 1) := by decide +kernel
theorem dX2_isComplete_1 : decode cX2_isComplete 1 = .ok (.getfield 22, 3) := by decide +kernel
theorem dX2_isComplete_4 : decode cX2_isComplete 4 = .ok (.iconst 2, 1) := by decide +kernel
theorem dX2_isComplete_5 : decode cX2_isComplete 5 = .ok (.if_icmp .lt 14, 3) := by decide +kernel
theorem dX2_isComplete_8 : decode cX2_isComplete 8 = .ok (.aload_n 0, 1) := by decide +kernel
theorem dX2_isComplete_9 : decode cX2_isComplete 9 = .ok (.invokevirtual 32, 3) := by decide +kernel
theorem dX2_isComplete_12 : decode cX2_isComplete 12 = .ok (.ifCond .eq 7, 3) := by decide +kernel
theorem dX2_isComplete_15 : decode cX2_isComplete 15 = .ok (.iconst 1, 1) := by decide +kernel
theorem dX2_isComplete_16 : decode cX2_isComplete 16 = .ok (.goto 4, 3) := by decide +kernel
theorem dX2_isComplete_19 : decode cX2_isComplete 19 = .ok (.iconst 0, 1) := by decide +kernel
theorem dX2_isComplete_20 : decode cX2_isComplete 20 = .ok (.ireturn, 1) := by decide +kernel
theorem dX2_isField_0 : decode cX2_isField 0 = .ok (.aload_n 0, 1) := by decide +kernel
theorem dX2_isField_1 : decode cX2_isField 1 = .ok (.getfield 22, 3) := by decide +kernel
theorem dX2_isField_4 : decode cX2_isField 4 = .ok (.iconst 0, 1) := by decide +kernel
theorem dX2_isField_5 : decode cX2_isField 5 = .ok (.iconst 4, 1) := by decide +kernel
theorem dX2_isField_6 : decode cX2_isField 6 = .ok (.invokestatic 39, 3) := by decide +kernel
theorem dX2_isField_9 : decode cX2_isField 9 = .ok (.ireturn, 1) := by decide +kernel
theorem dX2_numberStands_0 : decode cX2_numberStands 0 = .ok (.aload_n 0, 1) := by decide +kernel
theorem dX2_numberStands_1 : decode cX2_numberStands 1 = .ok (.invokevirtual 43, 3) := by decide +kernel
theorem dX2_numberStands_4 : decode cX2_numberStands 4 = .ok (.ifCond .eq 45, 3) := by decide +kernel
theorem dX2_numberStands_7 : decode cX2_numberStands 7 = .ok (.aload_n 0, 1) := by decide +kernel
theorem dX2_numberStands_8 : decode cX2_numberStands 8 = .ok (.getfield 25, 3) := by decide +kernel
theorem dX2_numberStands_11 : decode cX2_numberStands 11 = .ok (.ifCond .le 38, 3) := by decide +kernel
theorem dX2_numberStands_14 : decode cX2_numberStands 14 = .ok (.aload_n 0, 1) := by decide +kernel
theorem dX2_numberStands_15 : decode cX2_numberStands 15 = .ok (.getfield 9, 3) := by decide +kernel
theorem dX2_numberStands_18 : decode cX2_numberStands 18 = .ok (.aload_n 0, 1) := by decide +kernel
theorem dX2_numberStands_19 : decode cX2_numberStands 19 = .ok (.getfield 22, 3) := by decide +kernel
theorem dX2_numberStands_22 : decode cX2_numberStands 22 = .ok (.iaload, 1) := by decide +kernel
theorem dX2_numberStands_23 : decode cX2_numberStands 23 = .ok (.getstatic 46, 3) := by decide +kernel
theorem dX2_numberStands_26 : decode cX2_numberStands 26 = .ok (.aload_n 0, 1) := by decide +kernel
theorem dX2_numberStands_27 : decode cX2_numberStands 27 = .ok (.getfield 22, 3) := by decide +kernel
theorem dX2_numberStands_30 : decode cX2_numberStands 30 = .ok (.iaload, 1) := by decide +kernel
theorem dX2_numberStands_31 : decode cX2_numberStands 31 = .ok (.getstatic 49, 3) := by decide +kernel
theorem dX2_numberStands_34 : decode cX2_numberStands 34 = .ok (.aload_n 0, 1) := by decide +kernel
theorem dX2_numberStands_35 : decode cX2_numberStands 35 = .ok (.getfield 22, 3) := by decide +kernel
theorem dX2_numberStands_38 : decode cX2_numberStands 38 = .ok (.iaload, 1) := by decide +kernel
theorem dX2_numberStands_39 : decode cX2_numberStands 39 = .ok (.invokestatic 39, 3) := by decide +kernel
theorem dX2_numberStands_42 : decode cX2_numberStands 42 = .ok (.ifCond .eq 7, 3) := by decide +kernel
theorem dX2_numberStands_45 : decode cX2_numberStands 45 = .ok (.iconst 1, 1) := by decide +kernel
theorem dX2_numberStands_46 : decode cX2_numberStands 46 = .ok (.goto 4, 3) := by decide +kernel
theorem dX2_numberStands_49 : decode cX2_numberStands 49 = .ok (.iconst 0, 1) := by decide +kernel
theorem dX2_numberStands_50 : decode cX2_numberStands 50 = .ok (.ireturn, 1) := by decide +kernel
theorem dX2_acceptsDigit_0 : decode cX2_acceptsDigit 0 = .ok (.aload_n 0, 1) := by decide +kernel
theorem dX2_acceptsDigit_1 : decode cX2_acceptsDigit 1 = .ok (.invokevirtual 43, 3) := by decide +kernel
theorem dX2_acceptsDigit_4 : decode cX2_acceptsDigit 4 = .ok (.ifCond .eq 22, 3) := by decide +kernel
theorem dX2_acceptsDigit_7 : decode cX2_acceptsDigit 7 = .ok (.aload_n 0, 1) := by decide +kernel
theorem dX2_acceptsDigit_8 : decode cX2_acceptsDigit 8 = .ok (.getfield 25, 3) := by decide +kernel
theorem dX2_acceptsDigit_11 : decode cX2_acceptsDigit 11 = .ok (.ifCond .le 17, 3) := by decide +kernel
theorem dX2_acceptsDigit_14 : decode cX2_acceptsDigit 14 = .ok (.aload_n 0, 1) := by decide +kernel
theorem dX2_acceptsDigit_15 : decode cX2_acceptsDigit 15 = .ok (.getfield 9, 3) := by decide +kernel
theorem dX2_acceptsDigit_18 : decode cX2_acceptsDigit 18 = .ok (.aload_n 0, 1) := by decide +kernel
theorem dX2_acceptsDigit_19 : decode cX2_acceptsDigit 19 = .ok (.getfield 22, 3) := by decide +kernel
theorem dX2_acceptsDigit_22 : decode cX2_acceptsDigit 22 = .ok (.iaload, 1) := by decide +kernel
theorem dX2_acceptsDigit_23 : decode cX2_acceptsDigit 23 = .ok (.ifCond .ne 5, 3) := by decide +kernel
theorem dX2_acceptsDigit_26 : decode cX2_acceptsDigit 26 = .ok (.iconst 0, 1) := by decide +kernel
theorem dX2_acceptsDigit_27 : decode cX2_acceptsDigit 27 = .ok (.ireturn, 1) := by decide +kernel
theorem dX2_acceptsDigit_28 : decode cX2_acceptsDigit 28 = .ok (.aload_n 0, 1) := by decide +kernel
theorem dX2_acceptsDigit_29 : decode cX2_acceptsDigit 29 = .ok (.getfield 25, 3) := by decide +kernel
theorem dX2_acceptsDigit_32 : decode cX2_acceptsDigit 32 = .ok (.ifCond .ne 7, 3) := by decide +kernel
theorem dX2_acceptsDigit_35 : decode cX2_acceptsDigit 35 = .ok (.iload_n 1, 1) := by decide +kernel
theorem dX2_acceptsDigit_36 : decode cX2_acceptsDigit 36 = .ok (.goto 17, 3) := by decide +kernel
theorem dX2_acceptsDigit_39 : decode cX2_acceptsDigit 39 = .ok (.aload_n 0, 1) := by decide +kernel
theorem dX2_acceptsDigit_40 : decode cX2_acceptsDigit 40 = .ok (.getfield 9, 3) := by decide +kernel
theorem dX2_acceptsDigit_43 : decode cX2_acceptsDigit 43 = .ok (.aload_n 0, 1) := by decide +kernel
theorem dX2_acceptsDigit_44 : decode cX2_acceptsDigit 44 = .ok (.getfield 22, 3) := by decide +kernel
theorem dX2_acceptsDigit_47 : decode cX2_acceptsDigit 47 = .ok (.iaload, 1) := by decide +kernel
theorem dX2_acceptsDigit_48 : decode cX2_acceptsDigit 48 = .ok (.bipush 10, 2) := by decide +kernel
theorem dX2_acceptsDigit_50 : decode cX2_acceptsDigit 50 = .ok (.imul, 1) := by decide +kernel
theorem dX2_acceptsDigit_51 : decode cX2_acceptsDigit 51 = .ok (.iload_n 1, 1) := by decide +kernel
theorem dX2_acceptsDigit_52 : decode cX2_acceptsDigit 52 = .ok (.iadd, 1) := by decide +kernel
theorem dX2_acceptsDigit_53 : decode cX2_acceptsDigit 53 = .ok (.istore_n 2, 1) := by decide +kernel
theorem dX2_acceptsDigit_54 : decode cX2_acceptsDigit 54 = .ok (.iload_n 2, 1) := by decide +kernel
theorem dX2_acceptsDigit_55 : decode cX2_acceptsDigit 55 = .ok (.getstatic 46, 3) := by decide +kernel
theorem dX2_acceptsDigit_58 : decode cX2_acceptsDigit 58 = .ok (.aload_n 0, 1) := by decide +kernel
theorem dX2_acceptsDigit_59 : decode cX2_acceptsDigit 59 = .ok (.getfield 22, 3) := by decide +kernel
theorem dX2_acceptsDigit_62 : decode cX2_acceptsDigit 62 = .ok (.iaload, 1) := by decide +kernel
theorem dX2_acceptsDigit_63 : decode cX2_acceptsDigit 63 = .ok (.getstatic 49, 3) := by decide +kernel
theorem dX2_acceptsDigit_66 : decode cX2_acceptsDigit 66 = .ok (.aload_n 0, 1) := by decide +kernel
theorem dX2_acceptsDigit_67 : decode cX2_acceptsDigit 67 = .ok (.getfield 22, 3) := by decide +kernel
theorem dX2_acceptsDigit_70 : decode cX2_acceptsDigit 70 = .ok (.iaload, 1) := by decide +kernel
theorem dX2_acceptsDigit_71 : decode cX2_acceptsDigit 71 = .ok (.invokestatic 52, 3) := by decide +kernel
theorem dX2_acceptsDigit_74 : decode cX2_acceptsDigit 74 = .ok (.ifCond .ne 5, 3) := by decide +kernel
theorem dX2_acceptsDigit_77 : decode cX2_acceptsDigit 77 = .ok (.iconst 0, 1) := by decide +kernel
theorem dX2_acceptsDigit_78 : decode cX2_acceptsDigit 78 = .ok (.ireturn, 1) := by decide +kernel
theorem dX2_acceptsDigit_79 : decode cX2_acceptsDigit 79 = .ok (.aload_n 0, 1) := by decide +kernel
theorem dX2_acceptsDigit_80 : decode cX2_acceptsDigit 80 = .ok (.getfield 9, 3) := by decide +kernel
theorem dX2_acceptsDigit_83 : decode cX2_acceptsDigit 83 = .ok (.aload_n 0, 1) := by decide +kernel
theorem dX2_acceptsDigit_84 : decode cX2_acceptsDigit 84 = .ok (.getfield 22, 3) := by decide +kernel
theorem dX2_acceptsDigit_87 : decode cX2_acceptsDigit 87 = .ok (.iload_n 2, 1) := by decide +kernel
theorem dX2_acceptsDigit_88 : decode cX2_acceptsDigit 88 = .ok (.iastore, 1) := by decide +kernel
theorem dX2_acceptsDigit_89 : decode cX2_acceptsDigit 89 = .ok (.aload_n 0, 1) := by decide +kernel
theorem dX2_acceptsDigit_90 : decode cX2_acceptsDigit 90 = .ok (.dup, 1) := by decide +kernel
theorem dX2_acceptsDigit_91 : decode cX2_acceptsDigit 91 = .ok (.getfield 25, 3) := by decide +kernel
theorem dX2_acceptsDigit_94 : decode cX2_acceptsDigit 94 = .ok (.iconst 1, 1) := by decide +kernel
theorem dX2_acceptsDigit_95 : decode cX2_acceptsDigit 95 = .ok (.iadd, 1) := by decide +kernel
theorem dX2_acceptsDigit_96 : decode cX2_acceptsDigit 96 = .ok (.putfield 25, 3) := by decide +kernel
theorem dX2_acceptsDigit_99 : decode cX2_acceptsDigit 99 = .ok (.iconst 1, 1) := by decide +kernel
theorem dX2_acceptsDigit_100 : decode cX2_acceptsDigit 100 = .ok (.ireturn, 1) := by decide +kernel
theorem dX2_canBecome_0 : decode cX2_canBecome 0 = .ok (.iload_n 0, 1) := by decide +kernel
theorem dX2_canBecome_1 : decode cX2_canBecome 1 = .ok (.ifCond .ne 13, 3) := by decide +kernel
theorem dX2_canBecome_4 : decode cX2_canBecome 4 = .ok (.iload_n 1, 1) := by decide +kernel
theorem dX2_canBecome_5 : decode cX2_canBecome 5 = .ok (.ifCond .ne 7, 3) := by decide +kernel
theorem dX2_canBecome_8 : decode cX2_canBecome 8 = .ok (.iconst 1, 1) := by decide +kernel
theorem dX2_canBecome_9 : decode cX2_canBecome 9 = .ok (.goto 4, 3) := by decide +kernel
theorem dX2_canBecome_12 : decode cX2_canBecome 12 = .ok (.iconst 0, 1) := by decide +kernel
theorem dX2_canBecome_13 : decode cX2_canBecome 13 = .ok (.ireturn, 1) := by decide +kernel
theorem dX2_canBecome_14 : decode cX2_canBecome 14 = .ok (.iload_n 0, 1) := by decide +kernel
theorem dX2_canBecome_15 : decode cX2_canBecome 15 = .ok (.istore_n 3, 1) := by decide +kernel
theorem dX2_canBecome_16 : decode cX2_canBecome 16 = .ok (.iload_n 0, 1) := by decide +kernel
theorem dX2_canBecome_17 : decode cX2_canBecome 17 = .ok (.istore 4, 2) := by decide +kernel
theorem dX2_canBecome_19 : decode cX2_canBecome 19 = .ok (.iconst 0, 1) := by decide +kernel
theorem dX2_canBecome_20 : decode cX2_canBecome 20 = .ok (.istore 5, 2) := by decide +kernel
theorem dX2_canBecome_22 : decode cX2_canBecome 22 = .ok (.iload 5, 2) := by decide +kernel
theorem dX2_canBecome_24 : decode cX2_canBecome 24 = .ok (.iconst 5, 1) := by decide +kernel
theorem dX2_canBecome_25 : decode cX2_canBecome 25 = .ok (.if_icmp .ge 37, 3) := by decide +kernel
theorem dX2_canBecome_28 : decode cX2_canBecome 28 = .ok (.iload_n 3, 1) := by decide +kernel
theorem dX2_canBecome_29 : decode cX2_canBecome 29 = .ok (.iload_n 2, 1) := by decide +kernel
theorem dX2_canBecome_30 : decode cX2_canBecome 30 = .ok (.if_icmp .gt 32, 3) := by decide +kernel
theorem dX2_canBecome_33 : decode cX2_canBecome 33 = .ok (.iload 4, 2) := by decide +kernel
theorem dX2_canBecome_35 : decode cX2_canBecome 35 = .ok (.iload_n 1, 1) := by decide +kernel
theorem dX2_canBecome_36 : decode cX2_canBecome 36 = .ok (.if_icmp .lt 5, 3) := by decide +kernel
theorem dX2_canBecome_39 : decode cX2_canBecome 39 = .ok (.iconst 1, 1) := by decide +kernel
theorem dX2_canBecome_40 : decode cX2_canBecome 40 = .ok (.ireturn, 1) := by decide +kernel
theorem dX2_canBecome_41 : decode cX2_canBecome 41 = .ok (.iload_n 3, 1) := by decide +kernel
theorem dX2_canBecome_42 : decode cX2_canBecome 42 = .ok (.bipush 10, 2) := by decide +kernel
theorem dX2_canBecome_44 : decode cX2_canBecome 44 = .ok (.imul, 1) := by decide +kernel
theorem dX2_canBecome_45 : decode cX2_canBecome 45 = .ok (.istore_n 3, 1) := by decide +kernel
theorem dX2_canBecome_46 : decode cX2_canBecome 46 = .ok (.iload 4, 2) := by decide +kernel
theorem dX2_canBecome_48 : decode cX2_canBecome 48 = .ok (.bipush 10, 2) := by decide +kernel
theorem dX2_canBecome_50 : decode cX2_canBecome 50 = .ok (.imul, 1) := by decide +kernel
theorem dX2_canBecome_51 : decode cX2_canBecome 51 = .ok (.bipush 9, 2) := by decide +kernel
theorem dX2_canBecome_53 : decode cX2_canBecome 53 = .ok (.iadd, 1) := by decide +kernel
theorem dX2_canBecome_54 : decode cX2_canBecome 54 = .ok (.istore 4, 2) := by decide +kernel
theorem dX2_canBecome_56 : decode cX2_canBecome 56 = .ok (.iinc 5 1, 3) := by decide +kernel
theorem dX2_canBecome_59 : decode cX2_canBecome 59 = .ok (.goto (-37), 3) := by decide +kernel
theorem dX2_canBecome_62 : decode cX2_canBecome 62 = .ok (.iconst 0, 1) := by decide +kernel
theorem dX2_canBecome_63 : decode cX2_canBecome 63 = .ok (.ireturn, 1) := by decide +kernel
theorem dX2_acceptsMark_0 : decode cX2_acceptsMark 0 = .ok (.aload_n 0, 1) := by decide +kernel
theorem dX2_acceptsMark_1 : decode cX2_acceptsMark 1 = .ok (.iload_n 1, 1) := by decide +kernel
theorem dX2_acceptsMark_2 : decode cX2_acceptsMark 2 = .ok (.invokevirtual 55, 3) := by decide +kernel
theorem dX2_acceptsMark_5 : decode cX2_acceptsMark 5 = .ok (.istore_n 2, 1) := by decide +kernel
theorem dX2_acceptsMark_6 : decode cX2_acceptsMark 6 = .ok (.iload_n 2, 1) := by decide +kernel
theorem dX2_acceptsMark_7 : decode cX2_acceptsMark 7 = .ok (.iconst (-1), 1) := by decide +kernel
theorem dX2_acceptsMark_8 : decode cX2_acceptsMark 8 = .ok (.if_icmp .ne 5, 3) := by decide +kernel
theorem dX2_acceptsMark_11 : decode cX2_acceptsMark 11 = .ok (.iconst 0, 1) := by decide +kernel
theorem dX2_acceptsMark_12 : decode cX2_acceptsMark 12 = .ok (.ireturn, 1) := by decide +kernel
theorem dX2_acceptsMark_13 : decode cX2_acceptsMark 13 = .ok (.iload_n 2, 1) := by decide +kernel
theorem dX2_acceptsMark_14 : decode cX2_acceptsMark 14 = .ok (.ifCond .ne 7, 3) := by decide +kernel
theorem dX2_acceptsMark_17 : decode cX2_acceptsMark 17 = .ok (.aload_n 0, 1) := by decide +kernel
theorem dX2_acceptsMark_18 : decode cX2_acceptsMark 18 = .ok (.invokevirtual 19, 3) := by decide +kernel
theorem dX2_acceptsMark_21 : decode cX2_acceptsMark 21 = .ok (.aload_n 0, 1) := by decide +kernel
theorem dX2_acceptsMark_22 : decode cX2_acceptsMark 22 = .ok (.iload_n 2, 1) := by decide +kernel
theorem dX2_acceptsMark_23 : decode cX2_acceptsMark 23 = .ok (.putfield 22, 3) := by decide +kernel
theorem dX2_acceptsMark_26 : decode cX2_acceptsMark 26 = .ok (.aload_n 0, 1) := by decide +kernel
theorem dX2_acceptsMark_27 : decode cX2_acceptsMark 27 = .ok (.iconst 0, 1) := by decide +kernel
theorem dX2_acceptsMark_28 : decode cX2_acceptsMark 28 = .ok (.putfield 25, 3) := by decide +kernel
theorem dX2_acceptsMark_31 : decode cX2_acceptsMark 31 = .ok (.iconst 1, 1) := by decide +kernel
theorem dX2_acceptsMark_32 : decode cX2_acceptsMark 32 = .ok (.ireturn, 1) := by decide +kernel
theorem dX2_fieldBehind_0 : decode cX2_fieldBehind 0 = .ok (.iload_n 1, 1) := by decide +kernel
theorem dX2_fieldBehind_1 : decode cX2_fieldBehind 1 = .ok (.lookupswitch 128 #[(36, 78), (59, 114), (64, 92), (99, 64), (120, 51)], 51) := by decide +kernel
theorem dX2_fieldBehind_52 : decode cX2_fieldBehind 52 = .ok (.aload_n 0, 1) := by decide +kernel
theorem dX2_fieldBehind_53 : decode cX2_fieldBehind 53 = .ok (.getfield 22, 3) := by decide +kernel
theorem dX2_fieldBehind_56 : decode cX2_fieldBehind 56 = .ok (.ifCond .ne 7, 3) := by decide +kernel
theorem dX2_fieldBehind_59 : decode cX2_fieldBehind 59 = .ok (.iconst 1, 1) := by decide +kernel
theorem dX2_fieldBehind_60 : decode cX2_fieldBehind 60 = .ok (.goto 4, 3) := by decide +kernel
theorem dX2_fieldBehind_63 : decode cX2_fieldBehind 63 = .ok (.iconst (-1), 1) := by decide +kernel
theorem dX2_fieldBehind_64 : decode cX2_fieldBehind 64 = .ok (.ireturn, 1) := by decide +kernel
theorem dX2_fieldBehind_65 : decode cX2_fieldBehind 65 = .ok (.aload_n 0, 1) := by decide +kernel
theorem dX2_fieldBehind_66 : decode cX2_fieldBehind 66 = .ok (.getfield 22, 3) := by decide +kernel
theorem dX2_fieldBehind_69 : decode cX2_fieldBehind 69 = .ok (.iconst 1, 1) := by decide +kernel
theorem dX2_fieldBehind_70 : decode cX2_fieldBehind 70 = .ok (.if_icmp .ne 7, 3) := by decide +kernel
theorem dX2_fieldBehind_73 : decode cX2_fieldBehind 73 = .ok (.iconst 2, 1) := by decide +kernel
theorem dX2_fieldBehind_74 : decode cX2_fieldBehind 74 = .ok (.goto 4, 3) := by decide +kernel
theorem dX2_fieldBehind_77 : decode cX2_fieldBehind 77 = .ok (.iconst (-1), 1) := by decide +kernel
theorem dX2_fieldBehind_78 : decode cX2_fieldBehind 78 = .ok (.ireturn, 1) := by decide +kernel
theorem dX2_fieldBehind_79 : decode cX2_fieldBehind 79 = .ok (.aload_n 0, 1) := by decide +kernel
theorem dX2_fieldBehind_80 : decode cX2_fieldBehind 80 = .ok (.getfield 22, 3) := by decide +kernel
theorem dX2_fieldBehind_83 : decode cX2_fieldBehind 83 = .ok (.iconst 2, 1) := by decide +kernel
theorem dX2_fieldBehind_84 : decode cX2_fieldBehind 84 = .ok (.if_icmp .ne 7, 3) := by decide +kernel
theorem dX2_fieldBehind_87 : decode cX2_fieldBehind 87 = .ok (.iconst 3, 1) := by decide +kernel
theorem dX2_fieldBehind_88 : decode cX2_fieldBehind 88 = .ok (.goto 4, 3) := by decide +kernel
theorem dX2_fieldBehind_91 : decode cX2_fieldBehind 91 = .ok (.iconst (-1), 1) := by decide +kernel
theorem dX2_fieldBehind_92 : decode cX2_fieldBehind 92 = .ok (.ireturn, 1) := by decide +kernel
theorem dX2_fieldBehind_93 : decode cX2_fieldBehind 93 = .ok (.aload_n 0, 1) := by decide +kernel
theorem dX2_fieldBehind_94 : decode cX2_fieldBehind 94 = .ok (.getfield 22, 3) := by decide +kernel
theorem dX2_fieldBehind_97 : decode cX2_fieldBehind 97 = .ok (.iconst 2, 1) := by decide +kernel
theorem dX2_fieldBehind_98 : decode cX2_fieldBehind 98 = .ok (.if_icmp .eq 11, 3) := by decide +kernel
theorem dX2_fieldBehind_101 : decode cX2_fieldBehind 101 = .ok (.aload_n 0, 1) := by decide +kernel
theorem dX2_fieldBehind_102 : decode cX2_fieldBehind 102 = .ok (.getfield 22, 3) := by decide +kernel
theorem dX2_fieldBehind_105 : decode cX2_fieldBehind 105 = .ok (.iconst 3, 1) := by decide +kernel
theorem dX2_fieldBehind_106 : decode cX2_fieldBehind 106 = .ok (.if_icmp .ne 7, 3) := by decide +kernel
theorem dX2_fieldBehind_109 : decode cX2_fieldBehind 109 = .ok (.iconst 4, 1) := by decide +kernel
theorem dX2_fieldBehind_110 : decode cX2_fieldBehind 110 = .ok (.goto 4, 3) := by decide +kernel
theorem dX2_fieldBehind_113 : decode cX2_fieldBehind 113 = .ok (.iconst (-1), 1) := by decide +kernel
theorem dX2_fieldBehind_114 : decode cX2_fieldBehind 114 = .ok (.ireturn, 1) := by decide +kernel
theorem dX2_fieldBehind_115 : decode cX2_fieldBehind 115 = .ok (.aload_n 0, 1) := by decide +kernel
theorem dX2_fieldBehind_116 : decode cX2_fieldBehind 116 = .ok (.getfield 22, 3) := by decide +kernel
theorem dX2_fieldBehind_119 : decode cX2_fieldBehind 119 = .ok (.iconst 2, 1) := by decide +kernel
theorem dX2_fieldBehind_120 : decode cX2_fieldBehind 120 = .ok (.if_icmp .lt 7, 3) := by decide +kernel
theorem dX2_fieldBehind_123 : decode cX2_fieldBehind 123 = .ok (.iconst 0, 1) := by decide +kernel
theorem dX2_fieldBehind_124 : decode cX2_fieldBehind 124 = .ok (.goto 4, 3) := by decide +kernel
theorem dX2_fieldBehind_127 : decode cX2_fieldBehind 127 = .ok (.iconst (-1), 1) := by decide +kernel
theorem dX2_fieldBehind_128 : decode cX2_fieldBehind 128 = .ok (.ireturn, 1) := by decide +kernel
theorem dX2_fieldBehind_129 : decode cX2_fieldBehind 129 = .ok (.iconst (-1), 1) := by decide +kernel
theorem dX2_fieldBehind_130 : decode cX2_fieldBehind 130 = .ok (.ireturn, 1) := by decide +kernel
theorem dX3_init_0 : decode cX3_init 0 = .ok (.aload_n 0, 1) := by decide +kernel
theorem dX3_init_1 : decode cX3_init 1 = .ok (.invokespecial 3, 3) := by decide +kernel
theorem dX3_init_4 : decode cX3_init 4 = .ok (.aload_n 0, 1) := by decide +kernel
theorem dX3_init_5 : decode cX3_init 5 = .ok (.new 9, 3) := by decide +kernel
theorem dX3_init_8 : decode cX3_init 8 = .ok (.dup, 1) := by decide +kernel
theorem dX3_init_9 : decode cX3_init 9 = .ok (.invokespecial 11, 3) := by decide +kernel
theorem dX3_init_12 : decode cX3_init 12 = .ok (.putfield 12, 3) := by decide +kernel
theorem dX3_init_15 : decode cX3_init 15 = .ok (.return_, 1) := by decide +kernel
theorem dX3_hasLoom_0 : decode cX3_hasLoom 0 = .ok (.aload_n 0, 1) := by decide +kernel
theorem dX3_hasLoom_1 : decode cX3_hasLoom 1 = .ok (.getfield 18, 3) := by decide +kernel
theorem dX3_hasLoom_4 : decode cX3_hasLoom 4 = .ok (.ifCond .le 7, 3) := by decide +kernel
theorem dX3_hasLoom_7 : decode cX3_hasLoom 7 = .ok (.iconst 1, 1) := by decide +kernel
theorem dX3_hasLoom_8 : decode cX3_hasLoom 8 = .ok (.goto 4, 3) := by decide +kernel
theorem dX3_hasLoom_11 : decode cX3_hasLoom 11 = .ok (.iconst 0, 1) := by decide +kernel
theorem dX3_hasLoom_12 : decode cX3_hasLoom 12 = .ok (.ireturn, 1) := by decide +kernel
theorem dX3_borrow_0 : decode cX3_borrow 0 = .ok (.aload_n 0, 1) := by decide +kernel
theorem dX3_borrow_1 : decode cX3_borrow 1 = .ok (.dup, 1) := by decide +kernel
theorem dX3_borrow_2 : decode cX3_borrow 2 = .ok (.getfield 22, 3) := by decide +kernel
theorem dX3_borrow_5 : decode cX3_borrow 5 = .ok (.iload_n 1, 1) := by decide +kernel
theorem dX3_borrow_6 : decode cX3_borrow 6 = .ok (.iadd, 1) := by decide +kernel
theorem dX3_borrow_7 : decode cX3_borrow 7 = .ok (.putfield 22, 3) := by decide +kernel
theorem dX3_borrow_10 : decode cX3_borrow 10 = .ok (.aload_n 0, 1) := by decide +kernel
theorem dX3_borrow_11 : decode cX3_borrow 11 = .ok (.dup, 1) := by decide +kernel
theorem dX3_borrow_12 : decode cX3_borrow 12 = .ok (.getfield 25, 3) := by decide +kernel
theorem dX3_borrow_15 : decode cX3_borrow 15 = .ok (.iload_n 1, 1) := by decide +kernel
theorem dX3_borrow_16 : decode cX3_borrow 16 = .ok (.iadd, 1) := by decide +kernel
theorem dX3_borrow_17 : decode cX3_borrow 17 = .ok (.putfield 25, 3) := by decide +kernel
theorem dX3_borrow_20 : decode cX3_borrow 20 = .ok (.return_, 1) := by decide +kernel
theorem dX3_weavesGood_0 : decode cX3_weavesGood 0 = .ok (.aload_n 0, 1) := by decide +kernel
theorem dX3_weavesGood_1 : decode cX3_weavesGood 1 = .ok (.dup, 1) := by decide +kernel
theorem dX3_weavesGood_2 : decode cX3_weavesGood 2 = .ok (.getfield 28, 3) := by decide +kernel
theorem dX3_weavesGood_5 : decode cX3_weavesGood 5 = .ok (.iconst 1, 1) := by decide +kernel
theorem dX3_weavesGood_6 : decode cX3_weavesGood 6 = .ok (.iadd, 1) := by decide +kernel
theorem dX3_weavesGood_7 : decode cX3_weavesGood 7 = .ok (.putfield 28, 3) := by decide +kernel
theorem dX3_weavesGood_10 : decode cX3_weavesGood 10 = .ok (.aload_n 0, 1) := by decide +kernel
theorem dX3_weavesGood_11 : decode cX3_weavesGood 11 = .ok (.getfield 31, 3) := by decide +kernel
theorem dX3_weavesGood_14 : decode cX3_weavesGood 14 = .ok (.ifCond .le 27, 3) := by decide +kernel
theorem dX3_weavesGood_17 : decode cX3_weavesGood 17 = .ok (.aload_n 0, 1) := by decide +kernel
theorem dX3_weavesGood_18 : decode cX3_weavesGood 18 = .ok (.getfield 28, 3) := by decide +kernel
theorem dX3_weavesGood_21 : decode cX3_weavesGood 21 = .ok (.aload_n 0, 1) := by decide +kernel
theorem dX3_weavesGood_22 : decode cX3_weavesGood 22 = .ok (.getfield 31, 3) := by decide +kernel
theorem dX3_weavesGood_25 : decode cX3_weavesGood 25 = .ok (.irem, 1) := by decide +kernel
theorem dX3_weavesGood_26 : decode cX3_weavesGood 26 = .ok (.ifCond .ne 15, 3) := by decide +kernel
theorem dX3_weavesGood_29 : decode cX3_weavesGood 29 = .ok (.aload_n 0, 1) := by decide +kernel
theorem dX3_weavesGood_30 : decode cX3_weavesGood 30 = .ok (.dup, 1) := by decide +kernel
theorem dX3_weavesGood_31 : decode cX3_weavesGood 31 = .ok (.getfield 34, 3) := by decide +kernel
theorem dX3_weavesGood_34 : decode cX3_weavesGood 34 = .ok (.iconst 1, 1) := by decide +kernel
theorem dX3_weavesGood_35 : decode cX3_weavesGood 35 = .ok (.iadd, 1) := by decide +kernel
theorem dX3_weavesGood_36 : decode cX3_weavesGood 36 = .ok (.putfield 34, 3) := by decide +kernel
theorem dX3_weavesGood_39 : decode cX3_weavesGood 39 = .ok (.iconst 0, 1) := by decide +kernel
theorem dX3_weavesGood_40 : decode cX3_weavesGood 40 = .ok (.ireturn, 1) := by decide +kernel
theorem dX3_weavesGood_41 : decode cX3_weavesGood 41 = .ok (.iconst 1, 1) := by decide +kernel
theorem dX3_weavesGood_42 : decode cX3_weavesGood 42 = .ok (.ireturn, 1) := by decide +kernel
theorem dX3_receive_0 : decode cX3_receive 0 = .ok (.iload_n 2, 1) := by decide +kernel
theorem dX3_receive_1 : decode cX3_receive 1 = .ok (.ifCond .le 16, 3) := by decide +kernel
theorem dX3_receive_4 : decode cX3_receive 4 = .ok (.aload_n 0, 1) := by decide +kernel
theorem dX3_receive_5 : decode cX3_receive 5 = .ok (.getfield 22, 3) := by decide +kernel
theorem dX3_receive_8 : decode cX3_receive 8 = .ok (.iload_n 1, 1) := by decide +kernel
theorem dX3_receive_9 : decode cX3_receive 9 = .ok (.iload_n 2, 1) := by decide +kernel
theorem dX3_receive_10 : decode cX3_receive 10 = .ok (.idiv, 1) := by decide +kernel
theorem dX3_receive_11 : decode cX3_receive 11 = .ok (.invokestatic 37, 3) := by decide +kernel
theorem dX3_receive_14 : decode cX3_receive 14 = .ok (.goto 7, 3) := by decide +kernel
theorem dX3_receive_17 : decode cX3_receive 17 = .ok (.aload_n 0, 1) := by decide +kernel
theorem dX3_receive_18 : decode cX3_receive 18 = .ok (.getfield 22, 3) := by decide +kernel
theorem dX3_receive_21 : decode cX3_receive 21 = .ok (.istore_n 3, 1) := by decide +kernel
theorem dX3_receive_22 : decode cX3_receive 22 = .ok (.aload_n 0, 1) := by decide +kernel
theorem dX3_receive_23 : decode cX3_receive 23 = .ok (.dup, 1) := by decide +kernel
theorem dX3_receive_24 : decode cX3_receive 24 = .ok (.getfield 22, 3) := by decide +kernel
theorem dX3_receive_27 : decode cX3_receive 27 = .ok (.iload_n 3, 1) := by decide +kernel
theorem dX3_receive_28 : decode cX3_receive 28 = .ok (.isub, 1) := by decide +kernel
theorem dX3_receive_29 : decode cX3_receive 29 = .ok (.putfield 22, 3) := by decide +kernel
theorem dX3_receive_32 : decode cX3_receive 32 = .ok (.aload_n 0, 1) := by decide +kernel
theorem dX3_receive_33 : decode cX3_receive 33 = .ok (.dup, 1) := by decide +kernel
theorem dX3_receive_34 : decode cX3_receive 34 = .ok (.getfield 43, 3) := by decide +kernel
theorem dX3_receive_37 : decode cX3_receive 37 = .ok (.iload_n 1, 1) := by decide +kernel
theorem dX3_receive_38 : decode cX3_receive 38 = .ok (.iload_n 3, 1) := by decide +kernel
theorem dX3_receive_39 : decode cX3_receive 39 = .ok (.iload_n 2, 1) := by decide +kernel
theorem dX3_receive_40 : decode cX3_receive 40 = .ok (.imul, 1) := by decide +kernel
theorem dX3_receive_41 : decode cX3_receive 41 = .ok (.isub, 1) := by decide +kernel
theorem dX3_receive_42 : decode cX3_receive 42 = .ok (.iadd, 1) := by decide +kernel
theorem dX3_receive_43 : decode cX3_receive 43 = .ok (.putfield 43, 3) := by decide +kernel
theorem dX3_receive_46 : decode cX3_receive 46 = .ok (.return_, 1) := by decide +kernel
theorem dX3_property_0 : decode cX3_property 0 = .ok (.iload_n 1, 1) := by decide +kernel
theorem dX3_property_1 : decode cX3_property 1 = .ok (.tableswitch 78 0 6 #[43, 48, 53, 58, 63, 68, 73], 43) := by decide +kernel
theorem dX3_property_44 : decode cX3_property 44 = .ok (.aload_n 0, 1) := by decide +kernel
theorem dX3_property_45 : decode cX3_property 45 = .ok (.getfield 18, 3) := by decide +kernel
theorem dX3_property_48 : decode cX3_property 48 = .ok (.ireturn, 1) := by decide +kernel
theorem dX3_property_49 : decode cX3_property 49 = .ok (.aload_n 0, 1) := by decide +kernel
theorem dX3_property_50 : decode cX3_property 50 = .ok (.getfield 46, 3) := by decide +kernel
theorem dX3_property_53 : decode cX3_property 53 = .ok (.ireturn, 1) := by decide +kernel
theorem dX3_property_54 : decode cX3_property 54 = .ok (.aload_n 0, 1) := by decide +kernel
theorem dX3_property_55 : decode cX3_property 55 = .ok (.getfield 31, 3) := by decide +kernel
theorem dX3_property_58 : decode cX3_property 58 = .ok (.ireturn, 1) := by decide +kernel
theorem dX3_property_59 : decode cX3_property 59 = .ok (.aload_n 0, 1) := by decide +kernel
theorem dX3_property_60 : decode cX3_property 60 = .ok (.getfield 22, 3) := by decide +kernel
theorem dX3_property_63 : decode cX3_property 63 = .ok (.ireturn, 1) := by decide +kernel
theorem dX3_property_64 : decode cX3_property 64 = .ok (.aload_n 0, 1) := by decide +kernel
theorem dX3_property_65 : decode cX3_property 65 = .ok (.getfield 43, 3) := by decide +kernel
theorem dX3_property_68 : decode cX3_property 68 = .ok (.ireturn, 1) := by decide +kernel
theorem dX3_property_69 : decode cX3_property 69 = .ok (.aload_n 0, 1) := by decide +kernel
theorem dX3_property_70 : decode cX3_property 70 = .ok (.getfield 28, 3) := by decide +kernel
theorem dX3_property_73 : decode cX3_property 73 = .ok (.ireturn, 1) := by decide +kernel
theorem dX3_property_74 : decode cX3_property 74 = .ok (.aload_n 0, 1) := by decide +kernel
theorem dX3_property_75 : decode cX3_property 75 = .ok (.getfield 34, 3) := by decide +kernel
theorem dX3_property_78 : decode cX3_property 78 = .ok (.ireturn, 1) := by decide +kernel
theorem dX3_property_79 : decode cX3_property 79 = .ok (.aload_n 0, 1) := by decide +kernel
theorem dX3_property_80 : decode cX3_property 80 = .ok (.getfield 25, 3) := by decide +kernel
theorem dX3_property_83 : decode cX3_property 83 = .ok (.ireturn, 1) := by decide +kernel
theorem dX3_copyFrom_0 : decode cX3_copyFrom 0 = .ok (.aload_n 0, 1) := by decide +kernel
theorem dX3_copyFrom_1 : decode cX3_copyFrom 1 = .ok (.getfield 12, 3) := by decide +kernel
theorem dX3_copyFrom_4 : decode cX3_copyFrom 4 = .ok (.aload_n 1, 1) := by decide +kernel
theorem dX3_copyFrom_5 : decode cX3_copyFrom 5 = .ok (.getfield 12, 3) := by decide +kernel
theorem dX3_copyFrom_8 : decode cX3_copyFrom 8 = .ok (.invokevirtual 49, 3) := by decide +kernel
theorem dX3_copyFrom_11 : decode cX3_copyFrom 11 = .ok (.aload_n 0, 1) := by decide +kernel
theorem dX3_copyFrom_12 : decode cX3_copyFrom 12 = .ok (.aload_n 1, 1) := by decide +kernel
theorem dX3_copyFrom_13 : decode cX3_copyFrom 13 = .ok (.getfield 18, 3) := by decide +kernel
theorem dX3_copyFrom_16 : decode cX3_copyFrom 16 = .ok (.putfield 18, 3) := by decide +kernel
theorem dX3_copyFrom_19 : decode cX3_copyFrom 19 = .ok (.aload_n 0, 1) := by decide +kernel
theorem dX3_copyFrom_20 : decode cX3_copyFrom 20 = .ok (.aload_n 1, 1) := by decide +kernel
theorem dX3_copyFrom_21 : decode cX3_copyFrom 21 = .ok (.getfield 46, 3) := by decide +kernel
theorem dX3_copyFrom_24 : decode cX3_copyFrom 24 = .ok (.putfield 46, 3) := by decide +kernel
theorem dX3_copyFrom_27 : decode cX3_copyFrom 27 = .ok (.aload_n 0, 1) := by decide +kernel
theorem dX3_copyFrom_28 : decode cX3_copyFrom 28 = .ok (.aload_n 1, 1) := by decide +kernel
theorem dX3_copyFrom_29 : decode cX3_copyFrom 29 = .ok (.getfield 31, 3) := by decide +kernel
theorem dX3_copyFrom_32 : decode cX3_copyFrom 32 = .ok (.putfield 31, 3) := by decide +kernel
theorem dX3_copyFrom_35 : decode cX3_copyFrom 35 = .ok (.aload_n 0, 1) := by decide +kernel
theorem dX3_copyFrom_36 : decode cX3_copyFrom 36 = .ok (.aload_n 1, 1) := by decide +kernel
theorem dX3_copyFrom_37 : decode cX3_copyFrom 37 = .ok (.getfield 22, 3) := by decide +kernel
theorem dX3_copyFrom_40 : decode cX3_copyFrom 40 = .ok (.putfield 22, 3) := by decide +kernel
theorem dX3_copyFrom_43 : decode cX3_copyFrom 43 = .ok (.aload_n 0, 1) := by decide +kernel
theorem dX3_copyFrom_44 : decode cX3_copyFrom 44 = .ok (.aload_n 1, 1) := by decide +kernel
theorem dX3_copyFrom_45 : decode cX3_copyFrom 45 = .ok (.getfield 43, 3) := by decide +kernel
theorem dX3_copyFrom_48 : decode cX3_copyFrom 48 = .ok (.putfield 43, 3) := by decide +kernel
theorem dX3_copyFrom_51 : decode cX3_copyFrom 51 = .ok (.aload_n 0, 1) := by decide +kernel
theorem dX3_copyFrom_52 : decode cX3_copyFrom 52 = .ok (.aload_n 1, 1) := by decide +kernel
theorem dX3_copyFrom_53 : decode cX3_copyFrom 53 = .ok (.getfield 28, 3) := by decide +kernel
theorem dX3_copyFrom_56 : decode cX3_copyFrom 56 = .ok (.putfield 28, 3) := by decide +kernel
theorem dX3_copyFrom_59 : decode cX3_copyFrom 59 = .ok (.aload_n 0, 1) := by decide +kernel
theorem dX3_copyFrom_60 : decode cX3_copyFrom 60 = .ok (.aload_n 1, 1) := by decide +kernel
theorem dX3_copyFrom_61 : decode cX3_copyFrom 61 = .ok (.getfield 34, 3) := by decide +kernel
theorem dX3_copyFrom_64 : decode cX3_copyFrom 64 = .ok (.putfield 34, 3) := by decide +kernel
theorem dX3_copyFrom_67 : decode cX3_copyFrom 67 = .ok (.aload_n 0, 1) := by decide +kernel
theorem dX3_copyFrom_68 : decode cX3_copyFrom 68 = .ok (.aload_n 1, 1) := by decide +kernel
theorem dX3_copyFrom_69 : decode cX3_copyFrom 69 = .ok (.getfield 25, 3) := by decide +kernel
theorem dX3_copyFrom_72 : decode cX3_copyFrom 72 = .ok (.putfield 25, 3) := by decide +kernel
theorem dX3_copyFrom_75 : decode cX3_copyFrom 75 = .ok (.return_, 1) := by decide +kernel
theorem dX4_init_0 : decode cX4_init 0 = .ok (.aload_n 0, 1) := by decide +kernel
theorem dX4_init_1 : decode cX4_init 1 = .ok (.invokespecial 3, 3) := by decide +kernel
theorem dX4_init_4 : decode cX4_init 4 = .ok (.aload_n 0, 1) := by decide +kernel
theorem dX4_init_5 : decode cX4_init 5 = .ok (.iconst 4, 1) := by decide +kernel
theorem dX4_init_6 : decode cX4_init 6 = .ok (.newarray .int, 2) := by decide +kernel
theorem dX4_init_8 : decode cX4_init 8 = .ok (.putfield 9, 3) := by decide +kernel
theorem dX4_init_11 : decode cX4_init 11 = .ok (.return_, 1) := by decide +kernel
theorem dX4_of_0 : decode cX4_of 0 = .ok (.iload_n 1, 1) := by decide +kernel
theorem dX4_of_1 : decode cX4_of 1 = .ok (.ifCond .lt 21, 3) := by decide +kernel
theorem dX4_of_4 : decode cX4_of 4 = .ok (.iload_n 1, 1) := by decide +kernel
theorem dX4_of_5 : decode cX4_of 5 = .ok (.aload_n 0, 1) := by decide +kernel
theorem dX4_of_6 : decode cX4_of 6 = .ok (.getfield 9, 3) := by decide +kernel
theorem dX4_of_9 : decode cX4_of 9 = .ok (.arraylength, 1) := by decide +kernel
theorem dX4_of_10 : decode cX4_of 10 = .ok (.if_icmp .ge 12, 3) := by decide +kernel
theorem dX4_of_13 : decode cX4_of 13 = .ok (.aload_n 0, 1) := by decide +kernel
theorem dX4_of_14 : decode cX4_of 14 = .ok (.getfield 9, 3) := by decide +kernel
theorem dX4_of_17 : decode cX4_of 17 = .ok (.iload_n 1, 1) := by decide +kernel
theorem dX4_of_18 : decode cX4_of 18 = .ok (.iaload, 1) := by decide +kernel
theorem dX4_of_19 : decode cX4_of 19 = .ok (.goto 4, 3) := by decide +kernel
theorem dX4_of_22 : decode cX4_of 22 = .ok (.iconst 0, 1) := by decide +kernel
theorem dX4_of_23 : decode cX4_of 23 = .ok (.ireturn, 1) := by decide +kernel
theorem dX4_add_0 : decode cX4_add 0 = .ok (.iload_n 1, 1) := by decide +kernel
theorem dX4_add_1 : decode cX4_add 1 = .ok (.ifCond .lt 12, 3) := by decide +kernel
theorem dX4_add_4 : decode cX4_add 4 = .ok (.iload_n 1, 1) := by decide +kernel
theorem dX4_add_5 : decode cX4_add 5 = .ok (.aload_n 0, 1) := by decide +kernel
theorem dX4_add_6 : decode cX4_add 6 = .ok (.getfield 9, 3) := by decide +kernel
theorem dX4_add_9 : decode cX4_add 9 = .ok (.arraylength, 1) := by decide +kernel
theorem dX4_add_10 : decode cX4_add 10 = .ok (.if_icmp .lt 5, 3) := by decide +kernel
theorem dX4_add_13 : decode cX4_add 13 = .ok (.iconst 0, 1) := by decide +kernel
theorem dX4_add_14 : decode cX4_add 14 = .ok (.ireturn, 1) := by decide +kernel
theorem dX4_add_15 : decode cX4_add 15 = .ok (.aload_n 0, 1) := by decide +kernel
theorem dX4_add_16 : decode cX4_add 16 = .ok (.getfield 9, 3) := by decide +kernel
theorem dX4_add_19 : decode cX4_add 19 = .ok (.iload_n 1, 1) := by decide +kernel
theorem dX4_add_20 : decode cX4_add 20 = .ok (.dup2, 1) := by decide +kernel
theorem dX4_add_21 : decode cX4_add 21 = .ok (.iaload, 1) := by decide +kernel
theorem dX4_add_22 : decode cX4_add 22 = .ok (.iload_n 2, 1) := by decide +kernel
theorem dX4_add_23 : decode cX4_add 23 = .ok (.iadd, 1) := by decide +kernel
theorem dX4_add_24 : decode cX4_add 24 = .ok (.iastore, 1) := by decide +kernel
theorem dX4_add_25 : decode cX4_add 25 = .ok (.aload_n 0, 1) := by decide +kernel
theorem dX4_add_26 : decode cX4_add 26 = .ok (.getfield 9, 3) := by decide +kernel
theorem dX4_add_29 : decode cX4_add 29 = .ok (.iload_n 1, 1) := by decide +kernel
theorem dX4_add_30 : decode cX4_add 30 = .ok (.iaload, 1) := by decide +kernel
theorem dX4_add_31 : decode cX4_add 31 = .ok (.ireturn, 1) := by decide +kernel
theorem dX4_copyFrom_0 : decode cX4_copyFrom 0 = .ok (.iconst 0, 1) := by decide +kernel
theorem dX4_copyFrom_1 : decode cX4_copyFrom 1 = .ok (.istore_n 2, 1) := by decide +kernel
theorem dX4_copyFrom_2 : decode cX4_copyFrom 2 = .ok (.iload_n 2, 1) := by decide +kernel
theorem dX4_copyFrom_3 : decode cX4_copyFrom 3 = .ok (.aload_n 0, 1) := by decide +kernel
theorem dX4_copyFrom_4 : decode cX4_copyFrom 4 = .ok (.getfield 9, 3) := by decide +kernel
theorem dX4_copyFrom_7 : decode cX4_copyFrom 7 = .ok (.arraylength, 1) := by decide +kernel
theorem dX4_copyFrom_8 : decode cX4_copyFrom 8 = .ok (.if_icmp .ge 30, 3) := by decide +kernel
theorem dX4_copyFrom_11 : decode cX4_copyFrom 11 = .ok (.iload_n 2, 1) := by decide +kernel
theorem dX4_copyFrom_12 : decode cX4_copyFrom 12 = .ok (.aload_n 1, 1) := by decide +kernel
theorem dX4_copyFrom_13 : decode cX4_copyFrom 13 = .ok (.getfield 9, 3) := by decide +kernel
theorem dX4_copyFrom_16 : decode cX4_copyFrom 16 = .ok (.arraylength, 1) := by decide +kernel
theorem dX4_copyFrom_17 : decode cX4_copyFrom 17 = .ok (.if_icmp .ge 21, 3) := by decide +kernel
theorem dX4_copyFrom_20 : decode cX4_copyFrom 20 = .ok (.aload_n 0, 1) := by decide +kernel
theorem dX4_copyFrom_21 : decode cX4_copyFrom 21 = .ok (.getfield 9, 3) := by decide +kernel
theorem dX4_copyFrom_24 : decode cX4_copyFrom 24 = .ok (.iload_n 2, 1) := by decide +kernel
theorem dX4_copyFrom_25 : decode cX4_copyFrom 25 = .ok (.aload_n 1, 1) := by decide +kernel
theorem dX4_copyFrom_26 : decode cX4_copyFrom 26 = .ok (.getfield 9, 3) := by decide +kernel
theorem dX4_copyFrom_29 : decode cX4_copyFrom 29 = .ok (.iload_n 2, 1) := by decide +kernel
theorem dX4_copyFrom_30 : decode cX4_copyFrom 30 = .ok (.iaload, 1) := by decide +kernel
theorem dX4_copyFrom_31 : decode cX4_copyFrom 31 = .ok (.iastore, 1) := by decide +kernel
theorem dX4_copyFrom_32 : decode cX4_copyFrom 32 = .ok (.iinc 2 1, 3) := by decide +kernel
theorem dX4_copyFrom_35 : decode cX4_copyFrom 35 = .ok (.goto (-33), 3) := by decide +kernel
theorem dX4_copyFrom_38 : decode cX4_copyFrom 38 = .ok (.return_, 1) := by decide +kernel
theorem dX5_init_0 : decode cX5_init 0 = .ok (.aload_n 0, 1) := by decide +kernel
theorem dX5_init_1 : decode cX5_init 1 = .ok (.invokespecial 1, 3) := by decide +kernel
theorem dX5_init_4 : decode cX5_init 4 = .ok (.aload_n 0, 1) := by decide +kernel
theorem dX5_init_5 : decode cX5_init 5 = .ok (.new 7, 3) := by decide +kernel
theorem dX5_init_8 : decode cX5_init 8 = .ok (.dup, 1) := by decide +kernel
theorem dX5_init_9 : decode cX5_init 9 = .ok (.invokespecial 9, 3) := by decide +kernel
theorem dX5_init_12 : decode cX5_init 12 = .ok (.putfield 10, 3) := by decide +kernel
theorem dX5_init_15 : decode cX5_init 15 = .ok (.aload_n 0, 1) := by decide +kernel
theorem dX5_init_16 : decode cX5_init 16 = .ok (.new 7, 3) := by decide +kernel
theorem dX5_init_19 : decode cX5_init 19 = .ok (.dup, 1) := by decide +kernel
theorem dX5_init_20 : decode cX5_init 20 = .ok (.invokespecial 9, 3) := by decide +kernel
theorem dX5_init_23 : decode cX5_init 23 = .ok (.putfield 16, 3) := by decide +kernel
theorem dX5_init_26 : decode cX5_init 26 = .ok (.aload_n 0, 1) := by decide +kernel
theorem dX5_init_27 : decode cX5_init 27 = .ok (.bipush 6, 2) := by decide +kernel
theorem dX5_init_29 : decode cX5_init 29 = .ok (.anewarray 7, 3) := by decide +kernel
theorem dX5_init_32 : decode cX5_init 32 = .ok (.putfield 19, 3) := by decide +kernel
theorem dX5_init_35 : decode cX5_init 35 = .ok (.aload_n 0, 1) := by decide +kernel
theorem dX5_init_36 : decode cX5_init 36 = .ok (.bipush 60, 2) := by decide +kernel
theorem dX5_init_38 : decode cX5_init 38 = .ok (.newarray .int, 2) := by decide +kernel
theorem dX5_init_40 : decode cX5_init 40 = .ok (.putfield 23, 3) := by decide +kernel
theorem dX5_init_43 : decode cX5_init 43 = .ok (.aload_n 0, 1) := by decide +kernel
theorem dX5_init_44 : decode cX5_init 44 = .ok (.new 27, 3) := by decide +kernel
theorem dX5_init_47 : decode cX5_init 47 = .ok (.dup, 1) := by decide +kernel
theorem dX5_init_48 : decode cX5_init 48 = .ok (.invokespecial 29, 3) := by decide +kernel
theorem dX5_init_51 : decode cX5_init 51 = .ok (.putfield 30, 3) := by decide +kernel
theorem dX5_init_54 : decode cX5_init 54 = .ok (.aload_n 0, 1) := by decide +kernel
theorem dX5_init_55 : decode cX5_init 55 = .ok (.bipush 10, 2) := by decide +kernel
theorem dX5_init_57 : decode cX5_init 57 = .ok (.newarray .int, 2) := by decide +kernel
theorem dX5_init_59 : decode cX5_init 59 = .ok (.putfield 34, 3) := by decide +kernel
theorem dX5_init_62 : decode cX5_init 62 = .ok (.iconst 0, 1) := by decide +kernel
theorem dX5_init_63 : decode cX5_init 63 = .ok (.istore_n 1, 1) := by decide +kernel
theorem dX5_init_64 : decode cX5_init 64 = .ok (.iload_n 1, 1) := by decide +kernel
theorem dX5_init_65 : decode cX5_init 65 = .ok (.aload_n 0, 1) := by decide +kernel
theorem dX5_init_66 : decode cX5_init 66 = .ok (.getfield 19, 3) := by decide +kernel
theorem dX5_init_69 : decode cX5_init 69 = .ok (.arraylength, 1) := by decide +kernel
theorem dX5_init_70 : decode cX5_init 70 = .ok (.if_icmp .ge 22, 3) := by decide +kernel
theorem dX5_init_73 : decode cX5_init 73 = .ok (.aload_n 0, 1) := by decide +kernel
theorem dX5_init_74 : decode cX5_init 74 = .ok (.getfield 19, 3) := by decide +kernel
theorem dX5_init_77 : decode cX5_init 77 = .ok (.iload_n 1, 1) := by decide +kernel
theorem dX5_init_78 : decode cX5_init 78 = .ok (.new 7, 3) := by decide +kernel
theorem dX5_init_81 : decode cX5_init 81 = .ok (.dup, 1) := by decide +kernel
theorem dX5_init_82 : decode cX5_init 82 = .ok (.invokespecial 9, 3) := by decide +kernel
theorem dX5_init_85 : decode cX5_init 85 = .ok (.aastore, 1) := by decide +kernel
theorem dX5_init_86 : decode cX5_init 86 = .ok (.iinc 1 1, 3) := by decide +kernel
theorem dX5_init_89 : decode cX5_init 89 = .ok (.goto (-25), 3) := by decide +kernel
theorem dX5_init_92 : decode cX5_init 92 = .ok (.return_, 1) := by decide +kernel
theorem dX5_loom_0 : decode cX5_loom 0 = .ok (.iload_n 1, 1) := by decide +kernel
theorem dX5_loom_1 : decode cX5_loom 1 = .ok (.iconst 0, 1) := by decide +kernel
theorem dX5_loom_2 : decode cX5_loom 2 = .ok (.iconst 5, 1) := by decide +kernel
theorem dX5_loom_3 : decode cX5_loom 3 = .ok (.invokestatic 37, 3) := by decide +kernel
theorem dX5_loom_6 : decode cX5_loom 6 = .ok (.ifCond .ne 13, 3) := by decide +kernel
theorem dX5_loom_9 : decode cX5_loom 9 = .ok (.new 41, 3) := by decide +kernel
theorem dX5_loom_12 : decode cX5_loom 12 = .ok (.dup, 1) := by decide +kernel
theorem dX5_loom_13 : decode cX5_loom 13 = .ok (.ldc 43, 2) := by decide +kernel
theorem dX5_loom_15 : decode cX5_loom 15 = .ok (.invokespecial 45, 3) := by decide +kernel
theorem dX5_loom_18 : decode cX5_loom 18 = .ok (.athrow, 1) := by decide +kernel
theorem dX5_loom_19 : decode cX5_loom 19 = .ok (.iload_n 2, 1) := by decide +kernel
theorem dX5_loom_20 : decode cX5_loom 20 = .ok (.ifCond .eq 23, 3) := by decide +kernel
theorem dX5_loom_23 : decode cX5_loom 23 = .ok (.iload_n 2, 1) := by decide +kernel
theorem dX5_loom_24 : decode cX5_loom 24 = .ok (.iload_n 3, 1) := by decide +kernel
theorem dX5_loom_25 : decode cX5_loom 25 = .ok (.iload 4, 2) := by decide +kernel
theorem dX5_loom_27 : decode cX5_loom 27 = .ok (.invokestatic 48, 3) := by decide +kernel
theorem dX5_loom_30 : decode cX5_loom 30 = .ok (.ifCond .ne 13, 3) := by decide +kernel
theorem dX5_loom_33 : decode cX5_loom 33 = .ok (.new 51, 3) := by decide +kernel
theorem dX5_loom_36 : decode cX5_loom 36 = .ok (.dup, 1) := by decide +kernel
theorem dX5_loom_37 : decode cX5_loom 37 = .ok (.ldc 53, 2) := by decide +kernel
theorem dX5_loom_39 : decode cX5_loom 39 = .ok (.invokespecial 55, 3) := by decide +kernel
theorem dX5_loom_42 : decode cX5_loom 42 = .ok (.athrow, 1) := by decide +kernel
theorem dX5_loom_43 : decode cX5_loom 43 = .ok (.aload_n 0, 1) := by decide +kernel
theorem dX5_loom_44 : decode cX5_loom 44 = .ok (.invokevirtual 56, 3) := by decide +kernel
theorem dX5_loom_47 : decode cX5_loom 47 = .ok (.aload_n 0, 1) := by decide +kernel
theorem dX5_loom_48 : decode cX5_loom 48 = .ok (.getfield 10, 3) := by decide +kernel
theorem dX5_loom_51 : decode cX5_loom 51 = .ok (.getfield 59, 3) := by decide +kernel
theorem dX5_loom_54 : decode cX5_loom 54 = .ok (.iload_n 1, 1) := by decide +kernel
theorem dX5_loom_55 : decode cX5_loom 55 = .ok (.aaload, 1) := by decide +kernel
theorem dX5_loom_56 : decode cX5_loom 56 = .ok (.astore 5, 2) := by decide +kernel
theorem dX5_loom_58 : decode cX5_loom 58 = .ok (.aload 5, 2) := by decide +kernel
theorem dX5_loom_60 : decode cX5_loom 60 = .ok (.getfield 63, 3) := by decide +kernel
theorem dX5_loom_63 : decode cX5_loom 63 = .ok (.istore 6, 2) := by decide +kernel
theorem dX5_loom_65 : decode cX5_loom 65 = .ok (.aload 5, 2) := by decide +kernel
theorem dX5_loom_67 : decode cX5_loom 67 = .ok (.iload_n 2, 1) := by decide +kernel
theorem dX5_loom_68 : decode cX5_loom 68 = .ok (.putfield 63, 3) := by decide +kernel
theorem dX5_loom_71 : decode cX5_loom 71 = .ok (.aload 5, 2) := by decide +kernel
theorem dX5_loom_73 : decode cX5_loom 73 = .ok (.iload_n 2, 1) := by decide +kernel
theorem dX5_loom_74 : decode cX5_loom 74 = .ok (.ifCond .ne 7, 3) := by decide +kernel
theorem dX5_loom_77 : decode cX5_loom 77 = .ok (.iconst 0, 1) := by decide +kernel
theorem dX5_loom_78 : decode cX5_loom 78 = .ok (.goto 4, 3) := by decide +kernel
theorem dX5_loom_81 : decode cX5_loom 81 = .ok (.iload_n 3, 1) := by decide +kernel
theorem dX5_loom_82 : decode cX5_loom 82 = .ok (.putfield 69, 3) := by decide +kernel
theorem dX5_loom_85 : decode cX5_loom 85 = .ok (.aload 5, 2) := by decide +kernel
theorem dX5_loom_87 : decode cX5_loom 87 = .ok (.iload_n 2, 1) := by decide +kernel
theorem dX5_loom_88 : decode cX5_loom 88 = .ok (.ifCond .ne 7, 3) := by decide +kernel
theorem dX5_loom_91 : decode cX5_loom 91 = .ok (.iconst 0, 1) := by decide +kernel
theorem dX5_loom_92 : decode cX5_loom 92 = .ok (.goto 5, 3) := by decide +kernel
theorem dX5_loom_95 : decode cX5_loom 95 = .ok (.iload 4, 2) := by decide +kernel
theorem dX5_loom_97 : decode cX5_loom 97 = .ok (.putfield 72, 3) := by decide +kernel
theorem dX5_loom_100 : decode cX5_loom 100 = .ok (.iload 6, 2) := by decide +kernel
theorem dX5_loom_102 : decode cX5_loom 102 = .ok (.ireturn, 1) := by decide +kernel
theorem dX5_yarn_0 : decode cX5_yarn 0 = .ok (.iload_n 1, 1) := by decide +kernel
theorem dX5_yarn_1 : decode cX5_yarn 1 = .ok (.iconst 0, 1) := by decide +kernel
theorem dX5_yarn_2 : decode cX5_yarn 2 = .ok (.iconst 5, 1) := by decide +kernel
theorem dX5_yarn_3 : decode cX5_yarn 3 = .ok (.invokestatic 37, 3) := by decide +kernel
theorem dX5_yarn_6 : decode cX5_yarn 6 = .ok (.ifCond .eq 12, 3) := by decide +kernel
theorem dX5_yarn_9 : decode cX5_yarn 9 = .ok (.iload_n 2, 1) := by decide +kernel
theorem dX5_yarn_10 : decode cX5_yarn 10 = .ok (.iconst 0, 1) := by decide +kernel
theorem dX5_yarn_11 : decode cX5_yarn 11 = .ok (.iconst 3, 1) := by decide +kernel
theorem dX5_yarn_12 : decode cX5_yarn 12 = .ok (.invokestatic 37, 3) := by decide +kernel
theorem dX5_yarn_15 : decode cX5_yarn 15 = .ok (.ifCond .ne 13, 3) := by decide +kernel
theorem dX5_yarn_18 : decode cX5_yarn 18 = .ok (.new 41, 3) := by decide +kernel
theorem dX5_yarn_21 : decode cX5_yarn 21 = .ok (.dup, 1) := by decide +kernel
theorem dX5_yarn_22 : decode cX5_yarn 22 = .ok (.ldc 75, 2) := by decide +kernel
theorem dX5_yarn_24 : decode cX5_yarn 24 = .ok (.invokespecial 45, 3) := by decide +kernel
theorem dX5_yarn_27 : decode cX5_yarn 27 = .ok (.athrow, 1) := by decide +kernel
theorem dX5_yarn_28 : decode cX5_yarn 28 = .ok (.iload_n 3, 1) := by decide +kernel
theorem dX5_yarn_29 : decode cX5_yarn 29 = .ok (.sipush (-9999), 3) := by decide +kernel
theorem dX5_yarn_32 : decode cX5_yarn 32 = .ok (.sipush 9999, 3) := by decide +kernel
theorem dX5_yarn_35 : decode cX5_yarn 35 = .ok (.invokestatic 37, 3) := by decide +kernel
theorem dX5_yarn_38 : decode cX5_yarn 38 = .ok (.ifCond .ne 13, 3) := by decide +kernel
theorem dX5_yarn_41 : decode cX5_yarn 41 = .ok (.new 51, 3) := by decide +kernel
theorem dX5_yarn_44 : decode cX5_yarn 44 = .ok (.dup, 1) := by decide +kernel
theorem dX5_yarn_45 : decode cX5_yarn 45 = .ok (.ldc 77, 2) := by decide +kernel
theorem dX5_yarn_47 : decode cX5_yarn 47 = .ok (.invokespecial 55, 3) := by decide +kernel
theorem dX5_yarn_50 : decode cX5_yarn 50 = .ok (.athrow, 1) := by decide +kernel
theorem dX5_yarn_51 : decode cX5_yarn 51 = .ok (.aload_n 0, 1) := by decide +kernel
theorem dX5_yarn_52 : decode cX5_yarn 52 = .ok (.getfield 10, 3) := by decide +kernel
theorem dX5_yarn_55 : decode cX5_yarn 55 = .ok (.getfield 59, 3) := by decide +kernel
theorem dX5_yarn_58 : decode cX5_yarn 58 = .ok (.iload_n 1, 1) := by decide +kernel
theorem dX5_yarn_59 : decode cX5_yarn 59 = .ok (.aaload, 1) := by decide +kernel
theorem dX5_yarn_60 : decode cX5_yarn 60 = .ok (.getfield 79, 3) := by decide +kernel
theorem dX5_yarn_63 : decode cX5_yarn 63 = .ok (.astore 4, 2) := by decide +kernel
theorem dX5_yarn_65 : decode cX5_yarn 65 = .ok (.aload 4, 2) := by decide +kernel
theorem dX5_yarn_67 : decode cX5_yarn 67 = .ok (.iload_n 2, 1) := by decide +kernel
theorem dX5_yarn_68 : decode cX5_yarn 68 = .ok (.invokevirtual 83, 3) := by decide +kernel
theorem dX5_yarn_71 : decode cX5_yarn 71 = .ok (.iload_n 3, 1) := by decide +kernel
theorem dX5_yarn_72 : decode cX5_yarn 72 = .ok (.iadd, 1) := by decide +kernel
theorem dX5_yarn_73 : decode cX5_yarn 73 = .ok (.iconst 0, 1) := by decide +kernel
theorem dX5_yarn_74 : decode cX5_yarn 74 = .ok (.sipush 9999, 3) := by decide +kernel
theorem dX5_yarn_77 : decode cX5_yarn 77 = .ok (.invokestatic 37, 3) := by decide +kernel
theorem dX5_yarn_80 : decode cX5_yarn 80 = .ok (.ifCond .ne 13, 3) := by decide +kernel
theorem dX5_yarn_83 : decode cX5_yarn 83 = .ok (.new 89, 3) := by decide +kernel
theorem dX5_yarn_86 : decode cX5_yarn 86 = .ok (.dup, 1) := by decide +kernel
theorem dX5_yarn_87 : decode cX5_yarn 87 = .ok (.ldc 91, 2) := by decide +kernel
theorem dX5_yarn_89 : decode cX5_yarn 89 = .ok (.invokespecial 93, 3) := by decide +kernel
theorem dX5_yarn_92 : decode cX5_yarn 92 = .ok (.athrow, 1) := by decide +kernel
theorem dX5_yarn_93 : decode cX5_yarn 93 = .ok (.aload_n 0, 1) := by decide +kernel
theorem dX5_yarn_94 : decode cX5_yarn 94 = .ok (.invokevirtual 56, 3) := by decide +kernel
theorem dX5_yarn_97 : decode cX5_yarn 97 = .ok (.aload 4, 2) := by decide +kernel
theorem dX5_yarn_99 : decode cX5_yarn 99 = .ok (.iload_n 2, 1) := by decide +kernel
theorem dX5_yarn_100 : decode cX5_yarn 100 = .ok (.iload_n 3, 1) := by decide +kernel
theorem dX5_yarn_101 : decode cX5_yarn 101 = .ok (.invokevirtual 94, 3) := by decide +kernel
theorem dX5_yarn_104 : decode cX5_yarn 104 = .ok (.ireturn, 1) := by decide +kernel
theorem dX5_store_0 : decode cX5_store 0 = .ok (.iload_n 1, 1) := by decide +kernel
theorem dX5_store_1 : decode cX5_store 1 = .ok (.iconst 0, 1) := by decide +kernel
theorem dX5_store_2 : decode cX5_store 2 = .ok (.iconst 3, 1) := by decide +kernel
theorem dX5_store_3 : decode cX5_store 3 = .ok (.invokestatic 37, 3) := by decide +kernel
theorem dX5_store_6 : decode cX5_store 6 = .ok (.ifCond .ne 13, 3) := by decide +kernel
theorem dX5_store_9 : decode cX5_store 9 = .ok (.new 41, 3) := by decide +kernel
theorem dX5_store_12 : decode cX5_store 12 = .ok (.dup, 1) := by decide +kernel
theorem dX5_store_13 : decode cX5_store 13 = .ok (.ldc 98, 2) := by decide +kernel
theorem dX5_store_15 : decode cX5_store 15 = .ok (.invokespecial 45, 3) := by decide +kernel
theorem dX5_store_18 : decode cX5_store 18 = .ok (.athrow, 1) := by decide +kernel
theorem dX5_store_19 : decode cX5_store 19 = .ok (.iload_n 2, 1) := by decide +kernel
theorem dX5_store_20 : decode cX5_store 20 = .ok (.iconst 1, 1) := by decide +kernel
theorem dX5_store_21 : decode cX5_store 21 = .ok (.sipush 9999, 3) := by decide +kernel
theorem dX5_store_24 : decode cX5_store 24 = .ok (.invokestatic 37, 3) := by decide +kernel
theorem dX5_store_27 : decode cX5_store 27 = .ok (.ifCond .ne 13, 3) := by decide +kernel
theorem dX5_store_30 : decode cX5_store 30 = .ok (.new 51, 3) := by decide +kernel
theorem dX5_store_33 : decode cX5_store 33 = .ok (.dup, 1) := by decide +kernel
theorem dX5_store_34 : decode cX5_store 34 = .ok (.ldc 77, 2) := by decide +kernel
theorem dX5_store_36 : decode cX5_store 36 = .ok (.invokespecial 55, 3) := by decide +kernel
theorem dX5_store_39 : decode cX5_store 39 = .ok (.athrow, 1) := by decide +kernel
theorem dX5_store_40 : decode cX5_store 40 = .ok (.aload_n 0, 1) := by decide +kernel
theorem dX5_store_41 : decode cX5_store 41 = .ok (.getfield 10, 3) := by decide +kernel
theorem dX5_store_44 : decode cX5_store 44 = .ok (.getfield 100, 3) := by decide +kernel
theorem dX5_store_47 : decode cX5_store 47 = .ok (.iload_n 1, 1) := by decide +kernel
theorem dX5_store_48 : decode cX5_store 48 = .ok (.invokevirtual 83, 3) := by decide +kernel
theorem dX5_store_51 : decode cX5_store 51 = .ok (.iload_n 2, 1) := by decide +kernel
theorem dX5_store_52 : decode cX5_store 52 = .ok (.iadd, 1) := by decide +kernel
theorem dX5_store_53 : decode cX5_store 53 = .ok (.ldc 103, 2) := by decide +kernel
theorem dX5_store_55 : decode cX5_store 55 = .ok (.if_icmp .le 13, 3) := by decide +kernel
theorem dX5_store_58 : decode cX5_store 58 = .ok (.new 89, 3) := by decide +kernel
theorem dX5_store_61 : decode cX5_store 61 = .ok (.dup, 1) := by decide +kernel
theorem dX5_store_62 : decode cX5_store 62 = .ok (.ldc 104, 2) := by decide +kernel
theorem dX5_store_64 : decode cX5_store 64 = .ok (.invokespecial 93, 3) := by decide +kernel
theorem dX5_store_67 : decode cX5_store 67 = .ok (.athrow, 1) := by decide +kernel
theorem dX5_store_68 : decode cX5_store 68 = .ok (.aload_n 0, 1) := by decide +kernel
theorem dX5_store_69 : decode cX5_store 69 = .ok (.invokevirtual 56, 3) := by decide +kernel
theorem dX5_store_72 : decode cX5_store 72 = .ok (.aload_n 0, 1) := by decide +kernel
theorem dX5_store_73 : decode cX5_store 73 = .ok (.getfield 10, 3) := by decide +kernel
theorem dX5_store_76 : decode cX5_store 76 = .ok (.getfield 100, 3) := by decide +kernel
theorem dX5_store_79 : decode cX5_store 79 = .ok (.iload_n 1, 1) := by decide +kernel
theorem dX5_store_80 : decode cX5_store 80 = .ok (.iload_n 2, 1) := by decide +kernel
theorem dX5_store_81 : decode cX5_store 81 = .ok (.invokevirtual 94, 3) := by decide +kernel
theorem dX5_store_84 : decode cX5_store 84 = .ok (.ireturn, 1) := by decide +kernel
theorem dX5_give_0 : decode cX5_give 0 = .ok (.iload_n 1, 1) := by decide +kernel
theorem dX5_give_1 : decode cX5_give 1 = .ok (.iconst 0, 1) := by decide +kernel
theorem dX5_give_2 : decode cX5_give 2 = .ok (.iconst 5, 1) := by decide +kernel
theorem dX5_give_3 : decode cX5_give 3 = .ok (.invokestatic 37, 3) := by decide +kernel
theorem dX5_give_6 : decode cX5_give 6 = .ok (.ifCond .eq 21, 3) := by decide +kernel
theorem dX5_give_9 : decode cX5_give 9 = .ok (.iload_n 2, 1) := by decide +kernel
theorem dX5_give_10 : decode cX5_give 10 = .ok (.iconst 0, 1) := by decide +kernel
theorem dX5_give_11 : decode cX5_give 11 = .ok (.iconst 5, 1) := by decide +kernel
theorem dX5_give_12 : decode cX5_give 12 = .ok (.invokestatic 37, 3) := by decide +kernel
theorem dX5_give_15 : decode cX5_give 15 = .ok (.ifCond .eq 12, 3) := by decide +kernel
theorem dX5_give_18 : decode cX5_give 18 = .ok (.iload_n 3, 1) := by decide +kernel
theorem dX5_give_19 : decode cX5_give 19 = .ok (.iconst 0, 1) := by decide +kernel
theorem dX5_give_20 : decode cX5_give 20 = .ok (.iconst 3, 1) := by decide +kernel
theorem dX5_give_21 : decode cX5_give 21 = .ok (.invokestatic 37, 3) := by decide +kernel
theorem dX5_give_24 : decode cX5_give 24 = .ok (.ifCond .ne 13, 3) := by decide +kernel
theorem dX5_give_27 : decode cX5_give 27 = .ok (.new 41, 3) := by decide +kernel
theorem dX5_give_30 : decode cX5_give 30 = .ok (.dup, 1) := by decide +kernel
theorem dX5_give_31 : decode cX5_give 31 = .ok (.ldc 75, 2) := by decide +kernel
theorem dX5_give_33 : decode cX5_give 33 = .ok (.invokespecial 45, 3) := by decide +kernel
theorem dX5_give_36 : decode cX5_give 36 = .ok (.athrow, 1) := by decide +kernel
theorem dX5_give_37 : decode cX5_give 37 = .ok (.iload_n 1, 1) := by decide +kernel
theorem dX5_give_38 : decode cX5_give 38 = .ok (.iload_n 2, 1) := by decide +kernel
theorem dX5_give_39 : decode cX5_give 39 = .ok (.if_icmp .eq 15, 3) := by decide +kernel
theorem dX5_give_42 : decode cX5_give 42 = .ok (.iload 4, 2) := by decide +kernel
theorem dX5_give_44 : decode cX5_give 44 = .ok (.iconst 1, 1) := by decide +kernel
theorem dX5_give_45 : decode cX5_give 45 = .ok (.sipush 9999, 3) := by decide +kernel
theorem dX5_give_48 : decode cX5_give 48 = .ok (.invokestatic 37, 3) := by decide +kernel
theorem dX5_give_51 : decode cX5_give 51 = .ok (.ifCond .ne 13, 3) := by decide +kernel
theorem dX5_give_54 : decode cX5_give 54 = .ok (.new 51, 3) := by decide +kernel
theorem dX5_give_57 : decode cX5_give 57 = .ok (.dup, 1) := by decide +kernel
theorem dX5_give_58 : decode cX5_give 58 = .ok (.ldc 106, 2) := by decide +kernel
theorem dX5_give_60 : decode cX5_give 60 = .ok (.invokespecial 55, 3) := by decide +kernel
theorem dX5_give_63 : decode cX5_give 63 = .ok (.athrow, 1) := by decide +kernel
theorem dX5_give_64 : decode cX5_give 64 = .ok (.aload_n 0, 1) := by decide +kernel
theorem dX5_give_65 : decode cX5_give 65 = .ok (.getfield 10, 3) := by decide +kernel
theorem dX5_give_68 : decode cX5_give 68 = .ok (.getfield 59, 3) := by decide +kernel
theorem dX5_give_71 : decode cX5_give 71 = .ok (.iload_n 1, 1) := by decide +kernel
theorem dX5_give_72 : decode cX5_give 72 = .ok (.aaload, 1) := by decide +kernel
theorem dX5_give_73 : decode cX5_give 73 = .ok (.getfield 79, 3) := by decide +kernel
theorem dX5_give_76 : decode cX5_give 76 = .ok (.astore 5, 2) := by decide +kernel
theorem dX5_give_78 : decode cX5_give 78 = .ok (.aload_n 0, 1) := by decide +kernel
theorem dX5_give_79 : decode cX5_give 79 = .ok (.getfield 10, 3) := by decide +kernel
theorem dX5_give_82 : decode cX5_give 82 = .ok (.getfield 59, 3) := by decide +kernel
theorem dX5_give_85 : decode cX5_give 85 = .ok (.iload_n 2, 1) := by decide +kernel
theorem dX5_give_86 : decode cX5_give 86 = .ok (.aaload, 1) := by decide +kernel
theorem dX5_give_87 : decode cX5_give 87 = .ok (.getfield 79, 3) := by decide +kernel
theorem dX5_give_90 : decode cX5_give 90 = .ok (.astore 6, 2) := by decide +kernel
theorem dX5_give_92 : decode cX5_give 92 = .ok (.aload 5, 2) := by decide +kernel
theorem dX5_give_94 : decode cX5_give 94 = .ok (.iload_n 3, 1) := by decide +kernel
theorem dX5_give_95 : decode cX5_give 95 = .ok (.invokevirtual 83, 3) := by decide +kernel
theorem dX5_give_98 : decode cX5_give 98 = .ok (.iload 4, 2) := by decide +kernel
theorem dX5_give_100 : decode cX5_give 100 = .ok (.if_icmp .lt 18, 3) := by decide +kernel
theorem dX5_give_103 : decode cX5_give 103 = .ok (.aload 6, 2) := by decide +kernel
theorem dX5_give_105 : decode cX5_give 105 = .ok (.iload_n 3, 1) := by decide +kernel
theorem dX5_give_106 : decode cX5_give 106 = .ok (.invokevirtual 83, 3) := by decide +kernel
theorem dX5_give_109 : decode cX5_give 109 = .ok (.iload 4, 2) := by decide +kernel
theorem dX5_give_111 : decode cX5_give 111 = .ok (.iadd, 1) := by decide +kernel
theorem dX5_give_112 : decode cX5_give 112 = .ok (.sipush 9999, 3) := by decide +kernel
theorem dX5_give_115 : decode cX5_give 115 = .ok (.if_icmp .le 13, 3) := by decide +kernel
theorem dX5_give_118 : decode cX5_give 118 = .ok (.new 89, 3) := by decide +kernel
theorem dX5_give_121 : decode cX5_give 121 = .ok (.dup, 1) := by decide +kernel
theorem dX5_give_122 : decode cX5_give 122 = .ok (.ldc 91, 2) := by decide +kernel
theorem dX5_give_124 : decode cX5_give 124 = .ok (.invokespecial 93, 3) := by decide +kernel
theorem dX5_give_127 : decode cX5_give 127 = .ok (.athrow, 1) := by decide +kernel
theorem dX5_give_128 : decode cX5_give 128 = .ok (.aload_n 0, 1) := by decide +kernel
theorem dX5_give_129 : decode cX5_give 129 = .ok (.invokevirtual 56, 3) := by decide +kernel
theorem dX5_give_132 : decode cX5_give 132 = .ok (.aload 5, 2) := by decide +kernel
theorem dX5_give_134 : decode cX5_give 134 = .ok (.iload_n 3, 1) := by decide +kernel
theorem dX5_give_135 : decode cX5_give 135 = .ok (.iload 4, 2) := by decide +kernel
theorem dX5_give_137 : decode cX5_give 137 = .ok (.ineg, 1) := by decide +kernel
theorem dX5_give_138 : decode cX5_give 138 = .ok (.invokevirtual 94, 3) := by decide +kernel
theorem dX5_give_141 : decode cX5_give 141 = .ok (.pop, 1) := by decide +kernel
theorem dX5_give_142 : decode cX5_give 142 = .ok (.aload 6, 2) := by decide +kernel
theorem dX5_give_144 : decode cX5_give 144 = .ok (.iload_n 3, 1) := by decide +kernel
theorem dX5_give_145 : decode cX5_give 145 = .ok (.iload 4, 2) := by decide +kernel
theorem dX5_give_147 : decode cX5_give 147 = .ok (.invokevirtual 94, 3) := by decide +kernel
theorem dX5_give_150 : decode cX5_give 150 = .ok (.ireturn, 1) := by decide +kernel
theorem dX5_order_0 : decode cX5_order 0 = .ok (.iload_n 1, 1) := by decide +kernel
theorem dX5_order_1 : decode cX5_order 1 = .ok (.iconst 0, 1) := by decide +kernel
theorem dX5_order_2 : decode cX5_order 2 = .ok (.iconst 3, 1) := by decide +kernel
theorem dX5_order_3 : decode cX5_order 3 = .ok (.invokestatic 37, 3) := by decide +kernel
theorem dX5_order_6 : decode cX5_order 6 = .ok (.ifCond .ne 13, 3) := by decide +kernel
theorem dX5_order_9 : decode cX5_order 9 = .ok (.new 41, 3) := by decide +kernel
theorem dX5_order_12 : decode cX5_order 12 = .ok (.dup, 1) := by decide +kernel
theorem dX5_order_13 : decode cX5_order 13 = .ok (.ldc 98, 2) := by decide +kernel
theorem dX5_order_15 : decode cX5_order 15 = .ok (.invokespecial 45, 3) := by decide +kernel
theorem dX5_order_18 : decode cX5_order 18 = .ok (.athrow, 1) := by decide +kernel
theorem dX5_order_19 : decode cX5_order 19 = .ok (.iload_n 2, 1) := by decide +kernel
theorem dX5_order_20 : decode cX5_order 20 = .ok (.bipush 40, 2) := by decide +kernel
theorem dX5_order_22 : decode cX5_order 22 = .ok (.sipush 200, 3) := by decide +kernel
theorem dX5_order_25 : decode cX5_order 25 = .ok (.invokestatic 37, 3) := by decide +kernel
theorem dX5_order_28 : decode cX5_order 28 = .ok (.ifCond .eq 37, 3) := by decide +kernel
theorem dX5_order_31 : decode cX5_order 31 = .ok (.iload_n 3, 1) := by decide +kernel
theorem dX5_order_32 : decode cX5_order 32 = .ok (.iconst 1, 1) := by decide +kernel
theorem dX5_order_33 : decode cX5_order 33 = .ok (.sipush 200, 3) := by decide +kernel
theorem dX5_order_36 : decode cX5_order 36 = .ok (.invokestatic 37, 3) := by decide +kernel
theorem dX5_order_39 : decode cX5_order 39 = .ok (.ifCond .eq 26, 3) := by decide +kernel
theorem dX5_order_42 : decode cX5_order 42 = .ok (.iload 4, 2) := by decide +kernel
theorem dX5_order_44 : decode cX5_order 44 = .ok (.iconst 1, 1) := by decide +kernel
theorem dX5_order_45 : decode cX5_order 45 = .ok (.bipush 99, 2) := by decide +kernel
theorem dX5_order_47 : decode cX5_order 47 = .ok (.invokestatic 37, 3) := by decide +kernel
theorem dX5_order_50 : decode cX5_order 50 = .ok (.ifCond .eq 15, 3) := by decide +kernel
theorem dX5_order_53 : decode cX5_order 53 = .ok (.iload 5, 2) := by decide +kernel
theorem dX5_order_55 : decode cX5_order 55 = .ok (.iconst 0, 1) := by decide +kernel
theorem dX5_order_56 : decode cX5_order 56 = .ok (.sipush 9999, 3) := by decide +kernel
theorem dX5_order_59 : decode cX5_order 59 = .ok (.invokestatic 37, 3) := by decide +kernel
theorem dX5_order_62 : decode cX5_order 62 = .ok (.ifCond .ne 13, 3) := by decide +kernel
theorem dX5_order_65 : decode cX5_order 65 = .ok (.new 51, 3) := by decide +kernel
theorem dX5_order_68 : decode cX5_order 68 = .ok (.dup, 1) := by decide +kernel
theorem dX5_order_69 : decode cX5_order 69 = .ok (.ldc 108, 2) := by decide +kernel
theorem dX5_order_71 : decode cX5_order 71 = .ok (.invokespecial 55, 3) := by decide +kernel
theorem dX5_order_74 : decode cX5_order 74 = .ok (.athrow, 1) := by decide +kernel
theorem dX5_order_75 : decode cX5_order 75 = .ok (.aload_n 0, 1) := by decide +kernel
theorem dX5_order_76 : decode cX5_order 76 = .ok (.getfield 10, 3) := by decide +kernel
theorem dX5_order_79 : decode cX5_order 79 = .ok (.getfield 110, 3) := by decide +kernel
theorem dX5_order_82 : decode cX5_order 82 = .ok (.bipush 10, 2) := by decide +kernel
theorem dX5_order_84 : decode cX5_order 84 = .ok (.if_icmp .lt 13, 3) := by decide +kernel
theorem dX5_order_87 : decode cX5_order 87 = .ok (.new 89, 3) := by decide +kernel
theorem dX5_order_90 : decode cX5_order 90 = .ok (.dup, 1) := by decide +kernel
theorem dX5_order_91 : decode cX5_order 91 = .ok (.ldc 113, 2) := by decide +kernel
theorem dX5_order_93 : decode cX5_order 93 = .ok (.invokespecial 93, 3) := by decide +kernel
theorem dX5_order_96 : decode cX5_order 96 = .ok (.athrow, 1) := by decide +kernel
theorem dX5_order_97 : decode cX5_order 97 = .ok (.aload_n 0, 1) := by decide +kernel
theorem dX5_order_98 : decode cX5_order 98 = .ok (.invokevirtual 56, 3) := by decide +kernel
theorem dX5_order_101 : decode cX5_order 101 = .ok (.aload_n 0, 1) := by decide +kernel
theorem dX5_order_102 : decode cX5_order 102 = .ok (.getfield 10, 3) := by decide +kernel
theorem dX5_order_105 : decode cX5_order 105 = .ok (.iload_n 1, 1) := by decide +kernel
theorem dX5_order_106 : decode cX5_order 106 = .ok (.iload_n 2, 1) := by decide +kernel
theorem dX5_order_107 : decode cX5_order 107 = .ok (.iload_n 3, 1) := by decide +kernel
theorem dX5_order_108 : decode cX5_order 108 = .ok (.iload 4, 2) := by decide +kernel
theorem dX5_order_110 : decode cX5_order 110 = .ok (.iload 5, 2) := by decide +kernel
theorem dX5_order_112 : decode cX5_order 112 = .ok (.invokevirtual 115, 3) := by decide +kernel
theorem dX5_order_115 : decode cX5_order 115 = .ok (.ireturn, 1) := by decide +kernel
theorem dX5_cancel_0 : decode cX5_cancel 0 = .ok (.aload_n 0, 1) := by decide +kernel
theorem dX5_cancel_1 : decode cX5_cancel 1 = .ok (.getfield 10, 3) := by decide +kernel
theorem dX5_cancel_4 : decode cX5_cancel 4 = .ok (.iload_n 1, 1) := by decide +kernel
theorem dX5_cancel_5 : decode cX5_cancel 5 = .ok (.invokevirtual 119, 3) := by decide +kernel
theorem dX5_cancel_8 : decode cX5_cancel 8 = .ok (.astore_n 2, 1) := by decide +kernel
theorem dX5_cancel_9 : decode cX5_cancel 9 = .ok (.aload_n 2, 1) := by decide +kernel
theorem dX5_cancel_10 : decode cX5_cancel 10 = .ok (.ifnonnull 13, 3) := by decide +kernel
theorem dX5_cancel_13 : decode cX5_cancel 13 = .ok (.new 41, 3) := by decide +kernel
theorem dX5_cancel_16 : decode cX5_cancel 16 = .ok (.dup, 1) := by decide +kernel
theorem dX5_cancel_17 : decode cX5_cancel 17 = .ok (.ldc 123, 2) := by decide +kernel
theorem dX5_cancel_19 : decode cX5_cancel 19 = .ok (.invokespecial 45, 3) := by decide +kernel
theorem dX5_cancel_22 : decode cX5_cancel 22 = .ok (.athrow, 1) := by decide +kernel
theorem dX5_cancel_23 : decode cX5_cancel 23 = .ok (.aload_n 0, 1) := by decide +kernel
theorem dX5_cancel_24 : decode cX5_cancel 24 = .ok (.invokevirtual 56, 3) := by decide +kernel
theorem dX5_cancel_27 : decode cX5_cancel 27 = .ok (.aload_n 2, 1) := by decide +kernel
theorem dX5_cancel_28 : decode cX5_cancel 28 = .ok (.getfield 125, 3) := by decide +kernel
theorem dX5_cancel_31 : decode cX5_cancel 31 = .ok (.istore_n 3, 1) := by decide +kernel
theorem dX5_cancel_32 : decode cX5_cancel 32 = .ok (.aload_n 0, 1) := by decide +kernel
theorem dX5_cancel_33 : decode cX5_cancel 33 = .ok (.getfield 10, 3) := by decide +kernel
theorem dX5_cancel_36 : decode cX5_cancel 36 = .ok (.aload_n 2, 1) := by decide +kernel
theorem dX5_cancel_37 : decode cX5_cancel 37 = .ok (.invokevirtual 130, 3) := by decide +kernel
theorem dX5_cancel_40 : decode cX5_cancel 40 = .ok (.iload_n 3, 1) := by decide +kernel
theorem dX5_cancel_41 : decode cX5_cancel 41 = .ok (.ireturn, 1) := by decide +kernel
theorem dX5_set_0 : decode cX5_set 0 = .ok (.iload_n 1, 1) := by decide +kernel
theorem dX5_set_1 : decode cX5_set 1 = .ok (.iconst 0, 1) := by decide +kernel
theorem dX5_set_2 : decode cX5_set 2 = .ok (.iconst 3, 1) := by decide +kernel
theorem dX5_set_3 : decode cX5_set 3 = .ok (.invokestatic 37, 3) := by decide +kernel
theorem dX5_set_6 : decode cX5_set 6 = .ok (.ifCond .ne 13, 3) := by decide +kernel
theorem dX5_set_9 : decode cX5_set 9 = .ok (.new 41, 3) := by decide +kernel
theorem dX5_set_12 : decode cX5_set 12 = .ok (.dup, 1) := by decide +kernel
theorem dX5_set_13 : decode cX5_set 13 = .ok (.ldc 134, 2) := by decide +kernel
theorem dX5_set_15 : decode cX5_set 15 = .ok (.invokespecial 45, 3) := by decide +kernel
theorem dX5_set_18 : decode cX5_set 18 = .ok (.athrow, 1) := by decide +kernel
theorem dX5_set_19 : decode cX5_set 19 = .ok (.iload_n 2, 1) := by decide +kernel
theorem dX5_set_20 : decode cX5_set 20 = .ok (.iconst 0, 1) := by decide +kernel
theorem dX5_set_21 : decode cX5_set 21 = .ok (.getstatic 136, 3) := by decide +kernel
theorem dX5_set_24 : decode cX5_set 24 = .ok (.iload_n 1, 1) := by decide +kernel
theorem dX5_set_25 : decode cX5_set 25 = .ok (.iaload, 1) := by decide +kernel
theorem dX5_set_26 : decode cX5_set 26 = .ok (.invokestatic 37, 3) := by decide +kernel
theorem dX5_set_29 : decode cX5_set 29 = .ok (.ifCond .ne 13, 3) := by decide +kernel
theorem dX5_set_32 : decode cX5_set 32 = .ok (.new 51, 3) := by decide +kernel
theorem dX5_set_35 : decode cX5_set 35 = .ok (.dup, 1) := by decide +kernel
theorem dX5_set_36 : decode cX5_set 36 = .ok (.ldc 139, 2) := by decide +kernel
theorem dX5_set_38 : decode cX5_set 38 = .ok (.invokespecial 55, 3) := by decide +kernel
theorem dX5_set_41 : decode cX5_set 41 = .ok (.athrow, 1) := by decide +kernel
theorem dX5_set_42 : decode cX5_set 42 = .ok (.aload_n 0, 1) := by decide +kernel
theorem dX5_set_43 : decode cX5_set 43 = .ok (.invokevirtual 56, 3) := by decide +kernel
theorem dX5_set_46 : decode cX5_set 46 = .ok (.aload_n 0, 1) := by decide +kernel
theorem dX5_set_47 : decode cX5_set 47 = .ok (.getfield 10, 3) := by decide +kernel
theorem dX5_set_50 : decode cX5_set 50 = .ok (.getfield 141, 3) := by decide +kernel
theorem dX5_set_53 : decode cX5_set 53 = .ok (.iload_n 1, 1) := by decide +kernel
theorem dX5_set_54 : decode cX5_set 54 = .ok (.iaload, 1) := by decide +kernel
theorem dX5_set_55 : decode cX5_set 55 = .ok (.istore_n 3, 1) := by decide +kernel
theorem dX5_set_56 : decode cX5_set 56 = .ok (.aload_n 0, 1) := by decide +kernel
theorem dX5_set_57 : decode cX5_set 57 = .ok (.getfield 10, 3) := by decide +kernel
theorem dX5_set_60 : decode cX5_set 60 = .ok (.getfield 141, 3) := by decide +kernel
theorem dX5_set_63 : decode cX5_set 63 = .ok (.iload_n 1, 1) := by decide +kernel
theorem dX5_set_64 : decode cX5_set 64 = .ok (.iload_n 2, 1) := by decide +kernel
theorem dX5_set_65 : decode cX5_set 65 = .ok (.iastore, 1) := by decide +kernel
theorem dX5_set_66 : decode cX5_set 66 = .ok (.iload_n 3, 1) := by decide +kernel
theorem dX5_set_67 : decode cX5_set 67 = .ok (.ireturn, 1) := by decide +kernel
theorem dX5_pass_0 : decode cX5_pass 0 = .ok (.iload_n 1, 1) := by decide +kernel
theorem dX5_pass_1 : decode cX5_pass 1 = .ok (.iconst 1, 1) := by decide +kernel
theorem dX5_pass_2 : decode cX5_pass 2 = .ok (.bipush 99, 2) := by decide +kernel
theorem dX5_pass_4 : decode cX5_pass 4 = .ok (.invokestatic 37, 3) := by decide +kernel
theorem dX5_pass_7 : decode cX5_pass 7 = .ok (.ifCond .ne 13, 3) := by decide +kernel
theorem dX5_pass_10 : decode cX5_pass 10 = .ok (.new 51, 3) := by decide +kernel
theorem dX5_pass_13 : decode cX5_pass 13 = .ok (.dup, 1) := by decide +kernel
theorem dX5_pass_14 : decode cX5_pass 14 = .ok (.ldc 144, 2) := by decide +kernel
theorem dX5_pass_16 : decode cX5_pass 16 = .ok (.invokespecial 55, 3) := by decide +kernel
theorem dX5_pass_19 : decode cX5_pass 19 = .ok (.athrow, 1) := by decide +kernel
theorem dX5_pass_20 : decode cX5_pass 20 = .ok (.aload_n 0, 1) := by decide +kernel
theorem dX5_pass_21 : decode cX5_pass 21 = .ok (.getfield 10, 3) := by decide +kernel
theorem dX5_pass_24 : decode cX5_pass 24 = .ok (.getfield 146, 3) := by decide +kernel
theorem dX5_pass_27 : decode cX5_pass 27 = .ok (.iload_n 1, 1) := by decide +kernel
theorem dX5_pass_28 : decode cX5_pass 28 = .ok (.iadd, 1) := by decide +kernel
theorem dX5_pass_29 : decode cX5_pass 29 = .ok (.sipush 9999, 3) := by decide +kernel
theorem dX5_pass_32 : decode cX5_pass 32 = .ok (.if_icmp .le 13, 3) := by decide +kernel
theorem dX5_pass_35 : decode cX5_pass 35 = .ok (.new 89, 3) := by decide +kernel
theorem dX5_pass_38 : decode cX5_pass 38 = .ok (.dup, 1) := by decide +kernel
theorem dX5_pass_39 : decode cX5_pass 39 = .ok (.ldc 149, 2) := by decide +kernel
theorem dX5_pass_41 : decode cX5_pass 41 = .ok (.invokespecial 93, 3) := by decide +kernel
theorem dX5_pass_44 : decode cX5_pass 44 = .ok (.athrow, 1) := by decide +kernel
theorem dX5_pass_45 : decode cX5_pass 45 = .ok (.aload_n 0, 1) := by decide +kernel
theorem dX5_pass_46 : decode cX5_pass 46 = .ok (.invokevirtual 56, 3) := by decide +kernel
theorem dX5_pass_49 : decode cX5_pass 49 = .ok (.aload_n 0, 1) := by decide +kernel
theorem dX5_pass_50 : decode cX5_pass 50 = .ok (.getfield 10, 3) := by decide +kernel
theorem dX5_pass_53 : decode cX5_pass 53 = .ok (.getfield 151, 3) := by decide +kernel
theorem dX5_pass_56 : decode cX5_pass 56 = .ok (.istore_n 2, 1) := by decide +kernel
theorem dX5_pass_57 : decode cX5_pass 57 = .ok (.iconst 0, 1) := by decide +kernel
theorem dX5_pass_58 : decode cX5_pass 58 = .ok (.istore_n 3, 1) := by decide +kernel
theorem dX5_pass_59 : decode cX5_pass 59 = .ok (.iload_n 3, 1) := by decide +kernel
theorem dX5_pass_60 : decode cX5_pass 60 = .ok (.iload_n 1, 1) := by decide +kernel
theorem dX5_pass_61 : decode cX5_pass 61 = .ok (.if_icmp .ge 17, 3) := by decide +kernel
theorem dX5_pass_64 : decode cX5_pass 64 = .ok (.aload_n 0, 1) := by decide +kernel
theorem dX5_pass_65 : decode cX5_pass 65 = .ok (.getfield 10, 3) := by decide +kernel
theorem dX5_pass_68 : decode cX5_pass 68 = .ok (.invokevirtual 154, 3) := by decide +kernel
theorem dX5_pass_71 : decode cX5_pass 71 = .ok (.pop, 1) := by decide +kernel
theorem dX5_pass_72 : decode cX5_pass 72 = .ok (.iinc 3 1, 3) := by decide +kernel
theorem dX5_pass_75 : decode cX5_pass 75 = .ok (.goto (-16), 3) := by decide +kernel
theorem dX5_pass_78 : decode cX5_pass 78 = .ok (.aload_n 0, 1) := by decide +kernel
theorem dX5_pass_79 : decode cX5_pass 79 = .ok (.getfield 10, 3) := by decide +kernel
theorem dX5_pass_82 : decode cX5_pass 82 = .ok (.getfield 151, 3) := by decide +kernel
theorem dX5_pass_85 : decode cX5_pass 85 = .ok (.iload_n 2, 1) := by decide +kernel
theorem dX5_pass_86 : decode cX5_pass 86 = .ok (.isub, 1) := by decide +kernel
theorem dX5_pass_87 : decode cX5_pass 87 = .ok (.ireturn, 1) := by decide +kernel
theorem dX5_append_0 : decode cX5_append 0 = .ok (.iload_n 1, 1) := by decide +kernel
theorem dX5_append_1 : decode cX5_append 1 = .ok (.bipush 33, 2) := by decide +kernel
theorem dX5_append_3 : decode cX5_append 3 = .ok (.bipush 126, 2) := by decide +kernel
theorem dX5_append_5 : decode cX5_append 5 = .ok (.invokestatic 37, 3) := by decide +kernel
theorem dX5_append_8 : decode cX5_append 8 = .ok (.ifCond .ne 13, 3) := by decide +kernel
theorem dX5_append_11 : decode cX5_append 11 = .ok (.new 51, 3) := by decide +kernel
theorem dX5_append_14 : decode cX5_append 14 = .ok (.dup, 1) := by decide +kernel
theorem dX5_append_15 : decode cX5_append 15 = .ok (.ldc 158, 2) := by decide +kernel
theorem dX5_append_17 : decode cX5_append 17 = .ok (.invokespecial 55, 3) := by decide +kernel
theorem dX5_append_20 : decode cX5_append 20 = .ok (.athrow, 1) := by decide +kernel
theorem dX5_append_21 : decode cX5_append 21 = .ok (.aload_n 0, 1) := by decide +kernel
theorem dX5_append_22 : decode cX5_append 22 = .ok (.getfield 160, 3) := by decide +kernel
theorem dX5_append_25 : decode cX5_append 25 = .ok (.iconst 0, 1) := by decide +kernel
theorem dX5_append_26 : decode cX5_append 26 = .ok (.aload_n 0, 1) := by decide +kernel
theorem dX5_append_27 : decode cX5_append 27 = .ok (.getfield 23, 3) := by decide +kernel
theorem dX5_append_30 : decode cX5_append 30 = .ok (.arraylength, 1) := by decide +kernel
theorem dX5_append_31 : decode cX5_append 31 = .ok (.iconst 1, 1) := by decide +kernel
theorem dX5_append_32 : decode cX5_append 32 = .ok (.isub, 1) := by decide +kernel
theorem dX5_append_33 : decode cX5_append 33 = .ok (.invokestatic 37, 3) := by decide +kernel
theorem dX5_append_36 : decode cX5_append 36 = .ok (.ifCond .ne 13, 3) := by decide +kernel
theorem dX5_append_39 : decode cX5_append 39 = .ok (.new 89, 3) := by decide +kernel
theorem dX5_append_42 : decode cX5_append 42 = .ok (.dup, 1) := by decide +kernel
theorem dX5_append_43 : decode cX5_append 43 = .ok (.ldc 163, 2) := by decide +kernel
theorem dX5_append_45 : decode cX5_append 45 = .ok (.invokespecial 93, 3) := by decide +kernel
theorem dX5_append_48 : decode cX5_append 48 = .ok (.athrow, 1) := by decide +kernel
theorem dX5_append_49 : decode cX5_append 49 = .ok (.aload_n 0, 1) := by decide +kernel
theorem dX5_append_50 : decode cX5_append 50 = .ok (.getfield 23, 3) := by decide +kernel
theorem dX5_append_53 : decode cX5_append 53 = .ok (.aload_n 0, 1) := by decide +kernel
theorem dX5_append_54 : decode cX5_append 54 = .ok (.getfield 160, 3) := by decide +kernel
theorem dX5_append_57 : decode cX5_append 57 = .ok (.iload_n 1, 1) := by decide +kernel
theorem dX5_append_58 : decode cX5_append 58 = .ok (.iastore, 1) := by decide +kernel
theorem dX5_append_59 : decode cX5_append 59 = .ok (.aload_n 0, 1) := by decide +kernel
theorem dX5_append_60 : decode cX5_append 60 = .ok (.dup, 1) := by decide +kernel
theorem dX5_append_61 : decode cX5_append 61 = .ok (.getfield 160, 3) := by decide +kernel
theorem dX5_append_64 : decode cX5_append 64 = .ok (.iconst 1, 1) := by decide +kernel
theorem dX5_append_65 : decode cX5_append 65 = .ok (.iadd, 1) := by decide +kernel
theorem dX5_append_66 : decode cX5_append 66 = .ok (.putfield 160, 3) := by decide +kernel
theorem dX5_append_69 : decode cX5_append 69 = .ok (.aload_n 0, 1) := by decide +kernel
theorem dX5_append_70 : decode cX5_append 70 = .ok (.getfield 160, 3) := by decide +kernel
theorem dX5_append_73 : decode cX5_append 73 = .ok (.ireturn, 1) := by decide +kernel
theorem dX5_clearBuffer_0 : decode cX5_clearBuffer 0 = .ok (.aload_n 0, 1) := by decide +kernel
theorem dX5_clearBuffer_1 : decode cX5_clearBuffer 1 = .ok (.getfield 160, 3) := by decide +kernel
theorem dX5_clearBuffer_4 : decode cX5_clearBuffer 4 = .ok (.istore_n 1, 1) := by decide +kernel
theorem dX5_clearBuffer_5 : decode cX5_clearBuffer 5 = .ok (.aload_n 0, 1) := by decide +kernel
theorem dX5_clearBuffer_6 : decode cX5_clearBuffer 6 = .ok (.iconst 0, 1) := by decide +kernel
theorem dX5_clearBuffer_7 : decode cX5_clearBuffer 7 = .ok (.putfield 160, 3) := by decide +kernel
theorem dX5_clearBuffer_10 : decode cX5_clearBuffer 10 = .ok (.iload_n 1, 1) := by decide +kernel
theorem dX5_clearBuffer_11 : decode cX5_clearBuffer 11 = .ok (.ireturn, 1) := by decide +kernel
theorem dX5_firstError_0 : decode cX5_firstError 0 = .ok (.aload_n 0, 1) := by decide +kernel
theorem dX5_firstError_1 : decode cX5_firstError 1 = .ok (.invokevirtual 165, 3) := by decide +kernel
theorem dX5_firstError_4 : decode cX5_firstError 4 = .ok (.ireturn, 1) := by decide +kernel
theorem dX5_takeAll_0 : decode cX5_takeAll 0 = .ok (.aload_n 0, 1) := by decide +kernel
theorem dX5_takeAll_1 : decode cX5_takeAll 1 = .ok (.invokevirtual 165, 3) := by decide +kernel
theorem dX5_takeAll_4 : decode cX5_takeAll 4 = .ok (.aload_n 0, 1) := by decide +kernel
theorem dX5_takeAll_5 : decode cX5_takeAll 5 = .ok (.getfield 160, 3) := by decide +kernel
theorem dX5_takeAll_8 : decode cX5_takeAll 8 = .ok (.if_icmp .lt 13, 3) := by decide +kernel
theorem dX5_takeAll_11 : decode cX5_takeAll 11 = .ok (.aload_n 0, 1) := by decide +kernel
theorem dX5_takeAll_12 : decode cX5_takeAll 12 = .ok (.getfield 30, 3) := by decide +kernel
theorem dX5_takeAll_15 : decode cX5_takeAll 15 = .ok (.invokevirtual 168, 3) := by decide +kernel
theorem dX5_takeAll_18 : decode cX5_takeAll 18 = .ok (.ifCond .ne 13, 3) := by decide +kernel
theorem dX5_takeAll_21 : decode cX5_takeAll 21 = .ok (.new 51, 3) := by decide +kernel
theorem dX5_takeAll_24 : decode cX5_takeAll 24 = .ok (.dup, 1) := by decide +kernel
theorem dX5_takeAll_25 : decode cX5_takeAll 25 = .ok (.ldc 172, 2) := by decide +kernel
theorem dX5_takeAll_27 : decode cX5_takeAll 27 = .ok (.invokespecial 55, 3) := by decide +kernel
theorem dX5_takeAll_30 : decode cX5_takeAll 30 = .ok (.athrow, 1) := by decide +kernel
theorem dX5_takeAll_31 : decode cX5_takeAll 31 = .ok (.aload_n 0, 1) := by decide +kernel
theorem dX5_takeAll_32 : decode cX5_takeAll 32 = .ok (.getfield 10, 3) := by decide +kernel
theorem dX5_takeAll_35 : decode cX5_takeAll 35 = .ok (.getfield 110, 3) := by decide +kernel
theorem dX5_takeAll_38 : decode cX5_takeAll 38 = .ok (.aload_n 0, 1) := by decide +kernel
theorem dX5_takeAll_39 : decode cX5_takeAll 39 = .ok (.getfield 30, 3) := by decide +kernel
theorem dX5_takeAll_42 : decode cX5_takeAll 42 = .ok (.getfield 174, 3) := by decide +kernel
theorem dX5_takeAll_45 : decode cX5_takeAll 45 = .ok (.iadd, 1) := by decide +kernel
theorem dX5_takeAll_46 : decode cX5_takeAll 46 = .ok (.bipush 10, 2) := by decide +kernel
theorem dX5_takeAll_48 : decode cX5_takeAll 48 = .ok (.if_icmp .le 13, 3) := by decide +kernel
theorem dX5_takeAll_51 : decode cX5_takeAll 51 = .ok (.new 89, 3) := by decide +kernel
theorem dX5_takeAll_54 : decode cX5_takeAll 54 = .ok (.dup, 1) := by decide +kernel
theorem dX5_takeAll_55 : decode cX5_takeAll 55 = .ok (.ldc 113, 2) := by decide +kernel
theorem dX5_takeAll_57 : decode cX5_takeAll 57 = .ok (.invokespecial 93, 3) := by decide +kernel
theorem dX5_takeAll_60 : decode cX5_takeAll 60 = .ok (.athrow, 1) := by decide +kernel
theorem dX5_takeAll_61 : decode cX5_takeAll 61 = .ok (.aload_n 0, 1) := by decide +kernel
theorem dX5_takeAll_62 : decode cX5_takeAll 62 = .ok (.invokevirtual 56, 3) := by decide +kernel
theorem dX5_takeAll_65 : decode cX5_takeAll 65 = .ok (.aload_n 0, 1) := by decide +kernel
theorem dX5_takeAll_66 : decode cX5_takeAll 66 = .ok (.invokevirtual 177, 3) := by decide +kernel
theorem dX5_takeAll_69 : decode cX5_takeAll 69 = .ok (.aload_n 0, 1) := by decide +kernel
theorem dX5_takeAll_70 : decode cX5_takeAll 70 = .ok (.iconst 0, 1) := by decide +kernel
theorem dX5_takeAll_71 : decode cX5_takeAll 71 = .ok (.putfield 160, 3) := by decide +kernel
theorem dX5_takeAll_74 : decode cX5_takeAll 74 = .ok (.aload_n 0, 1) := by decide +kernel
theorem dX5_takeAll_75 : decode cX5_takeAll 75 = .ok (.getfield 10, 3) := by decide +kernel
theorem dX5_takeAll_78 : decode cX5_takeAll 78 = .ok (.getfield 110, 3) := by decide +kernel
theorem dX5_takeAll_81 : decode cX5_takeAll 81 = .ok (.ireturn, 1) := by decide +kernel
theorem dX5_undo_0 : decode cX5_undo 0 = .ok (.aload_n 0, 1) := by decide +kernel
theorem dX5_undo_1 : decode cX5_undo 1 = .ok (.getfield 180, 3) := by decide +kernel
theorem dX5_undo_4 : decode cX5_undo 4 = .ok (.iconst 1, 1) := by decide +kernel
theorem dX5_undo_5 : decode cX5_undo 5 = .ok (.aload_n 0, 1) := by decide +kernel
theorem dX5_undo_6 : decode cX5_undo 6 = .ok (.getfield 19, 3) := by decide +kernel
theorem dX5_undo_9 : decode cX5_undo 9 = .ok (.arraylength, 1) := by decide +kernel
theorem dX5_undo_10 : decode cX5_undo 10 = .ok (.invokestatic 37, 3) := by decide +kernel
theorem dX5_undo_13 : decode cX5_undo 13 = .ok (.ifCond .ne 13, 3) := by decide +kernel
theorem dX5_undo_16 : decode cX5_undo 16 = .ok (.new 89, 3) := by decide +kernel
theorem dX5_undo_19 : decode cX5_undo 19 = .ok (.dup, 1) := by decide +kernel
theorem dX5_undo_20 : decode cX5_undo 20 = .ok (.ldc 183, 2) := by decide +kernel
theorem dX5_undo_22 : decode cX5_undo 22 = .ok (.invokespecial 93, 3) := by decide +kernel
theorem dX5_undo_25 : decode cX5_undo 25 = .ok (.athrow, 1) := by decide +kernel
theorem dX5_undo_26 : decode cX5_undo 26 = .ok (.aload_n 0, 1) := by decide +kernel
theorem dX5_undo_27 : decode cX5_undo 27 = .ok (.dup, 1) := by decide +kernel
theorem dX5_undo_28 : decode cX5_undo 28 = .ok (.getfield 180, 3) := by decide +kernel
theorem dX5_undo_31 : decode cX5_undo 31 = .ok (.iconst 1, 1) := by decide +kernel
theorem dX5_undo_32 : decode cX5_undo 32 = .ok (.isub, 1) := by decide +kernel
theorem dX5_undo_33 : decode cX5_undo 33 = .ok (.putfield 180, 3) := by decide +kernel
theorem dX5_undo_36 : decode cX5_undo 36 = .ok (.aload_n 0, 1) := by decide +kernel
theorem dX5_undo_37 : decode cX5_undo 37 = .ok (.getfield 10, 3) := by decide +kernel
theorem dX5_undo_40 : decode cX5_undo 40 = .ok (.aload_n 0, 1) := by decide +kernel
theorem dX5_undo_41 : decode cX5_undo 41 = .ok (.getfield 19, 3) := by decide +kernel
theorem dX5_undo_44 : decode cX5_undo 44 = .ok (.aload_n 0, 1) := by decide +kernel
theorem dX5_undo_45 : decode cX5_undo 45 = .ok (.getfield 180, 3) := by decide +kernel
theorem dX5_undo_48 : decode cX5_undo 48 = .ok (.aaload, 1) := by decide +kernel
theorem dX5_undo_49 : decode cX5_undo 49 = .ok (.invokevirtual 185, 3) := by decide +kernel
theorem dX5_undo_52 : decode cX5_undo 52 = .ok (.aload_n 0, 1) := by decide +kernel
theorem dX5_undo_53 : decode cX5_undo 53 = .ok (.getfield 180, 3) := by decide +kernel
theorem dX5_undo_56 : decode cX5_undo 56 = .ok (.ireturn, 1) := by decide +kernel
theorem dX5_weaver_0 : decode cX5_weaver 0 = .ok (.iload_n 1, 1) := by decide +kernel
theorem dX5_weaver_1 : decode cX5_weaver 1 = .ok (.iconst 0, 1) := by decide +kernel
theorem dX5_weaver_2 : decode cX5_weaver 2 = .ok (.iconst 5, 1) := by decide +kernel
theorem dX5_weaver_3 : decode cX5_weaver 3 = .ok (.invokestatic 37, 3) := by decide +kernel
theorem dX5_weaver_6 : decode cX5_weaver 6 = .ok (.ifCond .ne 13, 3) := by decide +kernel
theorem dX5_weaver_9 : decode cX5_weaver 9 = .ok (.new 41, 3) := by decide +kernel
theorem dX5_weaver_12 : decode cX5_weaver 12 = .ok (.dup, 1) := by decide +kernel
theorem dX5_weaver_13 : decode cX5_weaver 13 = .ok (.ldc 43, 2) := by decide +kernel
theorem dX5_weaver_15 : decode cX5_weaver 15 = .ok (.invokespecial 45, 3) := by decide +kernel
theorem dX5_weaver_18 : decode cX5_weaver 18 = .ok (.athrow, 1) := by decide +kernel
theorem dX5_weaver_19 : decode cX5_weaver 19 = .ok (.iload_n 2, 1) := by decide +kernel
theorem dX5_weaver_20 : decode cX5_weaver 20 = .ok (.iconst 0, 1) := by decide +kernel
theorem dX5_weaver_21 : decode cX5_weaver 21 = .ok (.bipush 7, 2) := by decide +kernel
theorem dX5_weaver_23 : decode cX5_weaver 23 = .ok (.invokestatic 37, 3) := by decide +kernel
theorem dX5_weaver_26 : decode cX5_weaver 26 = .ok (.ifCond .ne 13, 3) := by decide +kernel
theorem dX5_weaver_29 : decode cX5_weaver 29 = .ok (.new 51, 3) := by decide +kernel
theorem dX5_weaver_32 : decode cX5_weaver 32 = .ok (.dup, 1) := by decide +kernel
theorem dX5_weaver_33 : decode cX5_weaver 33 = .ok (.ldc 189, 2) := by decide +kernel
theorem dX5_weaver_35 : decode cX5_weaver 35 = .ok (.invokespecial 55, 3) := by decide +kernel
theorem dX5_weaver_38 : decode cX5_weaver 38 = .ok (.athrow, 1) := by decide +kernel
theorem dX5_weaver_39 : decode cX5_weaver 39 = .ok (.aload_n 0, 1) := by decide +kernel
theorem dX5_weaver_40 : decode cX5_weaver 40 = .ok (.getfield 10, 3) := by decide +kernel
theorem dX5_weaver_43 : decode cX5_weaver 43 = .ok (.getfield 59, 3) := by decide +kernel
theorem dX5_weaver_46 : decode cX5_weaver 46 = .ok (.iload_n 1, 1) := by decide +kernel
theorem dX5_weaver_47 : decode cX5_weaver 47 = .ok (.aaload, 1) := by decide +kernel
theorem dX5_weaver_48 : decode cX5_weaver 48 = .ok (.iload_n 2, 1) := by decide +kernel
theorem dX5_weaver_49 : decode cX5_weaver 49 = .ok (.invokevirtual 191, 3) := by decide +kernel
theorem dX5_weaver_52 : decode cX5_weaver 52 = .ok (.ireturn, 1) := by decide +kernel
theorem dX5_share_0 : decode cX5_share 0 = .ok (.iload_n 1, 1) := by decide +kernel
theorem dX5_share_1 : decode cX5_share 1 = .ok (.iconst (-1), 1) := by decide +kernel
theorem dX5_share_2 : decode cX5_share 2 = .ok (.iconst 5, 1) := by decide +kernel
theorem dX5_share_3 : decode cX5_share 3 = .ok (.invokestatic 37, 3) := by decide +kernel
theorem dX5_share_6 : decode cX5_share 6 = .ok (.ifCond .eq 12, 3) := by decide +kernel
theorem dX5_share_9 : decode cX5_share 9 = .ok (.iload_n 2, 1) := by decide +kernel
theorem dX5_share_10 : decode cX5_share 10 = .ok (.iconst 0, 1) := by decide +kernel
theorem dX5_share_11 : decode cX5_share 11 = .ok (.iconst 3, 1) := by decide +kernel
theorem dX5_share_12 : decode cX5_share 12 = .ok (.invokestatic 37, 3) := by decide +kernel
theorem dX5_share_15 : decode cX5_share 15 = .ok (.ifCond .ne 13, 3) := by decide +kernel
theorem dX5_share_18 : decode cX5_share 18 = .ok (.new 41, 3) := by decide +kernel
theorem dX5_share_21 : decode cX5_share 21 = .ok (.dup, 1) := by decide +kernel
theorem dX5_share_22 : decode cX5_share 22 = .ok (.ldc 75, 2) := by decide +kernel
theorem dX5_share_24 : decode cX5_share 24 = .ok (.invokespecial 45, 3) := by decide +kernel
theorem dX5_share_27 : decode cX5_share 27 = .ok (.athrow, 1) := by decide +kernel
theorem dX5_share_28 : decode cX5_share 28 = .ok (.iload_n 1, 1) := by decide +kernel
theorem dX5_share_29 : decode cX5_share 29 = .ok (.iconst (-1), 1) := by decide +kernel
theorem dX5_share_30 : decode cX5_share 30 = .ok (.if_icmp .ne 17, 3) := by decide +kernel
theorem dX5_share_33 : decode cX5_share 33 = .ok (.aload_n 0, 1) := by decide +kernel
theorem dX5_share_34 : decode cX5_share 34 = .ok (.getfield 10, 3) := by decide +kernel
theorem dX5_share_37 : decode cX5_share 37 = .ok (.getfield 100, 3) := by decide +kernel
theorem dX5_share_40 : decode cX5_share 40 = .ok (.iload_n 2, 1) := by decide +kernel
theorem dX5_share_41 : decode cX5_share 41 = .ok (.invokevirtual 83, 3) := by decide +kernel
theorem dX5_share_44 : decode cX5_share 44 = .ok (.goto 19, 3) := by decide +kernel
theorem dX5_share_47 : decode cX5_share 47 = .ok (.aload_n 0, 1) := by decide +kernel
theorem dX5_share_48 : decode cX5_share 48 = .ok (.getfield 10, 3) := by decide +kernel
theorem dX5_share_51 : decode cX5_share 51 = .ok (.getfield 59, 3) := by decide +kernel
theorem dX5_share_54 : decode cX5_share 54 = .ok (.iload_n 1, 1) := by decide +kernel
theorem dX5_share_55 : decode cX5_share 55 = .ok (.aaload, 1) := by decide +kernel
theorem dX5_share_56 : decode cX5_share 56 = .ok (.getfield 79, 3) := by decide +kernel
theorem dX5_share_59 : decode cX5_share 59 = .ok (.iload_n 2, 1) := by decide +kernel
theorem dX5_share_60 : decode cX5_share 60 = .ok (.invokevirtual 83, 3) := by decide +kernel
theorem dX5_share_63 : decode cX5_share 63 = .ok (.ireturn, 1) := by decide +kernel
theorem dX5_orderOf_0 : decode cX5_orderOf 0 = .ok (.iload_n 1, 1) := by decide +kernel
theorem dX5_orderOf_1 : decode cX5_orderOf 1 = .ok (.ifCond .lt 13, 3) := by decide +kernel
theorem dX5_orderOf_4 : decode cX5_orderOf 4 = .ok (.iload_n 2, 1) := by decide +kernel
theorem dX5_orderOf_5 : decode cX5_orderOf 5 = .ok (.iconst 0, 1) := by decide +kernel
theorem dX5_orderOf_6 : decode cX5_orderOf 6 = .ok (.bipush 8, 2) := by decide +kernel
theorem dX5_orderOf_8 : decode cX5_orderOf 8 = .ok (.invokestatic 37, 3) := by decide +kernel
theorem dX5_orderOf_11 : decode cX5_orderOf 11 = .ok (.ifCond .ne 13, 3) := by decide +kernel
theorem dX5_orderOf_14 : decode cX5_orderOf 14 = .ok (.new 51, 3) := by decide +kernel
theorem dX5_orderOf_17 : decode cX5_orderOf 17 = .ok (.dup, 1) := by decide +kernel
theorem dX5_orderOf_18 : decode cX5_orderOf 18 = .ok (.ldc 194, 2) := by decide +kernel
theorem dX5_orderOf_20 : decode cX5_orderOf 20 = .ok (.invokespecial 55, 3) := by decide +kernel
theorem dX5_orderOf_23 : decode cX5_orderOf 23 = .ok (.athrow, 1) := by decide +kernel
theorem dX5_orderOf_24 : decode cX5_orderOf 24 = .ok (.aload_n 0, 1) := by decide +kernel
theorem dX5_orderOf_25 : decode cX5_orderOf 25 = .ok (.getfield 10, 3) := by decide +kernel
theorem dX5_orderOf_28 : decode cX5_orderOf 28 = .ok (.iload_n 1, 1) := by decide +kernel
theorem dX5_orderOf_29 : decode cX5_orderOf 29 = .ok (.iload_n 2, 1) := by decide +kernel
theorem dX5_orderOf_30 : decode cX5_orderOf 30 = .ok (.invokevirtual 196, 3) := by decide +kernel
theorem dX5_orderOf_33 : decode cX5_orderOf 33 = .ok (.ireturn, 1) := by decide +kernel
theorem dX5_wovenBy_0 : decode cX5_wovenBy 0 = .ok (.iload_n 1, 1) := by decide +kernel
theorem dX5_wovenBy_1 : decode cX5_wovenBy 1 = .ok (.ifCond .ge 13, 3) := by decide +kernel
theorem dX5_wovenBy_4 : decode cX5_wovenBy 4 = .ok (.new 51, 3) := by decide +kernel
theorem dX5_wovenBy_7 : decode cX5_wovenBy 7 = .ok (.dup, 1) := by decide +kernel
theorem dX5_wovenBy_8 : decode cX5_wovenBy 8 = .ok (.ldc 199, 2) := by decide +kernel
theorem dX5_wovenBy_10 : decode cX5_wovenBy 10 = .ok (.invokespecial 55, 3) := by decide +kernel
theorem dX5_wovenBy_13 : decode cX5_wovenBy 13 = .ok (.athrow, 1) := by decide +kernel
theorem dX5_wovenBy_14 : decode cX5_wovenBy 14 = .ok (.iload_n 2, 1) := by decide +kernel
theorem dX5_wovenBy_15 : decode cX5_wovenBy 15 = .ok (.iconst 0, 1) := by decide +kernel
theorem dX5_wovenBy_16 : decode cX5_wovenBy 16 = .ok (.iconst 5, 1) := by decide +kernel
theorem dX5_wovenBy_17 : decode cX5_wovenBy 17 = .ok (.invokestatic 37, 3) := by decide +kernel
theorem dX5_wovenBy_20 : decode cX5_wovenBy 20 = .ok (.ifCond .ne 13, 3) := by decide +kernel
theorem dX5_wovenBy_23 : decode cX5_wovenBy 23 = .ok (.new 41, 3) := by decide +kernel
theorem dX5_wovenBy_26 : decode cX5_wovenBy 26 = .ok (.dup, 1) := by decide +kernel
theorem dX5_wovenBy_27 : decode cX5_wovenBy 27 = .ok (.ldc 43, 2) := by decide +kernel
theorem dX5_wovenBy_29 : decode cX5_wovenBy 29 = .ok (.invokespecial 45, 3) := by decide +kernel
theorem dX5_wovenBy_32 : decode cX5_wovenBy 32 = .ok (.athrow, 1) := by decide +kernel
theorem dX5_wovenBy_33 : decode cX5_wovenBy 33 = .ok (.aload_n 0, 1) := by decide +kernel
theorem dX5_wovenBy_34 : decode cX5_wovenBy 34 = .ok (.getfield 10, 3) := by decide +kernel
theorem dX5_wovenBy_37 : decode cX5_wovenBy 37 = .ok (.iload_n 1, 1) := by decide +kernel
theorem dX5_wovenBy_38 : decode cX5_wovenBy 38 = .ok (.invokevirtual 201, 3) := by decide +kernel
theorem dX5_wovenBy_41 : decode cX5_wovenBy 41 = .ok (.astore_n 3, 1) := by decide +kernel
theorem dX5_wovenBy_42 : decode cX5_wovenBy 42 = .ok (.aload_n 3, 1) := by decide +kernel
theorem dX5_wovenBy_43 : decode cX5_wovenBy 43 = .ok (.ifnonnull 7, 3) := by decide +kernel
theorem dX5_wovenBy_46 : decode cX5_wovenBy 46 = .ok (.iconst (-1), 1) := by decide +kernel
theorem dX5_wovenBy_47 : decode cX5_wovenBy 47 = .ok (.goto 9, 3) := by decide +kernel
theorem dX5_wovenBy_50 : decode cX5_wovenBy 50 = .ok (.aload_n 3, 1) := by decide +kernel
theorem dX5_wovenBy_51 : decode cX5_wovenBy 51 = .ok (.getfield 204, 3) := by decide +kernel
theorem dX5_wovenBy_54 : decode cX5_wovenBy 54 = .ok (.iload_n 2, 1) := by decide +kernel
theorem dX5_wovenBy_55 : decode cX5_wovenBy 55 = .ok (.iaload, 1) := by decide +kernel
theorem dX5_wovenBy_56 : decode cX5_wovenBy 56 = .ok (.ireturn, 1) := by decide +kernel
theorem dX5_next_0 : decode cX5_next 0 = .ok (.iload_n 1, 1) := by decide +kernel
theorem dX5_next_1 : decode cX5_next 1 = .ok (.iconst 0, 1) := by decide +kernel
theorem dX5_next_2 : decode cX5_next 2 = .ok (.iconst 5, 1) := by decide +kernel
theorem dX5_next_3 : decode cX5_next 3 = .ok (.invokestatic 37, 3) := by decide +kernel
theorem dX5_next_6 : decode cX5_next 6 = .ok (.ifCond .ne 13, 3) := by decide +kernel
theorem dX5_next_9 : decode cX5_next 9 = .ok (.new 41, 3) := by decide +kernel
theorem dX5_next_12 : decode cX5_next 12 = .ok (.dup, 1) := by decide +kernel
theorem dX5_next_13 : decode cX5_next 13 = .ok (.ldc 43, 2) := by decide +kernel
theorem dX5_next_15 : decode cX5_next 15 = .ok (.invokespecial 45, 3) := by decide +kernel
theorem dX5_next_18 : decode cX5_next 18 = .ok (.athrow, 1) := by decide +kernel
theorem dX5_next_19 : decode cX5_next 19 = .ok (.iload_n 2, 1) := by decide +kernel
theorem dX5_next_20 : decode cX5_next 20 = .ok (.iconst 0, 1) := by decide +kernel
theorem dX5_next_21 : decode cX5_next 21 = .ok (.iconst 1, 1) := by decide +kernel
theorem dX5_next_22 : decode cX5_next 22 = .ok (.invokestatic 37, 3) := by decide +kernel
theorem dX5_next_25 : decode cX5_next 25 = .ok (.ifCond .ne 13, 3) := by decide +kernel
theorem dX5_next_28 : decode cX5_next 28 = .ok (.new 51, 3) := by decide +kernel
theorem dX5_next_31 : decode cX5_next 31 = .ok (.dup, 1) := by decide +kernel
theorem dX5_next_32 : decode cX5_next 32 = .ok (.ldc 207, 2) := by decide +kernel
theorem dX5_next_34 : decode cX5_next 34 = .ok (.invokespecial 55, 3) := by decide +kernel
theorem dX5_next_37 : decode cX5_next 37 = .ok (.athrow, 1) := by decide +kernel
theorem dX5_next_38 : decode cX5_next 38 = .ok (.aload_n 0, 1) := by decide +kernel
theorem dX5_next_39 : decode cX5_next 39 = .ok (.getfield 10, 3) := by decide +kernel
theorem dX5_next_42 : decode cX5_next 42 = .ok (.getfield 59, 3) := by decide +kernel
theorem dX5_next_45 : decode cX5_next 45 = .ok (.iload_n 1, 1) := by decide +kernel
theorem dX5_next_46 : decode cX5_next 46 = .ok (.aaload, 1) := by decide +kernel
theorem dX5_next_47 : decode cX5_next 47 = .ok (.astore_n 3, 1) := by decide +kernel
theorem dX5_next_48 : decode cX5_next 48 = .ok (.iload_n 2, 1) := by decide +kernel
theorem dX5_next_49 : decode cX5_next 49 = .ok (.ifCond .ne 14, 3) := by decide +kernel
theorem dX5_next_52 : decode cX5_next 52 = .ok (.aload_n 0, 1) := by decide +kernel
theorem dX5_next_53 : decode cX5_next 53 = .ok (.getfield 10, 3) := by decide +kernel
theorem dX5_next_56 : decode cX5_next 56 = .ok (.aload_n 3, 1) := by decide +kernel
theorem dX5_next_57 : decode cX5_next 57 = .ok (.invokevirtual 209, 3) := by decide +kernel
theorem dX5_next_60 : decode cX5_next 60 = .ok (.goto 11, 3) := by decide +kernel
theorem dX5_next_63 : decode cX5_next 63 = .ok (.aload_n 0, 1) := by decide +kernel
theorem dX5_next_64 : decode cX5_next 64 = .ok (.getfield 10, 3) := by decide +kernel
theorem dX5_next_67 : decode cX5_next 67 = .ok (.aload_n 3, 1) := by decide +kernel
theorem dX5_next_68 : decode cX5_next 68 = .ok (.invokevirtual 213, 3) := by decide +kernel
theorem dX5_next_71 : decode cX5_next 71 = .ok (.ireturn, 1) := by decide +kernel
theorem dX5_count_0 : decode cX5_count 0 = .ok (.iload_n 1, 1) := by decide +kernel
theorem dX5_count_1 : decode cX5_count 1 = .ok (.iconst 0, 1) := by decide +kernel
theorem dX5_count_2 : decode cX5_count 2 = .ok (.bipush 11, 2) := by decide +kernel
theorem dX5_count_4 : decode cX5_count 4 = .ok (.invokestatic 37, 3) := by decide +kernel
theorem dX5_count_7 : decode cX5_count 7 = .ok (.ifCond .ne 13, 3) := by decide +kernel
theorem dX5_count_10 : decode cX5_count 10 = .ok (.new 51, 3) := by decide +kernel
theorem dX5_count_13 : decode cX5_count 13 = .ok (.dup, 1) := by decide +kernel
theorem dX5_count_14 : decode cX5_count 14 = .ok (.ldc 216, 2) := by decide +kernel
theorem dX5_count_16 : decode cX5_count 16 = .ok (.invokespecial 55, 3) := by decide +kernel
theorem dX5_count_19 : decode cX5_count 19 = .ok (.athrow, 1) := by decide +kernel
theorem dX5_count_20 : decode cX5_count 20 = .ok (.aload_n 0, 1) := by decide +kernel
theorem dX5_count_21 : decode cX5_count 21 = .ok (.iload_n 1, 1) := by decide +kernel
theorem dX5_count_22 : decode cX5_count 22 = .ok (.invokevirtual 218, 3) := by decide +kernel
theorem dX5_count_25 : decode cX5_count 25 = .ok (.ireturn, 1) := by decide +kernel
theorem dX5_setting_0 : decode cX5_setting 0 = .ok (.iload_n 1, 1) := by decide +kernel
theorem dX5_setting_1 : decode cX5_setting 1 = .ok (.iconst 0, 1) := by decide +kernel
theorem dX5_setting_2 : decode cX5_setting 2 = .ok (.iconst 3, 1) := by decide +kernel
theorem dX5_setting_3 : decode cX5_setting 3 = .ok (.invokestatic 37, 3) := by decide +kernel
theorem dX5_setting_6 : decode cX5_setting 6 = .ok (.ifCond .ne 13, 3) := by decide +kernel
theorem dX5_setting_9 : decode cX5_setting 9 = .ok (.new 41, 3) := by decide +kernel
theorem dX5_setting_12 : decode cX5_setting 12 = .ok (.dup, 1) := by decide +kernel
theorem dX5_setting_13 : decode cX5_setting 13 = .ok (.ldc 134, 2) := by decide +kernel
theorem dX5_setting_15 : decode cX5_setting 15 = .ok (.invokespecial 45, 3) := by decide +kernel
theorem dX5_setting_18 : decode cX5_setting 18 = .ok (.athrow, 1) := by decide +kernel
theorem dX5_setting_19 : decode cX5_setting 19 = .ok (.aload_n 0, 1) := by decide +kernel
theorem dX5_setting_20 : decode cX5_setting 20 = .ok (.getfield 10, 3) := by decide +kernel
theorem dX5_setting_23 : decode cX5_setting 23 = .ok (.getfield 141, 3) := by decide +kernel
theorem dX5_setting_26 : decode cX5_setting 26 = .ok (.iload_n 1, 1) := by decide +kernel
theorem dX5_setting_27 : decode cX5_setting 27 = .ok (.iaload, 1) := by decide +kernel
theorem dX5_setting_28 : decode cX5_setting 28 = .ok (.ireturn, 1) := by decide +kernel
theorem dX5_ifPassed_0 : decode cX5_ifPassed 0 = .ok (.iload_n 1, 1) := by decide +kernel
theorem dX5_ifPassed_1 : decode cX5_ifPassed 1 = .ok (.iconst 1, 1) := by decide +kernel
theorem dX5_ifPassed_2 : decode cX5_ifPassed 2 = .ok (.sipush 200, 3) := by decide +kernel
theorem dX5_ifPassed_5 : decode cX5_ifPassed 5 = .ok (.invokestatic 37, 3) := by decide +kernel
theorem dX5_ifPassed_8 : decode cX5_ifPassed 8 = .ok (.ifCond .eq 12, 3) := by decide +kernel
theorem dX5_ifPassed_11 : decode cX5_ifPassed 11 = .ok (.iload_n 2, 1) := by decide +kernel
theorem dX5_ifPassed_12 : decode cX5_ifPassed 12 = .ok (.iconst 0, 1) := by decide +kernel
theorem dX5_ifPassed_13 : decode cX5_ifPassed 13 = .ok (.iconst 4, 1) := by decide +kernel
theorem dX5_ifPassed_14 : decode cX5_ifPassed 14 = .ok (.invokestatic 37, 3) := by decide +kernel
theorem dX5_ifPassed_17 : decode cX5_ifPassed 17 = .ok (.ifCond .ne 13, 3) := by decide +kernel
theorem dX5_ifPassed_20 : decode cX5_ifPassed 20 = .ok (.new 51, 3) := by decide +kernel
theorem dX5_ifPassed_23 : decode cX5_ifPassed 23 = .ok (.dup, 1) := by decide +kernel
theorem dX5_ifPassed_24 : decode cX5_ifPassed 24 = .ok (.ldc 221, 2) := by decide +kernel
theorem dX5_ifPassed_26 : decode cX5_ifPassed 26 = .ok (.invokespecial 55, 3) := by decide +kernel
theorem dX5_ifPassed_29 : decode cX5_ifPassed 29 = .ok (.athrow, 1) := by decide +kernel
theorem dX5_ifPassed_30 : decode cX5_ifPassed 30 = .ok (.aload_n 0, 1) := by decide +kernel
theorem dX5_ifPassed_31 : decode cX5_ifPassed 31 = .ok (.iload_n 1, 1) := by decide +kernel
theorem dX5_ifPassed_32 : decode cX5_ifPassed 32 = .ok (.iload_n 2, 1) := by decide +kernel
theorem dX5_ifPassed_33 : decode cX5_ifPassed 33 = .ok (.invokevirtual 223, 3) := by decide +kernel
theorem dX5_ifPassed_36 : decode cX5_ifPassed 36 = .ok (.ireturn, 1) := by decide +kernel
theorem dX5_doneIn_0 : decode cX5_doneIn 0 = .ok (.aload_n 0, 1) := by decide +kernel
theorem dX5_doneIn_1 : decode cX5_doneIn 1 = .ok (.getfield 10, 3) := by decide +kernel
theorem dX5_doneIn_4 : decode cX5_doneIn 4 = .ok (.iload_n 1, 1) := by decide +kernel
theorem dX5_doneIn_5 : decode cX5_doneIn 5 = .ok (.invokevirtual 226, 3) := by decide +kernel
theorem dX5_doneIn_8 : decode cX5_doneIn 8 = .ok (.istore_n 2, 1) := by decide +kernel
theorem dX5_doneIn_9 : decode cX5_doneIn 9 = .ok (.iload_n 2, 1) := by decide +kernel
theorem dX5_doneIn_10 : decode cX5_doneIn 10 = .ok (.iconst 0, 1) := by decide +kernel
theorem dX5_doneIn_11 : decode cX5_doneIn 11 = .ok (.bipush 9, 2) := by decide +kernel
theorem dX5_doneIn_13 : decode cX5_doneIn 13 = .ok (.invokestatic 37, 3) := by decide +kernel
theorem dX5_doneIn_16 : decode cX5_doneIn 16 = .ok (.ifCond .ne 13, 3) := by decide +kernel
theorem dX5_doneIn_19 : decode cX5_doneIn 19 = .ok (.new 41, 3) := by decide +kernel
theorem dX5_doneIn_22 : decode cX5_doneIn 22 = .ok (.dup, 1) := by decide +kernel
theorem dX5_doneIn_23 : decode cX5_doneIn 23 = .ok (.ldc 123, 2) := by decide +kernel
theorem dX5_doneIn_25 : decode cX5_doneIn 25 = .ok (.invokespecial 45, 3) := by decide +kernel
theorem dX5_doneIn_28 : decode cX5_doneIn 28 = .ok (.athrow, 1) := by decide +kernel
theorem dX5_doneIn_29 : decode cX5_doneIn 29 = .ok (.aload_n 0, 1) := by decide +kernel
theorem dX5_doneIn_30 : decode cX5_doneIn 30 = .ok (.invokevirtual 229, 3) := by decide +kernel
theorem dX5_doneIn_33 : decode cX5_doneIn 33 = .ok (.aload_n 0, 1) := by decide +kernel
theorem dX5_doneIn_34 : decode cX5_doneIn 34 = .ok (.getfield 34, 3) := by decide +kernel
theorem dX5_doneIn_37 : decode cX5_doneIn 37 = .ok (.iload_n 2, 1) := by decide +kernel
theorem dX5_doneIn_38 : decode cX5_doneIn 38 = .ok (.iaload, 1) := by decide +kernel
theorem dX5_doneIn_39 : decode cX5_doneIn 39 = .ok (.ireturn, 1) := by decide +kernel
theorem dX5_bestRule_0 : decode cX5_bestRule 0 = .ok (.iload_n 1, 1) := by decide +kernel
theorem dX5_bestRule_1 : decode cX5_bestRule 1 = .ok (.iconst 1, 1) := by decide +kernel
theorem dX5_bestRule_2 : decode cX5_bestRule 2 = .ok (.bipush 99, 2) := by decide +kernel
theorem dX5_bestRule_4 : decode cX5_bestRule 4 = .ok (.invokestatic 37, 3) := by decide +kernel
theorem dX5_bestRule_7 : decode cX5_bestRule 7 = .ok (.ifCond .ne 13, 3) := by decide +kernel
theorem dX5_bestRule_10 : decode cX5_bestRule 10 = .ok (.new 51, 3) := by decide +kernel
theorem dX5_bestRule_13 : decode cX5_bestRule 13 = .ok (.dup, 1) := by decide +kernel
theorem dX5_bestRule_14 : decode cX5_bestRule 14 = .ok (.ldc 144, 2) := by decide +kernel
theorem dX5_bestRule_16 : decode cX5_bestRule 16 = .ok (.invokespecial 55, 3) := by decide +kernel
theorem dX5_bestRule_19 : decode cX5_bestRule 19 = .ok (.athrow, 1) := by decide +kernel
theorem dX5_bestRule_20 : decode cX5_bestRule 20 = .ok (.aload_n 0, 1) := by decide +kernel
theorem dX5_bestRule_21 : decode cX5_bestRule 21 = .ok (.iload_n 1, 1) := by decide +kernel
theorem dX5_bestRule_22 : decode cX5_bestRule 22 = .ok (.invokevirtual 232, 3) := by decide +kernel
theorem dX5_bestRule_25 : decode cX5_bestRule 25 = .ok (.ireturn, 1) := by decide +kernel
theorem dX5_dueNow_0 : decode cX5_dueNow 0 = .ok (.aload_n 0, 1) := by decide +kernel
theorem dX5_dueNow_1 : decode cX5_dueNow 1 = .ok (.getfield 10, 3) := by decide +kernel
theorem dX5_dueNow_4 : decode cX5_dueNow 4 = .ok (.iload_n 1, 1) := by decide +kernel
theorem dX5_dueNow_5 : decode cX5_dueNow 5 = .ok (.invokevirtual 119, 3) := by decide +kernel
theorem dX5_dueNow_8 : decode cX5_dueNow 8 = .ok (.astore_n 3, 1) := by decide +kernel
theorem dX5_dueNow_9 : decode cX5_dueNow 9 = .ok (.aload_n 3, 1) := by decide +kernel
theorem dX5_dueNow_10 : decode cX5_dueNow 10 = .ok (.ifnull 12, 3) := by decide +kernel
theorem dX5_dueNow_13 : decode cX5_dueNow 13 = .ok (.iload_n 2, 1) := by decide +kernel
theorem dX5_dueNow_14 : decode cX5_dueNow 14 = .ok (.iconst 0, 1) := by decide +kernel
theorem dX5_dueNow_15 : decode cX5_dueNow 15 = .ok (.iconst 5, 1) := by decide +kernel
theorem dX5_dueNow_16 : decode cX5_dueNow 16 = .ok (.invokestatic 37, 3) := by decide +kernel
theorem dX5_dueNow_19 : decode cX5_dueNow 19 = .ok (.ifCond .ne 13, 3) := by decide +kernel
theorem dX5_dueNow_22 : decode cX5_dueNow 22 = .ok (.new 41, 3) := by decide +kernel
theorem dX5_dueNow_25 : decode cX5_dueNow 25 = .ok (.dup, 1) := by decide +kernel
theorem dX5_dueNow_26 : decode cX5_dueNow 26 = .ok (.ldc 235, 2) := by decide +kernel
theorem dX5_dueNow_28 : decode cX5_dueNow 28 = .ok (.invokespecial 45, 3) := by decide +kernel
theorem dX5_dueNow_31 : decode cX5_dueNow 31 = .ok (.athrow, 1) := by decide +kernel
theorem dX5_dueNow_32 : decode cX5_dueNow 32 = .ok (.aload_n 0, 1) := by decide +kernel
theorem dX5_dueNow_33 : decode cX5_dueNow 33 = .ok (.getfield 10, 3) := by decide +kernel
theorem dX5_dueNow_36 : decode cX5_dueNow 36 = .ok (.aload_n 3, 1) := by decide +kernel
theorem dX5_dueNow_37 : decode cX5_dueNow 37 = .ok (.iload_n 2, 1) := by decide +kernel
theorem dX5_dueNow_38 : decode cX5_dueNow 38 = .ok (.invokevirtual 237, 3) := by decide +kernel
theorem dX5_dueNow_41 : decode cX5_dueNow 41 = .ok (.ireturn, 1) := by decide +kernel
theorem dX5_evenness_0 : decode cX5_evenness 0 = .ok (.aload_n 0, 1) := by decide +kernel
theorem dX5_evenness_1 : decode cX5_evenness 1 = .ok (.getfield 10, 3) := by decide +kernel
theorem dX5_evenness_4 : decode cX5_evenness 4 = .ok (.invokevirtual 241, 3) := by decide +kernel
theorem dX5_evenness_7 : decode cX5_evenness 7 = .ok (.dreturn, 1) := by decide +kernel
theorem dX5_digest_0 : decode cX5_digest 0 = .ok (.aload_n 0, 1) := by decide +kernel
theorem dX5_digest_1 : decode cX5_digest 1 = .ok (.ldc2_w 245, 3) := by decide +kernel
theorem dX5_digest_4 : decode cX5_digest 4 = .ok (.invokevirtual 247, 3) := by decide +kernel
theorem dX5_digest_7 : decode cX5_digest 7 = .ok (.lstore_n 1, 1) := by decide +kernel
theorem dX5_digest_8 : decode cX5_digest 8 = .ok (.aload_n 0, 1) := by decide +kernel
theorem dX5_digest_9 : decode cX5_digest 9 = .ok (.lload_n 1, 1) := by decide +kernel
theorem dX5_digest_10 : decode cX5_digest 10 = .ok (.invokevirtual 251, 3) := by decide +kernel
theorem dX5_digest_13 : decode cX5_digest 13 = .ok (.lstore_n 1, 1) := by decide +kernel
theorem dX5_digest_14 : decode cX5_digest 14 = .ok (.iconst 0, 1) := by decide +kernel
theorem dX5_digest_15 : decode cX5_digest 15 = .ok (.istore_n 3, 1) := by decide +kernel
theorem dX5_digest_16 : decode cX5_digest 16 = .ok (.iload_n 3, 1) := by decide +kernel
theorem dX5_digest_17 : decode cX5_digest 17 = .ok (.iconst 4, 1) := by decide +kernel
theorem dX5_digest_18 : decode cX5_digest 18 = .ok (.if_icmp .ge 26, 3) := by decide +kernel
theorem dX5_digest_21 : decode cX5_digest 21 = .ok (.lload_n 1, 1) := by decide +kernel
theorem dX5_digest_22 : decode cX5_digest 22 = .ok (.aload_n 0, 1) := by decide +kernel
theorem dX5_digest_23 : decode cX5_digest 23 = .ok (.getfield 10, 3) := by decide +kernel
theorem dX5_digest_26 : decode cX5_digest 26 = .ok (.getfield 100, 3) := by decide +kernel
theorem dX5_digest_29 : decode cX5_digest 29 = .ok (.iload_n 3, 1) := by decide +kernel
theorem dX5_digest_30 : decode cX5_digest 30 = .ok (.invokevirtual 83, 3) := by decide +kernel
theorem dX5_digest_33 : decode cX5_digest 33 = .ok (.i2l, 1) := by decide +kernel
theorem dX5_digest_34 : decode cX5_digest 34 = .ok (.invokestatic 254, 3) := by decide +kernel
theorem dX5_digest_37 : decode cX5_digest 37 = .ok (.lstore_n 1, 1) := by decide +kernel
theorem dX5_digest_38 : decode cX5_digest 38 = .ok (.iinc 3 1, 3) := by decide +kernel
theorem dX5_digest_41 : decode cX5_digest 41 = .ok (.goto (-25), 3) := by decide +kernel
theorem dX5_digest_44 : decode cX5_digest 44 = .ok (.aload_n 0, 1) := by decide +kernel
theorem dX5_digest_45 : decode cX5_digest 45 = .ok (.lload_n 1, 1) := by decide +kernel
theorem dX5_digest_46 : decode cX5_digest 46 = .ok (.invokevirtual 258, 3) := by decide +kernel
theorem dX5_digest_49 : decode cX5_digest 49 = .ok (.lstore_n 1, 1) := by decide +kernel
theorem dX5_digest_50 : decode cX5_digest 50 = .ok (.iconst 0, 1) := by decide +kernel
theorem dX5_digest_51 : decode cX5_digest 51 = .ok (.istore_n 3, 1) := by decide +kernel
theorem dX5_digest_52 : decode cX5_digest 52 = .ok (.iload_n 3, 1) := by decide +kernel
theorem dX5_digest_53 : decode cX5_digest 53 = .ok (.iconst 5, 1) := by decide +kernel
theorem dX5_digest_54 : decode cX5_digest 54 = .ok (.if_icmp .ge 22, 3) := by decide +kernel
theorem dX5_digest_57 : decode cX5_digest 57 = .ok (.lload_n 1, 1) := by decide +kernel
theorem dX5_digest_58 : decode cX5_digest 58 = .ok (.aload_n 0, 1) := by decide +kernel
theorem dX5_digest_59 : decode cX5_digest 59 = .ok (.bipush 20, 2) := by decide +kernel
theorem dX5_digest_61 : decode cX5_digest 61 = .ok (.iload_n 3, 1) := by decide +kernel
theorem dX5_digest_62 : decode cX5_digest 62 = .ok (.invokevirtual 223, 3) := by decide +kernel
theorem dX5_digest_65 : decode cX5_digest 65 = .ok (.i2l, 1) := by decide +kernel
theorem dX5_digest_66 : decode cX5_digest 66 = .ok (.invokestatic 254, 3) := by decide +kernel
theorem dX5_digest_69 : decode cX5_digest 69 = .ok (.lstore_n 1, 1) := by decide +kernel
theorem dX5_digest_70 : decode cX5_digest 70 = .ok (.iinc 3 1, 3) := by decide +kernel
theorem dX5_digest_73 : decode cX5_digest 73 = .ok (.goto (-21), 3) := by decide +kernel
theorem dX5_digest_76 : decode cX5_digest 76 = .ok (.lload_n 1, 1) := by decide +kernel
theorem dX5_digest_77 : decode cX5_digest 77 = .ok (.aload_n 0, 1) := by decide +kernel
theorem dX5_digest_78 : decode cX5_digest 78 = .ok (.bipush 12, 2) := by decide +kernel
theorem dX5_digest_80 : decode cX5_digest 80 = .ok (.invokevirtual 232, 3) := by decide +kernel
theorem dX5_digest_83 : decode cX5_digest 83 = .ok (.i2l, 1) := by decide +kernel
theorem dX5_digest_84 : decode cX5_digest 84 = .ok (.invokestatic 254, 3) := by decide +kernel
theorem dX5_digest_87 : decode cX5_digest 87 = .ok (.lstore_n 1, 1) := by decide +kernel
theorem dX5_digest_88 : decode cX5_digest 88 = .ok (.lload_n 1, 1) := by decide +kernel
theorem dX5_digest_89 : decode cX5_digest 89 = .ok (.aload_n 0, 1) := by decide +kernel
theorem dX5_digest_90 : decode cX5_digest 90 = .ok (.getfield 10, 3) := by decide +kernel
theorem dX5_digest_93 : decode cX5_digest 93 = .ok (.invokevirtual 241, 3) := by decide +kernel
theorem dX5_digest_96 : decode cX5_digest 96 = .ok (.invokestatic 261, 3) := by decide +kernel
theorem dX5_digest_99 : decode cX5_digest 99 = .ok (.invokestatic 254, 3) := by decide +kernel
theorem dX5_digest_102 : decode cX5_digest 102 = .ok (.lstore_n 1, 1) := by decide +kernel
theorem dX5_digest_103 : decode cX5_digest 103 = .ok (.lload_n 1, 1) := by decide +kernel
theorem dX5_digest_104 : decode cX5_digest 104 = .ok (.aload_n 0, 1) := by decide +kernel
theorem dX5_digest_105 : decode cX5_digest 105 = .ok (.getfield 160, 3) := by decide +kernel
theorem dX5_digest_108 : decode cX5_digest 108 = .ok (.i2l, 1) := by decide +kernel
theorem dX5_digest_109 : decode cX5_digest 109 = .ok (.invokestatic 254, 3) := by decide +kernel
theorem dX5_digest_112 : decode cX5_digest 112 = .ok (.lstore_n 1, 1) := by decide +kernel
theorem dX5_digest_113 : decode cX5_digest 113 = .ok (.iconst 0, 1) := by decide +kernel
theorem dX5_digest_114 : decode cX5_digest 114 = .ok (.istore_n 3, 1) := by decide +kernel
theorem dX5_digest_115 : decode cX5_digest 115 = .ok (.iload_n 3, 1) := by decide +kernel
theorem dX5_digest_116 : decode cX5_digest 116 = .ok (.aload_n 0, 1) := by decide +kernel
theorem dX5_digest_117 : decode cX5_digest 117 = .ok (.getfield 160, 3) := by decide +kernel
theorem dX5_digest_120 : decode cX5_digest 120 = .ok (.if_icmp .ge 30, 3) := by decide +kernel
theorem dX5_digest_123 : decode cX5_digest 123 = .ok (.iload_n 3, 1) := by decide +kernel
theorem dX5_digest_124 : decode cX5_digest 124 = .ok (.aload_n 0, 1) := by decide +kernel
theorem dX5_digest_125 : decode cX5_digest 125 = .ok (.getfield 23, 3) := by decide +kernel
theorem dX5_digest_128 : decode cX5_digest 128 = .ok (.arraylength, 1) := by decide +kernel
theorem dX5_digest_129 : decode cX5_digest 129 = .ok (.if_icmp .ge 21, 3) := by decide +kernel
theorem dX5_digest_132 : decode cX5_digest 132 = .ok (.lload_n 1, 1) := by decide +kernel
theorem dX5_digest_133 : decode cX5_digest 133 = .ok (.aload_n 0, 1) := by decide +kernel
theorem dX5_digest_134 : decode cX5_digest 134 = .ok (.getfield 23, 3) := by decide +kernel
theorem dX5_digest_137 : decode cX5_digest 137 = .ok (.iload_n 3, 1) := by decide +kernel
theorem dX5_digest_138 : decode cX5_digest 138 = .ok (.iaload, 1) := by decide +kernel
theorem dX5_digest_139 : decode cX5_digest 139 = .ok (.i2l, 1) := by decide +kernel
theorem dX5_digest_140 : decode cX5_digest 140 = .ok (.invokestatic 254, 3) := by decide +kernel
theorem dX5_digest_143 : decode cX5_digest 143 = .ok (.lstore_n 1, 1) := by decide +kernel
theorem dX5_digest_144 : decode cX5_digest 144 = .ok (.iinc 3 1, 3) := by decide +kernel
theorem dX5_digest_147 : decode cX5_digest 147 = .ok (.goto (-32), 3) := by decide +kernel
theorem dX5_digest_150 : decode cX5_digest 150 = .ok (.lload_n 1, 1) := by decide +kernel
theorem dX5_digest_151 : decode cX5_digest 151 = .ok (.lreturn, 1) := by decide +kernel
theorem dX5_isWithin_0 : decode cX5_isWithin 0 = .ok (.iload_n 0, 1) := by decide +kernel
theorem dX5_isWithin_1 : decode cX5_isWithin 1 = .ok (.iload_n 1, 1) := by decide +kernel
theorem dX5_isWithin_2 : decode cX5_isWithin 2 = .ok (.if_icmp .lt 12, 3) := by decide +kernel
theorem dX5_isWithin_5 : decode cX5_isWithin 5 = .ok (.iload_n 0, 1) := by decide +kernel
theorem dX5_isWithin_6 : decode cX5_isWithin 6 = .ok (.iload_n 2, 1) := by decide +kernel
theorem dX5_isWithin_7 : decode cX5_isWithin 7 = .ok (.if_icmp .gt 7, 3) := by decide +kernel
theorem dX5_isWithin_10 : decode cX5_isWithin 10 = .ok (.iconst 1, 1) := by decide +kernel
theorem dX5_isWithin_11 : decode cX5_isWithin 11 = .ok (.goto 4, 3) := by decide +kernel
theorem dX5_isWithin_14 : decode cX5_isWithin 14 = .ok (.iconst 0, 1) := by decide +kernel
theorem dX5_isWithin_15 : decode cX5_isWithin 15 = .ok (.ireturn, 1) := by decide +kernel
theorem dX5_isLoom_0 : decode cX5_isLoom 0 = .ok (.iload_n 0, 1) := by decide +kernel
theorem dX5_isLoom_1 : decode cX5_isLoom 1 = .ok (.bipush 40, 2) := by decide +kernel
theorem dX5_isLoom_3 : decode cX5_isLoom 3 = .ok (.sipush 200, 3) := by decide +kernel
theorem dX5_isLoom_6 : decode cX5_isLoom 6 = .ok (.invokestatic 37, 3) := by decide +kernel
theorem dX5_isLoom_9 : decode cX5_isLoom 9 = .ok (.ifCond .eq 27, 3) := by decide +kernel
theorem dX5_isLoom_12 : decode cX5_isLoom 12 = .ok (.iload_n 1, 1) := by decide +kernel
theorem dX5_isLoom_13 : decode cX5_isLoom 13 = .ok (.iconst 1, 1) := by decide +kernel
theorem dX5_isLoom_14 : decode cX5_isLoom 14 = .ok (.bipush 9, 2) := by decide +kernel
theorem dX5_isLoom_16 : decode cX5_isLoom 16 = .ok (.invokestatic 37, 3) := by decide +kernel
theorem dX5_isLoom_19 : decode cX5_isLoom 19 = .ok (.ifCond .eq 17, 3) := by decide +kernel
theorem dX5_isLoom_22 : decode cX5_isLoom 22 = .ok (.iload_n 2, 1) := by decide +kernel
theorem dX5_isLoom_23 : decode cX5_isLoom 23 = .ok (.iconst 0, 1) := by decide +kernel
theorem dX5_isLoom_24 : decode cX5_isLoom 24 = .ok (.bipush 99, 2) := by decide +kernel
theorem dX5_isLoom_26 : decode cX5_isLoom 26 = .ok (.invokestatic 37, 3) := by decide +kernel
theorem dX5_isLoom_29 : decode cX5_isLoom 29 = .ok (.ifCond .eq 7, 3) := by decide +kernel
theorem dX5_isLoom_32 : decode cX5_isLoom 32 = .ok (.iconst 1, 1) := by decide +kernel
theorem dX5_isLoom_33 : decode cX5_isLoom 33 = .ok (.goto 4, 3) := by decide +kernel
theorem dX5_isLoom_36 : decode cX5_isLoom 36 = .ok (.iconst 0, 1) := by decide +kernel
theorem dX5_isLoom_37 : decode cX5_isLoom 37 = .ok (.ireturn, 1) := by decide +kernel
theorem dX5_saveState_0 : decode cX5_saveState 0 = .ok (.aload_n 0, 1) := by decide +kernel
theorem dX5_saveState_1 : decode cX5_saveState 1 = .ok (.getfield 180, 3) := by decide +kernel
theorem dX5_saveState_4 : decode cX5_saveState 4 = .ok (.aload_n 0, 1) := by decide +kernel
theorem dX5_saveState_5 : decode cX5_saveState 5 = .ok (.getfield 19, 3) := by decide +kernel
theorem dX5_saveState_8 : decode cX5_saveState 8 = .ok (.arraylength, 1) := by decide +kernel
theorem dX5_saveState_9 : decode cX5_saveState 9 = .ok (.if_icmp .lt 7, 3) := by decide +kernel
theorem dX5_saveState_12 : decode cX5_saveState 12 = .ok (.aload_n 0, 1) := by decide +kernel
theorem dX5_saveState_13 : decode cX5_saveState 13 = .ok (.invokevirtual 265, 3) := by decide +kernel
theorem dX5_saveState_16 : decode cX5_saveState 16 = .ok (.aload_n 0, 1) := by decide +kernel
theorem dX5_saveState_17 : decode cX5_saveState 17 = .ok (.getfield 180, 3) := by decide +kernel
theorem dX5_saveState_20 : decode cX5_saveState 20 = .ok (.iconst 0, 1) := by decide +kernel
theorem dX5_saveState_21 : decode cX5_saveState 21 = .ok (.aload_n 0, 1) := by decide +kernel
theorem dX5_saveState_22 : decode cX5_saveState 22 = .ok (.getfield 19, 3) := by decide +kernel
theorem dX5_saveState_25 : decode cX5_saveState 25 = .ok (.arraylength, 1) := by decide +kernel
theorem dX5_saveState_26 : decode cX5_saveState 26 = .ok (.iconst 1, 1) := by decide +kernel
theorem dX5_saveState_27 : decode cX5_saveState 27 = .ok (.isub, 1) := by decide +kernel
theorem dX5_saveState_28 : decode cX5_saveState 28 = .ok (.invokestatic 37, 3) := by decide +kernel
theorem dX5_saveState_31 : decode cX5_saveState 31 = .ok (.ifCond .eq 29, 3) := by decide +kernel
theorem dX5_saveState_34 : decode cX5_saveState 34 = .ok (.aload_n 0, 1) := by decide +kernel
theorem dX5_saveState_35 : decode cX5_saveState 35 = .ok (.getfield 19, 3) := by decide +kernel
theorem dX5_saveState_38 : decode cX5_saveState 38 = .ok (.aload_n 0, 1) := by decide +kernel
theorem dX5_saveState_39 : decode cX5_saveState 39 = .ok (.getfield 180, 3) := by decide +kernel
theorem dX5_saveState_42 : decode cX5_saveState 42 = .ok (.aaload, 1) := by decide +kernel
theorem dX5_saveState_43 : decode cX5_saveState 43 = .ok (.aload_n 0, 1) := by decide +kernel
theorem dX5_saveState_44 : decode cX5_saveState 44 = .ok (.getfield 10, 3) := by decide +kernel
theorem dX5_saveState_47 : decode cX5_saveState 47 = .ok (.invokevirtual 185, 3) := by decide +kernel
theorem dX5_saveState_50 : decode cX5_saveState 50 = .ok (.aload_n 0, 1) := by decide +kernel
theorem dX5_saveState_51 : decode cX5_saveState 51 = .ok (.dup, 1) := by decide +kernel
theorem dX5_saveState_52 : decode cX5_saveState 52 = .ok (.getfield 180, 3) := by decide +kernel
theorem dX5_saveState_55 : decode cX5_saveState 55 = .ok (.iconst 1, 1) := by decide +kernel
theorem dX5_saveState_56 : decode cX5_saveState 56 = .ok (.iadd, 1) := by decide +kernel
theorem dX5_saveState_57 : decode cX5_saveState 57 = .ok (.putfield 180, 3) := by decide +kernel
theorem dX5_saveState_60 : decode cX5_saveState 60 = .ok (.return_, 1) := by decide +kernel
theorem dX5_dropOldest_0 : decode cX5_dropOldest 0 = .ok (.aload_n 0, 1) := by decide +kernel
theorem dX5_dropOldest_1 : decode cX5_dropOldest 1 = .ok (.getfield 19, 3) := by decide +kernel
theorem dX5_dropOldest_4 : decode cX5_dropOldest 4 = .ok (.iconst 0, 1) := by decide +kernel
theorem dX5_dropOldest_5 : decode cX5_dropOldest 5 = .ok (.aaload, 1) := by decide +kernel
theorem dX5_dropOldest_6 : decode cX5_dropOldest 6 = .ok (.astore_n 1, 1) := by decide +kernel
theorem dX5_dropOldest_7 : decode cX5_dropOldest 7 = .ok (.iconst 0, 1) := by decide +kernel
theorem dX5_dropOldest_8 : decode cX5_dropOldest 8 = .ok (.istore_n 2, 1) := by decide +kernel
theorem dX5_dropOldest_9 : decode cX5_dropOldest 9 = .ok (.iload_n 2, 1) := by decide +kernel
theorem dX5_dropOldest_10 : decode cX5_dropOldest 10 = .ok (.iconst 1, 1) := by decide +kernel
theorem dX5_dropOldest_11 : decode cX5_dropOldest 11 = .ok (.iadd, 1) := by decide +kernel
theorem dX5_dropOldest_12 : decode cX5_dropOldest 12 = .ok (.aload_n 0, 1) := by decide +kernel
theorem dX5_dropOldest_13 : decode cX5_dropOldest 13 = .ok (.getfield 19, 3) := by decide +kernel
theorem dX5_dropOldest_16 : decode cX5_dropOldest 16 = .ok (.arraylength, 1) := by decide +kernel
theorem dX5_dropOldest_17 : decode cX5_dropOldest 17 = .ok (.if_icmp .ge 23, 3) := by decide +kernel
theorem dX5_dropOldest_20 : decode cX5_dropOldest 20 = .ok (.aload_n 0, 1) := by decide +kernel
theorem dX5_dropOldest_21 : decode cX5_dropOldest 21 = .ok (.getfield 19, 3) := by decide +kernel
theorem dX5_dropOldest_24 : decode cX5_dropOldest 24 = .ok (.iload_n 2, 1) := by decide +kernel
theorem dX5_dropOldest_25 : decode cX5_dropOldest 25 = .ok (.aload_n 0, 1) := by decide +kernel
theorem dX5_dropOldest_26 : decode cX5_dropOldest 26 = .ok (.getfield 19, 3) := by decide +kernel
theorem dX5_dropOldest_29 : decode cX5_dropOldest 29 = .ok (.iload_n 2, 1) := by decide +kernel
theorem dX5_dropOldest_30 : decode cX5_dropOldest 30 = .ok (.iconst 1, 1) := by decide +kernel
theorem dX5_dropOldest_31 : decode cX5_dropOldest 31 = .ok (.iadd, 1) := by decide +kernel
theorem dX5_dropOldest_32 : decode cX5_dropOldest 32 = .ok (.aaload, 1) := by decide +kernel
theorem dX5_dropOldest_33 : decode cX5_dropOldest 33 = .ok (.aastore, 1) := by decide +kernel
theorem dX5_dropOldest_34 : decode cX5_dropOldest 34 = .ok (.iinc 2 1, 3) := by decide +kernel
theorem dX5_dropOldest_37 : decode cX5_dropOldest 37 = .ok (.goto (-28), 3) := by decide +kernel
theorem dX5_dropOldest_40 : decode cX5_dropOldest 40 = .ok (.aload_n 0, 1) := by decide +kernel
theorem dX5_dropOldest_41 : decode cX5_dropOldest 41 = .ok (.getfield 19, 3) := by decide +kernel
theorem dX5_dropOldest_44 : decode cX5_dropOldest 44 = .ok (.aload_n 0, 1) := by decide +kernel
theorem dX5_dropOldest_45 : decode cX5_dropOldest 45 = .ok (.getfield 19, 3) := by decide +kernel
theorem dX5_dropOldest_48 : decode cX5_dropOldest 48 = .ok (.arraylength, 1) := by decide +kernel
theorem dX5_dropOldest_49 : decode cX5_dropOldest 49 = .ok (.iconst 1, 1) := by decide +kernel
theorem dX5_dropOldest_50 : decode cX5_dropOldest 50 = .ok (.isub, 1) := by decide +kernel
theorem dX5_dropOldest_51 : decode cX5_dropOldest 51 = .ok (.aload_n 1, 1) := by decide +kernel
theorem dX5_dropOldest_52 : decode cX5_dropOldest 52 = .ok (.aastore, 1) := by decide +kernel
theorem dX5_dropOldest_53 : decode cX5_dropOldest 53 = .ok (.aload_n 0, 1) := by decide +kernel
theorem dX5_dropOldest_54 : decode cX5_dropOldest 54 = .ok (.aload_n 0, 1) := by decide +kernel
theorem dX5_dropOldest_55 : decode cX5_dropOldest 55 = .ok (.getfield 19, 3) := by decide +kernel
theorem dX5_dropOldest_58 : decode cX5_dropOldest 58 = .ok (.arraylength, 1) := by decide +kernel
theorem dX5_dropOldest_59 : decode cX5_dropOldest 59 = .ok (.iconst 1, 1) := by decide +kernel
theorem dX5_dropOldest_60 : decode cX5_dropOldest 60 = .ok (.isub, 1) := by decide +kernel
theorem dX5_dropOldest_61 : decode cX5_dropOldest 61 = .ok (.putfield 180, 3) := by decide +kernel
theorem dX5_dropOldest_64 : decode cX5_dropOldest 64 = .ok (.return_, 1) := by decide +kernel
theorem dX5_readBuffer_0 : decode cX5_readBuffer 0 = .ok (.aload_n 0, 1) := by decide +kernel
theorem dX5_readBuffer_1 : decode cX5_readBuffer 1 = .ok (.getfield 30, 3) := by decide +kernel
theorem dX5_readBuffer_4 : decode cX5_readBuffer 4 = .ok (.invokevirtual 268, 3) := by decide +kernel
theorem dX5_readBuffer_7 : decode cX5_readBuffer 7 = .ok (.iconst 0, 1) := by decide +kernel
theorem dX5_readBuffer_8 : decode cX5_readBuffer 8 = .ok (.istore_n 1, 1) := by decide +kernel
theorem dX5_readBuffer_9 : decode cX5_readBuffer 9 = .ok (.iload_n 1, 1) := by decide +kernel
theorem dX5_readBuffer_10 : decode cX5_readBuffer 10 = .ok (.aload_n 0, 1) := by decide +kernel
theorem dX5_readBuffer_11 : decode cX5_readBuffer 11 = .ok (.getfield 160, 3) := by decide +kernel
theorem dX5_readBuffer_14 : decode cX5_readBuffer 14 = .ok (.if_icmp .ge 36, 3) := by decide +kernel
theorem dX5_readBuffer_17 : decode cX5_readBuffer 17 = .ok (.iload_n 1, 1) := by decide +kernel
theorem dX5_readBuffer_18 : decode cX5_readBuffer 18 = .ok (.aload_n 0, 1) := by decide +kernel
theorem dX5_readBuffer_19 : decode cX5_readBuffer 19 = .ok (.getfield 23, 3) := by decide +kernel
theorem dX5_readBuffer_22 : decode cX5_readBuffer 22 = .ok (.arraylength, 1) := by decide +kernel
theorem dX5_readBuffer_23 : decode cX5_readBuffer 23 = .ok (.if_icmp .ge 27, 3) := by decide +kernel
theorem dX5_readBuffer_26 : decode cX5_readBuffer 26 = .ok (.aload_n 0, 1) := by decide +kernel
theorem dX5_readBuffer_27 : decode cX5_readBuffer 27 = .ok (.getfield 30, 3) := by decide +kernel
theorem dX5_readBuffer_30 : decode cX5_readBuffer 30 = .ok (.aload_n 0, 1) := by decide +kernel
theorem dX5_readBuffer_31 : decode cX5_readBuffer 31 = .ok (.getfield 23, 3) := by decide +kernel
theorem dX5_readBuffer_34 : decode cX5_readBuffer 34 = .ok (.iload_n 1, 1) := by decide +kernel
theorem dX5_readBuffer_35 : decode cX5_readBuffer 35 = .ok (.iaload, 1) := by decide +kernel
theorem dX5_readBuffer_36 : decode cX5_readBuffer 36 = .ok (.invokevirtual 271, 3) := by decide +kernel
theorem dX5_readBuffer_39 : decode cX5_readBuffer 39 = .ok (.ifCond .ne 5, 3) := by decide +kernel
theorem dX5_readBuffer_42 : decode cX5_readBuffer 42 = .ok (.iload_n 1, 1) := by decide +kernel
theorem dX5_readBuffer_43 : decode cX5_readBuffer 43 = .ok (.ireturn, 1) := by decide +kernel
theorem dX5_readBuffer_44 : decode cX5_readBuffer 44 = .ok (.iinc 1 1, 3) := by decide +kernel
theorem dX5_readBuffer_47 : decode cX5_readBuffer 47 = .ok (.goto (-38), 3) := by decide +kernel
theorem dX5_readBuffer_50 : decode cX5_readBuffer 50 = .ok (.aload_n 0, 1) := by decide +kernel
theorem dX5_readBuffer_51 : decode cX5_readBuffer 51 = .ok (.getfield 160, 3) := by decide +kernel
theorem dX5_readBuffer_54 : decode cX5_readBuffer 54 = .ok (.ireturn, 1) := by decide +kernel
theorem dX5_takeParts_0 : decode cX5_takeParts 0 = .ok (.aload_n 0, 1) := by decide +kernel
theorem dX5_takeParts_1 : decode cX5_takeParts 1 = .ok (.getfield 30, 3) := by decide +kernel
theorem dX5_takeParts_4 : decode cX5_takeParts 4 = .ok (.invokevirtual 268, 3) := by decide +kernel
theorem dX5_takeParts_7 : decode cX5_takeParts 7 = .ok (.iconst 0, 1) := by decide +kernel
theorem dX5_takeParts_8 : decode cX5_takeParts 8 = .ok (.istore_n 1, 1) := by decide +kernel
theorem dX5_takeParts_9 : decode cX5_takeParts 9 = .ok (.iload_n 1, 1) := by decide +kernel
theorem dX5_takeParts_10 : decode cX5_takeParts 10 = .ok (.aload_n 0, 1) := by decide +kernel
theorem dX5_takeParts_11 : decode cX5_takeParts 11 = .ok (.getfield 160, 3) := by decide +kernel
theorem dX5_takeParts_14 : decode cX5_takeParts 14 = .ok (.if_icmp .ge 47, 3) := by decide +kernel
theorem dX5_takeParts_17 : decode cX5_takeParts 17 = .ok (.iload_n 1, 1) := by decide +kernel
theorem dX5_takeParts_18 : decode cX5_takeParts 18 = .ok (.aload_n 0, 1) := by decide +kernel
theorem dX5_takeParts_19 : decode cX5_takeParts 19 = .ok (.getfield 23, 3) := by decide +kernel
theorem dX5_takeParts_22 : decode cX5_takeParts 22 = .ok (.arraylength, 1) := by decide +kernel
theorem dX5_takeParts_23 : decode cX5_takeParts 23 = .ok (.if_icmp .ge 38, 3) := by decide +kernel
theorem dX5_takeParts_26 : decode cX5_takeParts 26 = .ok (.aload_n 0, 1) := by decide +kernel
theorem dX5_takeParts_27 : decode cX5_takeParts 27 = .ok (.getfield 23, 3) := by decide +kernel
theorem dX5_takeParts_30 : decode cX5_takeParts 30 = .ok (.iload_n 1, 1) := by decide +kernel
theorem dX5_takeParts_31 : decode cX5_takeParts 31 = .ok (.iaload, 1) := by decide +kernel
theorem dX5_takeParts_32 : decode cX5_takeParts 32 = .ok (.bipush 59, 2) := by decide +kernel
theorem dX5_takeParts_34 : decode cX5_takeParts 34 = .ok (.if_icmp .ne 7, 3) := by decide +kernel
theorem dX5_takeParts_37 : decode cX5_takeParts 37 = .ok (.aload_n 0, 1) := by decide +kernel
theorem dX5_takeParts_38 : decode cX5_takeParts 38 = .ok (.invokevirtual 275, 3) := by decide +kernel
theorem dX5_takeParts_41 : decode cX5_takeParts 41 = .ok (.aload_n 0, 1) := by decide +kernel
theorem dX5_takeParts_42 : decode cX5_takeParts 42 = .ok (.getfield 30, 3) := by decide +kernel
theorem dX5_takeParts_45 : decode cX5_takeParts 45 = .ok (.aload_n 0, 1) := by decide +kernel
theorem dX5_takeParts_46 : decode cX5_takeParts 46 = .ok (.getfield 23, 3) := by decide +kernel
theorem dX5_takeParts_49 : decode cX5_takeParts 49 = .ok (.iload_n 1, 1) := by decide +kernel
theorem dX5_takeParts_50 : decode cX5_takeParts 50 = .ok (.iaload, 1) := by decide +kernel
theorem dX5_takeParts_51 : decode cX5_takeParts 51 = .ok (.invokevirtual 271, 3) := by decide +kernel
theorem dX5_takeParts_54 : decode cX5_takeParts 54 = .ok (.pop, 1) := by decide +kernel
theorem dX5_takeParts_55 : decode cX5_takeParts 55 = .ok (.iinc 1 1, 3) := by decide +kernel
theorem dX5_takeParts_58 : decode cX5_takeParts 58 = .ok (.goto (-49), 3) := by decide +kernel
theorem dX5_takeParts_61 : decode cX5_takeParts 61 = .ok (.aload_n 0, 1) := by decide +kernel
theorem dX5_takeParts_62 : decode cX5_takeParts 62 = .ok (.invokevirtual 275, 3) := by decide +kernel
theorem dX5_takeParts_65 : decode cX5_takeParts 65 = .ok (.return_, 1) := by decide +kernel
theorem dX5_takePart_0 : decode cX5_takePart 0 = .ok (.aload_n 0, 1) := by decide +kernel
theorem dX5_takePart_1 : decode cX5_takePart 1 = .ok (.getfield 30, 3) := by decide +kernel
theorem dX5_takePart_4 : decode cX5_takePart 4 = .ok (.getfield 278, 3) := by decide +kernel
theorem dX5_takePart_7 : decode cX5_takePart 7 = .ok (.astore_n 1, 1) := by decide +kernel
theorem dX5_takePart_8 : decode cX5_takePart 8 = .ok (.aload_n 0, 1) := by decide +kernel
theorem dX5_takePart_9 : decode cX5_takePart 9 = .ok (.getfield 10, 3) := by decide +kernel
theorem dX5_takePart_12 : decode cX5_takePart 12 = .ok (.aload_n 1, 1) := by decide +kernel
theorem dX5_takePart_13 : decode cX5_takePart 13 = .ok (.iconst 2, 1) := by decide +kernel
theorem dX5_takePart_14 : decode cX5_takePart 14 = .ok (.iaload, 1) := by decide +kernel
theorem dX5_takePart_15 : decode cX5_takePart 15 = .ok (.aload_n 1, 1) := by decide +kernel
theorem dX5_takePart_16 : decode cX5_takePart 16 = .ok (.iconst 1, 1) := by decide +kernel
theorem dX5_takePart_17 : decode cX5_takePart 17 = .ok (.iaload, 1) := by decide +kernel
theorem dX5_takePart_18 : decode cX5_takePart 18 = .ok (.aload_n 1, 1) := by decide +kernel
theorem dX5_takePart_19 : decode cX5_takePart 19 = .ok (.iconst 0, 1) := by decide +kernel
theorem dX5_takePart_20 : decode cX5_takePart 20 = .ok (.iaload, 1) := by decide +kernel
theorem dX5_takePart_21 : decode cX5_takePart 21 = .ok (.aload_n 1, 1) := by decide +kernel
theorem dX5_takePart_22 : decode cX5_takePart 22 = .ok (.iconst 3, 1) := by decide +kernel
theorem dX5_takePart_23 : decode cX5_takePart 23 = .ok (.iaload, 1) := by decide +kernel
theorem dX5_takePart_24 : decode cX5_takePart 24 = .ok (.aload_n 1, 1) := by decide +kernel
theorem dX5_takePart_25 : decode cX5_takePart 25 = .ok (.iconst 4, 1) := by decide +kernel
theorem dX5_takePart_26 : decode cX5_takePart 26 = .ok (.iaload, 1) := by decide +kernel
theorem dX5_takePart_27 : decode cX5_takePart 27 = .ok (.invokevirtual 115, 3) := by decide +kernel
theorem dX5_takePart_30 : decode cX5_takePart 30 = .ok (.pop, 1) := by decide +kernel
theorem dX5_takePart_31 : decode cX5_takePart 31 = .ok (.return_, 1) := by decide +kernel
theorem dX5_counted_0 : decode cX5_counted 0 = .ok (.iload_n 1, 1) := by decide +kernel
theorem dX5_counted_1 : decode cX5_counted 1 = .ok (.bipush 11, 2) := by decide +kernel
theorem dX5_counted_3 : decode cX5_counted 3 = .ok (.if_icmp .ne 10, 3) := by decide +kernel
theorem dX5_counted_6 : decode cX5_counted 6 = .ok (.aload_n 0, 1) := by decide +kernel
theorem dX5_counted_7 : decode cX5_counted 7 = .ok (.getfield 180, 3) := by decide +kernel
theorem dX5_counted_10 : decode cX5_counted 10 = .ok (.goto 11, 3) := by decide +kernel
theorem dX5_counted_13 : decode cX5_counted 13 = .ok (.aload_n 0, 1) := by decide +kernel
theorem dX5_counted_14 : decode cX5_counted 14 = .ok (.getfield 10, 3) := by decide +kernel
theorem dX5_counted_17 : decode cX5_counted 17 = .ok (.iload_n 1, 1) := by decide +kernel
theorem dX5_counted_18 : decode cX5_counted 18 = .ok (.invokevirtual 281, 3) := by decide +kernel
theorem dX5_counted_21 : decode cX5_counted 21 = .ok (.ireturn, 1) := by decide +kernel
theorem dX5_foreseen_0 : decode cX5_foreseen 0 = .ok (.aload_n 0, 1) := by decide +kernel
theorem dX5_foreseen_1 : decode cX5_foreseen 1 = .ok (.getfield 16, 3) := by decide +kernel
theorem dX5_foreseen_4 : decode cX5_foreseen 4 = .ok (.aload_n 0, 1) := by decide +kernel
theorem dX5_foreseen_5 : decode cX5_foreseen 5 = .ok (.getfield 10, 3) := by decide +kernel
theorem dX5_foreseen_8 : decode cX5_foreseen 8 = .ok (.invokevirtual 185, 3) := by decide +kernel
theorem dX5_foreseen_11 : decode cX5_foreseen 11 = .ok (.aload_n 0, 1) := by decide +kernel
theorem dX5_foreseen_12 : decode cX5_foreseen 12 = .ok (.getfield 16, 3) := by decide +kernel
theorem dX5_foreseen_15 : decode cX5_foreseen 15 = .ok (.iload_n 1, 1) := by decide +kernel
theorem dX5_foreseen_16 : decode cX5_foreseen 16 = .ok (.invokevirtual 284, 3) := by decide +kernel
theorem dX5_foreseen_19 : decode cX5_foreseen 19 = .ok (.iload_n 2, 1) := by decide +kernel
theorem dX5_foreseen_20 : decode cX5_foreseen 20 = .ok (.tableswitch 93 0 3 #[32, 48, 64, 84], 32) := by decide +kernel
theorem dX5_foreseen_52 : decode cX5_foreseen 52 = .ok (.aload_n 0, 1) := by decide +kernel
theorem dX5_foreseen_53 : decode cX5_foreseen 53 = .ok (.getfield 16, 3) := by decide +kernel
theorem dX5_foreseen_56 : decode cX5_foreseen 56 = .ok (.getfield 151, 3) := by decide +kernel
theorem dX5_foreseen_59 : decode cX5_foreseen 59 = .ok (.aload_n 0, 1) := by decide +kernel
theorem dX5_foreseen_60 : decode cX5_foreseen 60 = .ok (.getfield 10, 3) := by decide +kernel
theorem dX5_foreseen_63 : decode cX5_foreseen 63 = .ok (.getfield 151, 3) := by decide +kernel
theorem dX5_foreseen_66 : decode cX5_foreseen 66 = .ok (.isub, 1) := by decide +kernel
theorem dX5_foreseen_67 : decode cX5_foreseen 67 = .ok (.ireturn, 1) := by decide +kernel
theorem dX5_foreseen_68 : decode cX5_foreseen 68 = .ok (.aload_n 0, 1) := by decide +kernel
theorem dX5_foreseen_69 : decode cX5_foreseen 69 = .ok (.getfield 16, 3) := by decide +kernel
theorem dX5_foreseen_72 : decode cX5_foreseen 72 = .ok (.getfield 288, 3) := by decide +kernel
theorem dX5_foreseen_75 : decode cX5_foreseen 75 = .ok (.aload_n 0, 1) := by decide +kernel
theorem dX5_foreseen_76 : decode cX5_foreseen 76 = .ok (.getfield 10, 3) := by decide +kernel
theorem dX5_foreseen_79 : decode cX5_foreseen 79 = .ok (.getfield 288, 3) := by decide +kernel
theorem dX5_foreseen_82 : decode cX5_foreseen 82 = .ok (.isub, 1) := by decide +kernel
theorem dX5_foreseen_83 : decode cX5_foreseen 83 = .ok (.ireturn, 1) := by decide +kernel
theorem dX5_foreseen_84 : decode cX5_foreseen 84 = .ok (.aload_n 0, 1) := by decide +kernel
theorem dX5_foreseen_85 : decode cX5_foreseen 85 = .ok (.getfield 16, 3) := by decide +kernel
theorem dX5_foreseen_88 : decode cX5_foreseen 88 = .ok (.bipush 6, 2) := by decide +kernel
theorem dX5_foreseen_90 : decode cX5_foreseen 90 = .ok (.invokevirtual 291, 3) := by decide +kernel
theorem dX5_foreseen_93 : decode cX5_foreseen 93 = .ok (.aload_n 0, 1) := by decide +kernel
theorem dX5_foreseen_94 : decode cX5_foreseen 94 = .ok (.getfield 10, 3) := by decide +kernel
theorem dX5_foreseen_97 : decode cX5_foreseen 97 = .ok (.bipush 6, 2) := by decide +kernel
theorem dX5_foreseen_99 : decode cX5_foreseen 99 = .ok (.invokevirtual 291, 3) := by decide +kernel
theorem dX5_foreseen_102 : decode cX5_foreseen 102 = .ok (.isub, 1) := by decide +kernel
theorem dX5_foreseen_103 : decode cX5_foreseen 103 = .ok (.ireturn, 1) := by decide +kernel
theorem dX5_foreseen_104 : decode cX5_foreseen 104 = .ok (.aload_n 0, 1) := by decide +kernel
theorem dX5_foreseen_105 : decode cX5_foreseen 105 = .ok (.getfield 16, 3) := by decide +kernel
theorem dX5_foreseen_108 : decode cX5_foreseen 108 = .ok (.iconst 3, 1) := by decide +kernel
theorem dX5_foreseen_109 : decode cX5_foreseen 109 = .ok (.invokevirtual 291, 3) := by decide +kernel
theorem dX5_foreseen_112 : decode cX5_foreseen 112 = .ok (.ireturn, 1) := by decide +kernel
theorem dX5_foreseen_113 : decode cX5_foreseen 113 = .ok (.aload_n 0, 1) := by decide +kernel
theorem dX5_foreseen_114 : decode cX5_foreseen 114 = .ok (.getfield 16, 3) := by decide +kernel
theorem dX5_foreseen_117 : decode cX5_foreseen 117 = .ok (.getfield 294, 3) := by decide +kernel
theorem dX5_foreseen_120 : decode cX5_foreseen 120 = .ok (.aload_n 0, 1) := by decide +kernel
theorem dX5_foreseen_121 : decode cX5_foreseen 121 = .ok (.getfield 10, 3) := by decide +kernel
theorem dX5_foreseen_124 : decode cX5_foreseen 124 = .ok (.getfield 294, 3) := by decide +kernel
theorem dX5_foreseen_127 : decode cX5_foreseen 127 = .ok (.isub, 1) := by decide +kernel
theorem dX5_foreseen_128 : decode cX5_foreseen 128 = .ok (.ireturn, 1) := by decide +kernel
theorem dX5_foreseeEnds_0 : decode cX5_foreseeEnds 0 = .ok (.aload_n 0, 1) := by decide +kernel
theorem dX5_foreseeEnds_1 : decode cX5_foreseeEnds 1 = .ok (.getfield 16, 3) := by decide +kernel
theorem dX5_foreseeEnds_4 : decode cX5_foreseeEnds 4 = .ok (.aload_n 0, 1) := by decide +kernel
theorem dX5_foreseeEnds_5 : decode cX5_foreseeEnds 5 = .ok (.getfield 10, 3) := by decide +kernel
theorem dX5_foreseeEnds_8 : decode cX5_foreseeEnds 8 = .ok (.invokevirtual 185, 3) := by decide +kernel
theorem dX5_foreseeEnds_11 : decode cX5_foreseeEnds 11 = .ok (.iconst 0, 1) := by decide +kernel
theorem dX5_foreseeEnds_12 : decode cX5_foreseeEnds 12 = .ok (.istore_n 1, 1) := by decide +kernel
theorem dX5_foreseeEnds_13 : decode cX5_foreseeEnds 13 = .ok (.iload_n 1, 1) := by decide +kernel
theorem dX5_foreseeEnds_14 : decode cX5_foreseeEnds 14 = .ok (.aload_n 0, 1) := by decide +kernel
theorem dX5_foreseeEnds_15 : decode cX5_foreseeEnds 15 = .ok (.getfield 34, 3) := by decide +kernel
theorem dX5_foreseeEnds_18 : decode cX5_foreseeEnds 18 = .ok (.arraylength, 1) := by decide +kernel
theorem dX5_foreseeEnds_19 : decode cX5_foreseeEnds 19 = .ok (.if_icmp .ge 16, 3) := by decide +kernel
theorem dX5_foreseeEnds_22 : decode cX5_foreseeEnds 22 = .ok (.aload_n 0, 1) := by decide +kernel
theorem dX5_foreseeEnds_23 : decode cX5_foreseeEnds 23 = .ok (.getfield 34, 3) := by decide +kernel
theorem dX5_foreseeEnds_26 : decode cX5_foreseeEnds 26 = .ok (.iload_n 1, 1) := by decide +kernel
theorem dX5_foreseeEnds_27 : decode cX5_foreseeEnds 27 = .ok (.iconst (-1), 1) := by decide +kernel
theorem dX5_foreseeEnds_28 : decode cX5_foreseeEnds 28 = .ok (.iastore, 1) := by decide +kernel
theorem dX5_foreseeEnds_29 : decode cX5_foreseeEnds 29 = .ok (.iinc 1 1, 3) := by decide +kernel
theorem dX5_foreseeEnds_32 : decode cX5_foreseeEnds 32 = .ok (.goto (-19), 3) := by decide +kernel
theorem dX5_foreseeEnds_35 : decode cX5_foreseeEnds 35 = .ok (.iconst 1, 1) := by decide +kernel
theorem dX5_foreseeEnds_36 : decode cX5_foreseeEnds 36 = .ok (.istore_n 1, 1) := by decide +kernel
theorem dX5_foreseeEnds_37 : decode cX5_foreseeEnds 37 = .ok (.iconst 1, 1) := by decide +kernel
theorem dX5_foreseeEnds_38 : decode cX5_foreseeEnds 38 = .ok (.istore_n 2, 1) := by decide +kernel
theorem dX5_foreseeEnds_39 : decode cX5_foreseeEnds 39 = .ok (.iload_n 2, 1) := by decide +kernel
theorem dX5_foreseeEnds_40 : decode cX5_foreseeEnds 40 = .ok (.sipush 200, 3) := by decide +kernel
theorem dX5_foreseeEnds_43 : decode cX5_foreseeEnds 43 = .ok (.if_icmp .gt 53, 3) := by decide +kernel
theorem dX5_foreseeEnds_46 : decode cX5_foreseeEnds 46 = .ok (.iload_n 1, 1) := by decide +kernel
theorem dX5_foreseeEnds_47 : decode cX5_foreseeEnds 47 = .ok (.ifCond .eq 49, 3) := by decide +kernel
theorem dX5_foreseeEnds_50 : decode cX5_foreseeEnds 50 = .ok (.aload_n 0, 1) := by decide +kernel
theorem dX5_foreseeEnds_51 : decode cX5_foreseeEnds 51 = .ok (.getfield 16, 3) := by decide +kernel
theorem dX5_foreseeEnds_54 : decode cX5_foreseeEnds 54 = .ok (.getfield 151, 3) := by decide +kernel
theorem dX5_foreseeEnds_57 : decode cX5_foreseeEnds 57 = .ok (.istore_n 3, 1) := by decide +kernel
theorem dX5_foreseeEnds_58 : decode cX5_foreseeEnds 58 = .ok (.aload_n 0, 1) := by decide +kernel
theorem dX5_foreseeEnds_59 : decode cX5_foreseeEnds 59 = .ok (.getfield 16, 3) := by decide +kernel
theorem dX5_foreseeEnds_62 : decode cX5_foreseeEnds 62 = .ok (.invokevirtual 154, 3) := by decide +kernel
theorem dX5_foreseeEnds_65 : decode cX5_foreseeEnds 65 = .ok (.ifCond .le 7, 3) := by decide +kernel
theorem dX5_foreseeEnds_68 : decode cX5_foreseeEnds 68 = .ok (.iconst 1, 1) := by decide +kernel
theorem dX5_foreseeEnds_69 : decode cX5_foreseeEnds 69 = .ok (.goto 4, 3) := by decide +kernel
theorem dX5_foreseeEnds_72 : decode cX5_foreseeEnds 72 = .ok (.iconst 0, 1) := by decide +kernel
theorem dX5_foreseeEnds_73 : decode cX5_foreseeEnds 73 = .ok (.istore_n 1, 1) := by decide +kernel
theorem dX5_foreseeEnds_74 : decode cX5_foreseeEnds 74 = .ok (.aload_n 0, 1) := by decide +kernel
theorem dX5_foreseeEnds_75 : decode cX5_foreseeEnds 75 = .ok (.getfield 16, 3) := by decide +kernel
theorem dX5_foreseeEnds_78 : decode cX5_foreseeEnds 78 = .ok (.getfield 151, 3) := by decide +kernel
theorem dX5_foreseeEnds_81 : decode cX5_foreseeEnds 81 = .ok (.iload_n 3, 1) := by decide +kernel
theorem dX5_foreseeEnds_82 : decode cX5_foreseeEnds 82 = .ok (.if_icmp .eq 8, 3) := by decide +kernel
theorem dX5_foreseeEnds_85 : decode cX5_foreseeEnds 85 = .ok (.aload_n 0, 1) := by decide +kernel
theorem dX5_foreseeEnds_86 : decode cX5_foreseeEnds 86 = .ok (.iload_n 2, 1) := by decide +kernel
theorem dX5_foreseeEnds_87 : decode cX5_foreseeEnds 87 = .ok (.invokevirtual 297, 3) := by decide +kernel
theorem dX5_foreseeEnds_90 : decode cX5_foreseeEnds 90 = .ok (.iinc 2 1, 3) := by decide +kernel
theorem dX5_foreseeEnds_93 : decode cX5_foreseeEnds 93 = .ok (.goto (-54), 3) := by decide +kernel
theorem dX5_foreseeEnds_96 : decode cX5_foreseeEnds 96 = .ok (.return_, 1) := by decide +kernel
theorem dX5_noteEnds_0 : decode cX5_noteEnds 0 = .ok (.iconst 0, 1) := by decide +kernel
theorem dX5_noteEnds_1 : decode cX5_noteEnds 1 = .ok (.istore_n 2, 1) := by decide +kernel
theorem dX5_noteEnds_2 : decode cX5_noteEnds 2 = .ok (.iload_n 2, 1) := by decide +kernel
theorem dX5_noteEnds_3 : decode cX5_noteEnds 3 = .ok (.aload_n 0, 1) := by decide +kernel
theorem dX5_noteEnds_4 : decode cX5_noteEnds 4 = .ok (.getfield 34, 3) := by decide +kernel
theorem dX5_noteEnds_7 : decode cX5_noteEnds 7 = .ok (.arraylength, 1) := by decide +kernel
theorem dX5_noteEnds_8 : decode cX5_noteEnds 8 = .ok (.if_icmp .ge 54, 3) := by decide +kernel
theorem dX5_noteEnds_11 : decode cX5_noteEnds 11 = .ok (.aload_n 0, 1) := by decide +kernel
theorem dX5_noteEnds_12 : decode cX5_noteEnds 12 = .ok (.getfield 10, 3) := by decide +kernel
theorem dX5_noteEnds_15 : decode cX5_noteEnds 15 = .ok (.iload_n 2, 1) := by decide +kernel
theorem dX5_noteEnds_16 : decode cX5_noteEnds 16 = .ok (.invokevirtual 201, 3) := by decide +kernel
theorem dX5_noteEnds_19 : decode cX5_noteEnds 19 = .ok (.astore_n 3, 1) := by decide +kernel
theorem dX5_noteEnds_20 : decode cX5_noteEnds 20 = .ok (.aload_n 3, 1) := by decide +kernel
theorem dX5_noteEnds_21 : decode cX5_noteEnds 21 = .ok (.ifnull 35, 3) := by decide +kernel
theorem dX5_noteEnds_24 : decode cX5_noteEnds 24 = .ok (.aload_n 0, 1) := by decide +kernel
theorem dX5_noteEnds_25 : decode cX5_noteEnds 25 = .ok (.getfield 34, 3) := by decide +kernel
theorem dX5_noteEnds_28 : decode cX5_noteEnds 28 = .ok (.iload_n 2, 1) := by decide +kernel
theorem dX5_noteEnds_29 : decode cX5_noteEnds 29 = .ok (.iaload, 1) := by decide +kernel
theorem dX5_noteEnds_30 : decode cX5_noteEnds 30 = .ok (.iconst (-1), 1) := by decide +kernel
theorem dX5_noteEnds_31 : decode cX5_noteEnds 31 = .ok (.if_icmp .ne 25, 3) := by decide +kernel
theorem dX5_noteEnds_34 : decode cX5_noteEnds 34 = .ok (.aload_n 0, 1) := by decide +kernel
theorem dX5_noteEnds_35 : decode cX5_noteEnds 35 = .ok (.getfield 16, 3) := by decide +kernel
theorem dX5_noteEnds_38 : decode cX5_noteEnds 38 = .ok (.aload_n 3, 1) := by decide +kernel
theorem dX5_noteEnds_39 : decode cX5_noteEnds 39 = .ok (.getfield 300, 3) := by decide +kernel
theorem dX5_noteEnds_42 : decode cX5_noteEnds 42 = .ok (.invokevirtual 226, 3) := by decide +kernel
theorem dX5_noteEnds_45 : decode cX5_noteEnds 45 = .ok (.iconst (-1), 1) := by decide +kernel
theorem dX5_noteEnds_46 : decode cX5_noteEnds 46 = .ok (.if_icmp .ne 10, 3) := by decide +kernel
theorem dX5_noteEnds_49 : decode cX5_noteEnds 49 = .ok (.aload_n 0, 1) := by decide +kernel
theorem dX5_noteEnds_50 : decode cX5_noteEnds 50 = .ok (.getfield 34, 3) := by decide +kernel
theorem dX5_noteEnds_53 : decode cX5_noteEnds 53 = .ok (.iload_n 2, 1) := by decide +kernel
theorem dX5_noteEnds_54 : decode cX5_noteEnds 54 = .ok (.iload_n 1, 1) := by decide +kernel
theorem dX5_noteEnds_55 : decode cX5_noteEnds 55 = .ok (.iastore, 1) := by decide +kernel
theorem dX5_noteEnds_56 : decode cX5_noteEnds 56 = .ok (.iinc 2 1, 3) := by decide +kernel
theorem dX5_noteEnds_59 : decode cX5_noteEnds 59 = .ok (.goto (-57), 3) := by decide +kernel
theorem dX5_noteEnds_62 : decode cX5_noteEnds 62 = .ok (.return_, 1) := by decide +kernel
theorem dX5_bestRuleFor_0 : decode cX5_bestRuleFor 0 = .ok (.iconst (-1), 1) := by decide +kernel
theorem dX5_bestRuleFor_1 : decode cX5_bestRuleFor 1 = .ok (.istore_n 2, 1) := by decide +kernel
theorem dX5_bestRuleFor_2 : decode cX5_bestRuleFor 2 = .ok (.iconst 0, 1) := by decide +kernel
theorem dX5_bestRuleFor_3 : decode cX5_bestRuleFor 3 = .ok (.istore_n 3, 1) := by decide +kernel
theorem dX5_bestRuleFor_4 : decode cX5_bestRuleFor 4 = .ok (.iconst 0, 1) := by decide +kernel
theorem dX5_bestRuleFor_5 : decode cX5_bestRuleFor 5 = .ok (.istore 4, 2) := by decide +kernel
theorem dX5_bestRuleFor_7 : decode cX5_bestRuleFor 7 = .ok (.iconst 0, 1) := by decide +kernel
theorem dX5_bestRuleFor_8 : decode cX5_bestRuleFor 8 = .ok (.istore 5, 2) := by decide +kernel
theorem dX5_bestRuleFor_10 : decode cX5_bestRuleFor 10 = .ok (.iload 5, 2) := by decide +kernel
theorem dX5_bestRuleFor_12 : decode cX5_bestRuleFor 12 = .ok (.getstatic 136, 3) := by decide +kernel
theorem dX5_bestRuleFor_15 : decode cX5_bestRuleFor 15 = .ok (.iconst 0, 1) := by decide +kernel
theorem dX5_bestRuleFor_16 : decode cX5_bestRuleFor 16 = .ok (.iaload, 1) := by decide +kernel
theorem dX5_bestRuleFor_17 : decode cX5_bestRuleFor 17 = .ok (.if_icmp .gt 110, 3) := by decide +kernel
theorem dX5_bestRuleFor_20 : decode cX5_bestRuleFor 20 = .ok (.aload_n 0, 1) := by decide +kernel
theorem dX5_bestRuleFor_21 : decode cX5_bestRuleFor 21 = .ok (.getfield 16, 3) := by decide +kernel
theorem dX5_bestRuleFor_24 : decode cX5_bestRuleFor 24 = .ok (.aload_n 0, 1) := by decide +kernel
theorem dX5_bestRuleFor_25 : decode cX5_bestRuleFor 25 = .ok (.getfield 10, 3) := by decide +kernel
theorem dX5_bestRuleFor_28 : decode cX5_bestRuleFor 28 = .ok (.invokevirtual 185, 3) := by decide +kernel
theorem dX5_bestRuleFor_31 : decode cX5_bestRuleFor 31 = .ok (.aload_n 0, 1) := by decide +kernel
theorem dX5_bestRuleFor_32 : decode cX5_bestRuleFor 32 = .ok (.getfield 16, 3) := by decide +kernel
theorem dX5_bestRuleFor_35 : decode cX5_bestRuleFor 35 = .ok (.getfield 141, 3) := by decide +kernel
theorem dX5_bestRuleFor_38 : decode cX5_bestRuleFor 38 = .ok (.iconst 0, 1) := by decide +kernel
theorem dX5_bestRuleFor_39 : decode cX5_bestRuleFor 39 = .ok (.iload 5, 2) := by decide +kernel
theorem dX5_bestRuleFor_41 : decode cX5_bestRuleFor 41 = .ok (.iastore, 1) := by decide +kernel
theorem dX5_bestRuleFor_42 : decode cX5_bestRuleFor 42 = .ok (.aload_n 0, 1) := by decide +kernel
theorem dX5_bestRuleFor_43 : decode cX5_bestRuleFor 43 = .ok (.getfield 16, 3) := by decide +kernel
theorem dX5_bestRuleFor_46 : decode cX5_bestRuleFor 46 = .ok (.iload_n 1, 1) := by decide +kernel
theorem dX5_bestRuleFor_47 : decode cX5_bestRuleFor 47 = .ok (.invokevirtual 284, 3) := by decide +kernel
theorem dX5_bestRuleFor_50 : decode cX5_bestRuleFor 50 = .ok (.aload_n 0, 1) := by decide +kernel
theorem dX5_bestRuleFor_51 : decode cX5_bestRuleFor 51 = .ok (.getfield 16, 3) := by decide +kernel
theorem dX5_bestRuleFor_54 : decode cX5_bestRuleFor 54 = .ok (.getfield 288, 3) := by decide +kernel
theorem dX5_bestRuleFor_57 : decode cX5_bestRuleFor 57 = .ok (.iload_n 3, 1) := by decide +kernel
theorem dX5_bestRuleFor_58 : decode cX5_bestRuleFor 58 = .ok (.if_icmp .gt 26, 3) := by decide +kernel
theorem dX5_bestRuleFor_61 : decode cX5_bestRuleFor 61 = .ok (.aload_n 0, 1) := by decide +kernel
theorem dX5_bestRuleFor_62 : decode cX5_bestRuleFor 62 = .ok (.getfield 16, 3) := by decide +kernel
theorem dX5_bestRuleFor_65 : decode cX5_bestRuleFor 65 = .ok (.getfield 288, 3) := by decide +kernel
theorem dX5_bestRuleFor_68 : decode cX5_bestRuleFor 68 = .ok (.iload_n 3, 1) := by decide +kernel
theorem dX5_bestRuleFor_69 : decode cX5_bestRuleFor 69 = .ok (.if_icmp .ne 19, 3) := by decide +kernel
theorem dX5_bestRuleFor_72 : decode cX5_bestRuleFor 72 = .ok (.aload_n 0, 1) := by decide +kernel
theorem dX5_bestRuleFor_73 : decode cX5_bestRuleFor 73 = .ok (.getfield 16, 3) := by decide +kernel
theorem dX5_bestRuleFor_76 : decode cX5_bestRuleFor 76 = .ok (.getfield 294, 3) := by decide +kernel
theorem dX5_bestRuleFor_79 : decode cX5_bestRuleFor 79 = .ok (.iload 4, 2) := by decide +kernel
theorem dX5_bestRuleFor_81 : decode cX5_bestRuleFor 81 = .ok (.if_icmp .ge 7, 3) := by decide +kernel
theorem dX5_bestRuleFor_84 : decode cX5_bestRuleFor 84 = .ok (.iconst 1, 1) := by decide +kernel
theorem dX5_bestRuleFor_85 : decode cX5_bestRuleFor 85 = .ok (.goto 4, 3) := by decide +kernel
theorem dX5_bestRuleFor_88 : decode cX5_bestRuleFor 88 = .ok (.iconst 0, 1) := by decide +kernel
theorem dX5_bestRuleFor_89 : decode cX5_bestRuleFor 89 = .ok (.istore 6, 2) := by decide +kernel
theorem dX5_bestRuleFor_91 : decode cX5_bestRuleFor 91 = .ok (.iload_n 2, 1) := by decide +kernel
theorem dX5_bestRuleFor_92 : decode cX5_bestRuleFor 92 = .ok (.iconst (-1), 1) := by decide +kernel
theorem dX5_bestRuleFor_93 : decode cX5_bestRuleFor 93 = .ok (.if_icmp .eq 8, 3) := by decide +kernel
theorem dX5_bestRuleFor_96 : decode cX5_bestRuleFor 96 = .ok (.iload 6, 2) := by decide +kernel
theorem dX5_bestRuleFor_98 : decode cX5_bestRuleFor 98 = .ok (.ifCond .eq 23, 3) := by decide +kernel
theorem dX5_bestRuleFor_101 : decode cX5_bestRuleFor 101 = .ok (.iload 5, 2) := by decide +kernel
theorem dX5_bestRuleFor_103 : decode cX5_bestRuleFor 103 = .ok (.istore_n 2, 1) := by decide +kernel
theorem dX5_bestRuleFor_104 : decode cX5_bestRuleFor 104 = .ok (.aload_n 0, 1) := by decide +kernel
theorem dX5_bestRuleFor_105 : decode cX5_bestRuleFor 105 = .ok (.getfield 16, 3) := by decide +kernel
theorem dX5_bestRuleFor_108 : decode cX5_bestRuleFor 108 = .ok (.getfield 288, 3) := by decide +kernel
theorem dX5_bestRuleFor_111 : decode cX5_bestRuleFor 111 = .ok (.istore_n 3, 1) := by decide +kernel
theorem dX5_bestRuleFor_112 : decode cX5_bestRuleFor 112 = .ok (.aload_n 0, 1) := by decide +kernel
theorem dX5_bestRuleFor_113 : decode cX5_bestRuleFor 113 = .ok (.getfield 16, 3) := by decide +kernel
theorem dX5_bestRuleFor_116 : decode cX5_bestRuleFor 116 = .ok (.getfield 294, 3) := by decide +kernel
theorem dX5_bestRuleFor_119 : decode cX5_bestRuleFor 119 = .ok (.istore 4, 2) := by decide +kernel
theorem dX5_bestRuleFor_121 : decode cX5_bestRuleFor 121 = .ok (.iinc 5 1, 3) := by decide +kernel
theorem dX5_bestRuleFor_124 : decode cX5_bestRuleFor 124 = .ok (.goto (-114), 3) := by decide +kernel
theorem dX5_bestRuleFor_127 : decode cX5_bestRuleFor 127 = .ok (.iload_n 2, 1) := by decide +kernel
theorem dX5_bestRuleFor_128 : decode cX5_bestRuleFor 128 = .ok (.ireturn, 1) := by decide +kernel
theorem dX5_mixed_0 : decode cX5_mixed 0 = .ok (.ldc2_w 302, 3) := by decide +kernel
theorem dX5_mixed_3 : decode cX5_mixed 3 = .ok (.lload_n 0, 1) := by decide +kernel
theorem dX5_mixed_4 : decode cX5_mixed 4 = .ok (.lmul, 1) := by decide +kernel
theorem dX5_mixed_5 : decode cX5_mixed 5 = .ok (.lload_n 2, 1) := by decide +kernel
theorem dX5_mixed_6 : decode cX5_mixed 6 = .ok (.ladd, 1) := by decide +kernel
theorem dX5_mixed_7 : decode cX5_mixed 7 = .ok (.lreturn, 1) := by decide +kernel
theorem dX5_hashCounts_0 : decode cX5_hashCounts 0 = .ok (.lload_n 1, 1) := by decide +kernel
theorem dX5_hashCounts_1 : decode cX5_hashCounts 1 = .ok (.lstore_n 3, 1) := by decide +kernel
theorem dX5_hashCounts_2 : decode cX5_hashCounts 2 = .ok (.iconst 0, 1) := by decide +kernel
theorem dX5_hashCounts_3 : decode cX5_hashCounts 3 = .ok (.istore 5, 2) := by decide +kernel
theorem dX5_hashCounts_5 : decode cX5_hashCounts 5 = .ok (.iload 5, 2) := by decide +kernel
theorem dX5_hashCounts_7 : decode cX5_hashCounts 7 = .ok (.bipush 12, 2) := by decide +kernel
theorem dX5_hashCounts_9 : decode cX5_hashCounts 9 = .ok (.if_icmp .ge 21, 3) := by decide +kernel
theorem dX5_hashCounts_12 : decode cX5_hashCounts 12 = .ok (.lload_n 3, 1) := by decide +kernel
theorem dX5_hashCounts_13 : decode cX5_hashCounts 13 = .ok (.aload_n 0, 1) := by decide +kernel
theorem dX5_hashCounts_14 : decode cX5_hashCounts 14 = .ok (.iload 5, 2) := by decide +kernel
theorem dX5_hashCounts_16 : decode cX5_hashCounts 16 = .ok (.invokevirtual 218, 3) := by decide +kernel
theorem dX5_hashCounts_19 : decode cX5_hashCounts 19 = .ok (.i2l, 1) := by decide +kernel
theorem dX5_hashCounts_20 : decode cX5_hashCounts 20 = .ok (.invokestatic 254, 3) := by decide +kernel
theorem dX5_hashCounts_23 : decode cX5_hashCounts 23 = .ok (.lstore_n 3, 1) := by decide +kernel
theorem dX5_hashCounts_24 : decode cX5_hashCounts 24 = .ok (.iinc 5 1, 3) := by decide +kernel
theorem dX5_hashCounts_27 : decode cX5_hashCounts 27 = .ok (.goto (-22), 3) := by decide +kernel
theorem dX5_hashCounts_30 : decode cX5_hashCounts 30 = .ok (.iconst 0, 1) := by decide +kernel
theorem dX5_hashCounts_31 : decode cX5_hashCounts 31 = .ok (.istore 5, 2) := by decide +kernel
theorem dX5_hashCounts_33 : decode cX5_hashCounts 33 = .ok (.iload 5, 2) := by decide +kernel
theorem dX5_hashCounts_35 : decode cX5_hashCounts 35 = .ok (.iconst 4, 1) := by decide +kernel
theorem dX5_hashCounts_36 : decode cX5_hashCounts 36 = .ok (.if_icmp .ge 25, 3) := by decide +kernel
theorem dX5_hashCounts_39 : decode cX5_hashCounts 39 = .ok (.lload_n 3, 1) := by decide +kernel
theorem dX5_hashCounts_40 : decode cX5_hashCounts 40 = .ok (.aload_n 0, 1) := by decide +kernel
theorem dX5_hashCounts_41 : decode cX5_hashCounts 41 = .ok (.getfield 10, 3) := by decide +kernel
theorem dX5_hashCounts_44 : decode cX5_hashCounts 44 = .ok (.getfield 141, 3) := by decide +kernel
theorem dX5_hashCounts_47 : decode cX5_hashCounts 47 = .ok (.iload 5, 2) := by decide +kernel
theorem dX5_hashCounts_49 : decode cX5_hashCounts 49 = .ok (.iaload, 1) := by decide +kernel
theorem dX5_hashCounts_50 : decode cX5_hashCounts 50 = .ok (.i2l, 1) := by decide +kernel
theorem dX5_hashCounts_51 : decode cX5_hashCounts 51 = .ok (.invokestatic 254, 3) := by decide +kernel
theorem dX5_hashCounts_54 : decode cX5_hashCounts 54 = .ok (.lstore_n 3, 1) := by decide +kernel
theorem dX5_hashCounts_55 : decode cX5_hashCounts 55 = .ok (.iinc 5 1, 3) := by decide +kernel
theorem dX5_hashCounts_58 : decode cX5_hashCounts 58 = .ok (.goto (-25), 3) := by decide +kernel
theorem dX5_hashCounts_61 : decode cX5_hashCounts 61 = .ok (.lload_n 3, 1) := by decide +kernel
theorem dX5_hashCounts_62 : decode cX5_hashCounts 62 = .ok (.lreturn, 1) := by decide +kernel
theorem dX5_hashWeavers_0 : decode cX5_hashWeavers 0 = .ok (.lload_n 1, 1) := by decide +kernel
theorem dX5_hashWeavers_1 : decode cX5_hashWeavers 1 = .ok (.lstore_n 3, 1) := by decide +kernel
theorem dX5_hashWeavers_2 : decode cX5_hashWeavers 2 = .ok (.iconst 0, 1) := by decide +kernel
theorem dX5_hashWeavers_3 : decode cX5_hashWeavers 3 = .ok (.istore 5, 2) := by decide +kernel
theorem dX5_hashWeavers_5 : decode cX5_hashWeavers 5 = .ok (.iload 5, 2) := by decide +kernel
theorem dX5_hashWeavers_7 : decode cX5_hashWeavers 7 = .ok (.bipush 6, 2) := by decide +kernel
theorem dX5_hashWeavers_9 : decode cX5_hashWeavers 9 = .ok (.if_icmp .ge 111, 3) := by decide +kernel
theorem dX5_hashWeavers_12 : decode cX5_hashWeavers 12 = .ok (.aload_n 0, 1) := by decide +kernel
theorem dX5_hashWeavers_13 : decode cX5_hashWeavers 13 = .ok (.getfield 10, 3) := by decide +kernel
theorem dX5_hashWeavers_16 : decode cX5_hashWeavers 16 = .ok (.getfield 59, 3) := by decide +kernel
theorem dX5_hashWeavers_19 : decode cX5_hashWeavers 19 = .ok (.iload 5, 2) := by decide +kernel
theorem dX5_hashWeavers_21 : decode cX5_hashWeavers 21 = .ok (.aaload, 1) := by decide +kernel
theorem dX5_hashWeavers_22 : decode cX5_hashWeavers 22 = .ok (.astore 6, 2) := by decide +kernel
theorem dX5_hashWeavers_24 : decode cX5_hashWeavers 24 = .ok (.iconst 0, 1) := by decide +kernel
theorem dX5_hashWeavers_25 : decode cX5_hashWeavers 25 = .ok (.istore 7, 2) := by decide +kernel
theorem dX5_hashWeavers_27 : decode cX5_hashWeavers 27 = .ok (.iload 7, 2) := by decide +kernel
theorem dX5_hashWeavers_29 : decode cX5_hashWeavers 29 = .ok (.bipush 8, 2) := by decide +kernel
theorem dX5_hashWeavers_31 : decode cX5_hashWeavers 31 = .ok (.if_icmp .ge 22, 3) := by decide +kernel
theorem dX5_hashWeavers_34 : decode cX5_hashWeavers 34 = .ok (.lload_n 3, 1) := by decide +kernel
theorem dX5_hashWeavers_35 : decode cX5_hashWeavers 35 = .ok (.aload 6, 2) := by decide +kernel
theorem dX5_hashWeavers_37 : decode cX5_hashWeavers 37 = .ok (.iload 7, 2) := by decide +kernel
theorem dX5_hashWeavers_39 : decode cX5_hashWeavers 39 = .ok (.invokevirtual 191, 3) := by decide +kernel
theorem dX5_hashWeavers_42 : decode cX5_hashWeavers 42 = .ok (.i2l, 1) := by decide +kernel
theorem dX5_hashWeavers_43 : decode cX5_hashWeavers 43 = .ok (.invokestatic 254, 3) := by decide +kernel
theorem dX5_hashWeavers_46 : decode cX5_hashWeavers 46 = .ok (.lstore_n 3, 1) := by decide +kernel
theorem dX5_hashWeavers_47 : decode cX5_hashWeavers 47 = .ok (.iinc 7 1, 3) := by decide +kernel
theorem dX5_hashWeavers_50 : decode cX5_hashWeavers 50 = .ok (.goto (-23), 3) := by decide +kernel
theorem dX5_hashWeavers_53 : decode cX5_hashWeavers 53 = .ok (.iconst 0, 1) := by decide +kernel
theorem dX5_hashWeavers_54 : decode cX5_hashWeavers 54 = .ok (.istore 7, 2) := by decide +kernel
theorem dX5_hashWeavers_56 : decode cX5_hashWeavers 56 = .ok (.iload 7, 2) := by decide +kernel
theorem dX5_hashWeavers_58 : decode cX5_hashWeavers 58 = .ok (.iconst 4, 1) := by decide +kernel
theorem dX5_hashWeavers_59 : decode cX5_hashWeavers 59 = .ok (.if_icmp .ge 25, 3) := by decide +kernel
theorem dX5_hashWeavers_62 : decode cX5_hashWeavers 62 = .ok (.lload_n 3, 1) := by decide +kernel
theorem dX5_hashWeavers_63 : decode cX5_hashWeavers 63 = .ok (.aload 6, 2) := by decide +kernel
theorem dX5_hashWeavers_65 : decode cX5_hashWeavers 65 = .ok (.getfield 79, 3) := by decide +kernel
theorem dX5_hashWeavers_68 : decode cX5_hashWeavers 68 = .ok (.iload 7, 2) := by decide +kernel
theorem dX5_hashWeavers_70 : decode cX5_hashWeavers 70 = .ok (.invokevirtual 83, 3) := by decide +kernel
theorem dX5_hashWeavers_73 : decode cX5_hashWeavers 73 = .ok (.i2l, 1) := by decide +kernel
theorem dX5_hashWeavers_74 : decode cX5_hashWeavers 74 = .ok (.invokestatic 254, 3) := by decide +kernel
theorem dX5_hashWeavers_77 : decode cX5_hashWeavers 77 = .ok (.lstore_n 3, 1) := by decide +kernel
theorem dX5_hashWeavers_78 : decode cX5_hashWeavers 78 = .ok (.iinc 7 1, 3) := by decide +kernel
theorem dX5_hashWeavers_81 : decode cX5_hashWeavers 81 = .ok (.goto (-25), 3) := by decide +kernel
theorem dX5_hashWeavers_84 : decode cX5_hashWeavers 84 = .ok (.lload_n 3, 1) := by decide +kernel
theorem dX5_hashWeavers_85 : decode cX5_hashWeavers 85 = .ok (.aload_n 0, 1) := by decide +kernel
theorem dX5_hashWeavers_86 : decode cX5_hashWeavers 86 = .ok (.getfield 10, 3) := by decide +kernel
theorem dX5_hashWeavers_89 : decode cX5_hashWeavers 89 = .ok (.aload 6, 2) := by decide +kernel
theorem dX5_hashWeavers_91 : decode cX5_hashWeavers 91 = .ok (.invokevirtual 209, 3) := by decide +kernel
theorem dX5_hashWeavers_94 : decode cX5_hashWeavers 94 = .ok (.i2l, 1) := by decide +kernel
theorem dX5_hashWeavers_95 : decode cX5_hashWeavers 95 = .ok (.invokestatic 254, 3) := by decide +kernel
theorem dX5_hashWeavers_98 : decode cX5_hashWeavers 98 = .ok (.lstore_n 3, 1) := by decide +kernel
theorem dX5_hashWeavers_99 : decode cX5_hashWeavers 99 = .ok (.lload_n 3, 1) := by decide +kernel
theorem dX5_hashWeavers_100 : decode cX5_hashWeavers 100 = .ok (.aload_n 0, 1) := by decide +kernel
theorem dX5_hashWeavers_101 : decode cX5_hashWeavers 101 = .ok (.getfield 10, 3) := by decide +kernel
theorem dX5_hashWeavers_104 : decode cX5_hashWeavers 104 = .ok (.aload 6, 2) := by decide +kernel
theorem dX5_hashWeavers_106 : decode cX5_hashWeavers 106 = .ok (.invokevirtual 213, 3) := by decide +kernel
theorem dX5_hashWeavers_109 : decode cX5_hashWeavers 109 = .ok (.i2l, 1) := by decide +kernel
theorem dX5_hashWeavers_110 : decode cX5_hashWeavers 110 = .ok (.invokestatic 254, 3) := by decide +kernel
theorem dX5_hashWeavers_113 : decode cX5_hashWeavers 113 = .ok (.lstore_n 3, 1) := by decide +kernel
theorem dX5_hashWeavers_114 : decode cX5_hashWeavers 114 = .ok (.iinc 5 1, 3) := by decide +kernel
theorem dX5_hashWeavers_117 : decode cX5_hashWeavers 117 = .ok (.goto (-112), 3) := by decide +kernel
theorem dX5_hashWeavers_120 : decode cX5_hashWeavers 120 = .ok (.lload_n 3, 1) := by decide +kernel
theorem dX5_hashWeavers_121 : decode cX5_hashWeavers 121 = .ok (.lreturn, 1) := by decide +kernel
theorem dX5_hashOrders_0 : decode cX5_hashOrders 0 = .ok (.lload_n 1, 1) := by decide +kernel
theorem dX5_hashOrders_1 : decode cX5_hashOrders 1 = .ok (.lstore_n 3, 1) := by decide +kernel
theorem dX5_hashOrders_2 : decode cX5_hashOrders 2 = .ok (.aload_n 0, 1) := by decide +kernel
theorem dX5_hashOrders_3 : decode cX5_hashOrders 3 = .ok (.invokevirtual 229, 3) := by decide +kernel
theorem dX5_hashOrders_6 : decode cX5_hashOrders 6 = .ok (.iconst 0, 1) := by decide +kernel
theorem dX5_hashOrders_7 : decode cX5_hashOrders 7 = .ok (.istore 5, 2) := by decide +kernel
theorem dX5_hashOrders_9 : decode cX5_hashOrders 9 = .ok (.iload 5, 2) := by decide +kernel
theorem dX5_hashOrders_11 : decode cX5_hashOrders 11 = .ok (.aload_n 0, 1) := by decide +kernel
theorem dX5_hashOrders_12 : decode cX5_hashOrders 12 = .ok (.getfield 10, 3) := by decide +kernel
theorem dX5_hashOrders_15 : decode cX5_hashOrders 15 = .ok (.getfield 110, 3) := by decide +kernel
theorem dX5_hashOrders_18 : decode cX5_hashOrders 18 = .ok (.if_icmp .ge 120, 3) := by decide +kernel
theorem dX5_hashOrders_21 : decode cX5_hashOrders 21 = .ok (.iload 5, 2) := by decide +kernel
theorem dX5_hashOrders_23 : decode cX5_hashOrders 23 = .ok (.bipush 10, 2) := by decide +kernel
theorem dX5_hashOrders_25 : decode cX5_hashOrders 25 = .ok (.if_icmp .ge 113, 3) := by decide +kernel
theorem dX5_hashOrders_28 : decode cX5_hashOrders 28 = .ok (.aload_n 0, 1) := by decide +kernel
theorem dX5_hashOrders_29 : decode cX5_hashOrders 29 = .ok (.getfield 10, 3) := by decide +kernel
theorem dX5_hashOrders_32 : decode cX5_hashOrders 32 = .ok (.getfield 304, 3) := by decide +kernel
theorem dX5_hashOrders_35 : decode cX5_hashOrders 35 = .ok (.iload 5, 2) := by decide +kernel
theorem dX5_hashOrders_37 : decode cX5_hashOrders 37 = .ok (.aaload, 1) := by decide +kernel
theorem dX5_hashOrders_38 : decode cX5_hashOrders 38 = .ok (.astore 6, 2) := by decide +kernel
theorem dX5_hashOrders_40 : decode cX5_hashOrders 40 = .ok (.iconst 0, 1) := by decide +kernel
theorem dX5_hashOrders_41 : decode cX5_hashOrders 41 = .ok (.istore 7, 2) := by decide +kernel
theorem dX5_hashOrders_43 : decode cX5_hashOrders 43 = .ok (.iload 7, 2) := by decide +kernel
theorem dX5_hashOrders_45 : decode cX5_hashOrders 45 = .ok (.bipush 9, 2) := by decide +kernel
theorem dX5_hashOrders_47 : decode cX5_hashOrders 47 = .ok (.if_icmp .ge 26, 3) := by decide +kernel
theorem dX5_hashOrders_50 : decode cX5_hashOrders 50 = .ok (.lload_n 3, 1) := by decide +kernel
theorem dX5_hashOrders_51 : decode cX5_hashOrders 51 = .ok (.aload_n 0, 1) := by decide +kernel
theorem dX5_hashOrders_52 : decode cX5_hashOrders 52 = .ok (.getfield 10, 3) := by decide +kernel
theorem dX5_hashOrders_55 : decode cX5_hashOrders 55 = .ok (.iload 5, 2) := by decide +kernel
theorem dX5_hashOrders_57 : decode cX5_hashOrders 57 = .ok (.iload 7, 2) := by decide +kernel
theorem dX5_hashOrders_59 : decode cX5_hashOrders 59 = .ok (.invokevirtual 196, 3) := by decide +kernel
theorem dX5_hashOrders_62 : decode cX5_hashOrders 62 = .ok (.i2l, 1) := by decide +kernel
theorem dX5_hashOrders_63 : decode cX5_hashOrders 63 = .ok (.invokestatic 254, 3) := by decide +kernel
theorem dX5_hashOrders_66 : decode cX5_hashOrders 66 = .ok (.lstore_n 3, 1) := by decide +kernel
theorem dX5_hashOrders_67 : decode cX5_hashOrders 67 = .ok (.iinc 7 1, 3) := by decide +kernel
theorem dX5_hashOrders_70 : decode cX5_hashOrders 70 = .ok (.goto (-27), 3) := by decide +kernel
theorem dX5_hashOrders_73 : decode cX5_hashOrders 73 = .ok (.iconst 0, 1) := by decide +kernel
theorem dX5_hashOrders_74 : decode cX5_hashOrders 74 = .ok (.istore 7, 2) := by decide +kernel
theorem dX5_hashOrders_76 : decode cX5_hashOrders 76 = .ok (.iload 7, 2) := by decide +kernel
theorem dX5_hashOrders_78 : decode cX5_hashOrders 78 = .ok (.bipush 6, 2) := by decide +kernel
theorem dX5_hashOrders_80 : decode cX5_hashOrders 80 = .ok (.if_icmp .ge 23, 3) := by decide +kernel
theorem dX5_hashOrders_83 : decode cX5_hashOrders 83 = .ok (.lload_n 3, 1) := by decide +kernel
theorem dX5_hashOrders_84 : decode cX5_hashOrders 84 = .ok (.aload 6, 2) := by decide +kernel
theorem dX5_hashOrders_86 : decode cX5_hashOrders 86 = .ok (.getfield 204, 3) := by decide +kernel
theorem dX5_hashOrders_89 : decode cX5_hashOrders 89 = .ok (.iload 7, 2) := by decide +kernel
theorem dX5_hashOrders_91 : decode cX5_hashOrders 91 = .ok (.iaload, 1) := by decide +kernel
theorem dX5_hashOrders_92 : decode cX5_hashOrders 92 = .ok (.i2l, 1) := by decide +kernel
theorem dX5_hashOrders_93 : decode cX5_hashOrders 93 = .ok (.invokestatic 254, 3) := by decide +kernel
theorem dX5_hashOrders_96 : decode cX5_hashOrders 96 = .ok (.lstore_n 3, 1) := by decide +kernel
theorem dX5_hashOrders_97 : decode cX5_hashOrders 97 = .ok (.iinc 7 1, 3) := by decide +kernel
theorem dX5_hashOrders_100 : decode cX5_hashOrders 100 = .ok (.goto (-24), 3) := by decide +kernel
theorem dX5_hashOrders_103 : decode cX5_hashOrders 103 = .ok (.lload_n 3, 1) := by decide +kernel
theorem dX5_hashOrders_104 : decode cX5_hashOrders 104 = .ok (.aload_n 0, 1) := by decide +kernel
theorem dX5_hashOrders_105 : decode cX5_hashOrders 105 = .ok (.getfield 34, 3) := by decide +kernel
theorem dX5_hashOrders_108 : decode cX5_hashOrders 108 = .ok (.iload 5, 2) := by decide +kernel
theorem dX5_hashOrders_110 : decode cX5_hashOrders 110 = .ok (.iaload, 1) := by decide +kernel
theorem dX5_hashOrders_111 : decode cX5_hashOrders 111 = .ok (.i2l, 1) := by decide +kernel
theorem dX5_hashOrders_112 : decode cX5_hashOrders 112 = .ok (.invokestatic 254, 3) := by decide +kernel
theorem dX5_hashOrders_115 : decode cX5_hashOrders 115 = .ok (.lstore_n 3, 1) := by decide +kernel
theorem dX5_hashOrders_116 : decode cX5_hashOrders 116 = .ok (.lload_n 3, 1) := by decide +kernel
theorem dX5_hashOrders_117 : decode cX5_hashOrders 117 = .ok (.aload_n 0, 1) := by decide +kernel
theorem dX5_hashOrders_118 : decode cX5_hashOrders 118 = .ok (.getfield 10, 3) := by decide +kernel
theorem dX5_hashOrders_121 : decode cX5_hashOrders 121 = .ok (.aload 6, 2) := by decide +kernel
theorem dX5_hashOrders_123 : decode cX5_hashOrders 123 = .ok (.iconst 0, 1) := by decide +kernel
theorem dX5_hashOrders_124 : decode cX5_hashOrders 124 = .ok (.invokevirtual 237, 3) := by decide +kernel
theorem dX5_hashOrders_127 : decode cX5_hashOrders 127 = .ok (.i2l, 1) := by decide +kernel
theorem dX5_hashOrders_128 : decode cX5_hashOrders 128 = .ok (.invokestatic 254, 3) := by decide +kernel
theorem dX5_hashOrders_131 : decode cX5_hashOrders 131 = .ok (.lstore_n 3, 1) := by decide +kernel
theorem dX5_hashOrders_132 : decode cX5_hashOrders 132 = .ok (.iinc 5 1, 3) := by decide +kernel
theorem dX5_hashOrders_135 : decode cX5_hashOrders 135 = .ok (.goto (-126), 3) := by decide +kernel
theorem dX5_hashOrders_138 : decode cX5_hashOrders 138 = .ok (.lload_n 3, 1) := by decide +kernel
theorem dX5_hashOrders_139 : decode cX5_hashOrders 139 = .ok (.lreturn, 1) := by decide +kernel
theorem dX5_bitsOf_0 : decode cX5_bitsOf 0 = .ok (.dload_n 0, 1) := by decide +kernel
theorem dX5_bitsOf_1 : decode cX5_bitsOf 1 = .ok (.dconst 0, 1) := by decide +kernel
theorem dX5_bitsOf_2 : decode cX5_bitsOf 2 = .ok (.dcmp .g, 1) := by decide +kernel
theorem dX5_bitsOf_3 : decode cX5_bitsOf 3 = .ok (.ifCond .gt 5, 3) := by decide +kernel
theorem dX5_bitsOf_6 : decode cX5_bitsOf 6 = .ok (.lconst 0, 1) := by decide +kernel
theorem dX5_bitsOf_7 : decode cX5_bitsOf 7 = .ok (.lreturn, 1) := by decide +kernel
theorem dX5_bitsOf_8 : decode cX5_bitsOf 8 = .ok (.dload_n 0, 1) := by decide +kernel
theorem dX5_bitsOf_9 : decode cX5_bitsOf 9 = .ok (.dstore_n 2, 1) := by decide +kernel
theorem dX5_bitsOf_10 : decode cX5_bitsOf 10 = .ok (.ldc2_w 308, 3) := by decide +kernel
theorem dX5_bitsOf_13 : decode cX5_bitsOf 13 = .ok (.lstore 4, 2) := by decide +kernel
theorem dX5_bitsOf_15 : decode cX5_bitsOf 15 = .ok (.iconst 0, 1) := by decide +kernel
theorem dX5_bitsOf_16 : decode cX5_bitsOf 16 = .ok (.istore 6, 2) := by decide +kernel
theorem dX5_bitsOf_18 : decode cX5_bitsOf 18 = .ok (.iload 6, 2) := by decide +kernel
theorem dX5_bitsOf_20 : decode cX5_bitsOf 20 = .ok (.sipush 1022, 3) := by decide +kernel
theorem dX5_bitsOf_23 : decode cX5_bitsOf 23 = .ok (.if_icmp .ge 27, 3) := by decide +kernel
theorem dX5_bitsOf_26 : decode cX5_bitsOf 26 = .ok (.dload_n 2, 1) := by decide +kernel
theorem dX5_bitsOf_27 : decode cX5_bitsOf 27 = .ok (.dconst 1, 1) := by decide +kernel
theorem dX5_bitsOf_28 : decode cX5_bitsOf 28 = .ok (.dcmp .g, 1) := by decide +kernel
theorem dX5_bitsOf_29 : decode cX5_bitsOf 29 = .ok (.ifCond .ge 21, 3) := by decide +kernel
theorem dX5_bitsOf_32 : decode cX5_bitsOf 32 = .ok (.dload_n 2, 1) := by decide +kernel
theorem dX5_bitsOf_33 : decode cX5_bitsOf 33 = .ok (.ldc2_w 310, 3) := by decide +kernel
theorem dX5_bitsOf_36 : decode cX5_bitsOf 36 = .ok (.dmul, 1) := by decide +kernel
theorem dX5_bitsOf_37 : decode cX5_bitsOf 37 = .ok (.dstore_n 2, 1) := by decide +kernel
theorem dX5_bitsOf_38 : decode cX5_bitsOf 38 = .ok (.lload 4, 2) := by decide +kernel
theorem dX5_bitsOf_40 : decode cX5_bitsOf 40 = .ok (.lconst 1, 1) := by decide +kernel
theorem dX5_bitsOf_41 : decode cX5_bitsOf 41 = .ok (.lsub, 1) := by decide +kernel
theorem dX5_bitsOf_42 : decode cX5_bitsOf 42 = .ok (.lstore 4, 2) := by decide +kernel
theorem dX5_bitsOf_44 : decode cX5_bitsOf 44 = .ok (.iinc 6 1, 3) := by decide +kernel
theorem dX5_bitsOf_47 : decode cX5_bitsOf 47 = .ok (.goto (-29), 3) := by decide +kernel
theorem dX5_bitsOf_50 : decode cX5_bitsOf 50 = .ok (.lload 4, 2) := by decide +kernel
theorem dX5_bitsOf_52 : decode cX5_bitsOf 52 = .ok (.bipush 52, 2) := by decide +kernel
theorem dX5_bitsOf_54 : decode cX5_bitsOf 54 = .ok (.lshl, 1) := by decide +kernel
theorem dX5_bitsOf_55 : decode cX5_bitsOf 55 = .ok (.dload_n 2, 1) := by decide +kernel
theorem dX5_bitsOf_56 : decode cX5_bitsOf 56 = .ok (.dconst 1, 1) := by decide +kernel
theorem dX5_bitsOf_57 : decode cX5_bitsOf 57 = .ok (.dsub, 1) := by decide +kernel
theorem dX5_bitsOf_58 : decode cX5_bitsOf 58 = .ok (.ldc2_w 312, 3) := by decide +kernel
theorem dX5_bitsOf_61 : decode cX5_bitsOf 61 = .ok (.dmul, 1) := by decide +kernel
theorem dX5_bitsOf_62 : decode cX5_bitsOf 62 = .ok (.d2l, 1) := by decide +kernel
theorem dX5_bitsOf_63 : decode cX5_bitsOf 63 = .ok (.ladd, 1) := by decide +kernel
theorem dX5_bitsOf_64 : decode cX5_bitsOf 64 = .ok (.lreturn, 1) := by decide +kernel
theorem dX6_init_0 : decode cX6_init 0 = .ok (.aload_n 0, 1) := by decide +kernel
theorem dX6_init_1 : decode cX6_init 1 = .ok (.invokespecial 1, 3) := by decide +kernel
theorem dX6_init_4 : decode cX6_init 4 = .ok (.aload_n 0, 1) := by decide +kernel
theorem dX6_init_5 : decode cX6_init 5 = .ok (.sipush 210, 3) := by decide +kernel
theorem dX6_init_8 : decode cX6_init 8 = .ok (.newarray .int, 2) := by decide +kernel
theorem dX6_init_10 : decode cX6_init 10 = .ok (.putfield 7, 3) := by decide +kernel
theorem dX6_init_13 : decode cX6_init 13 = .ok (.aload_n 0, 1) := by decide +kernel
theorem dX6_init_14 : decode cX6_init 14 = .ok (.sipush 210, 3) := by decide +kernel
theorem dX6_init_17 : decode cX6_init 17 = .ok (.newarray .int, 2) := by decide +kernel
theorem dX6_init_19 : decode cX6_init 19 = .ok (.putfield 13, 3) := by decide +kernel
theorem dX6_init_22 : decode cX6_init 22 = .ok (.aload_n 0, 1) := by decide +kernel
theorem dX6_init_23 : decode cX6_init 23 = .ok (.sipush 1260, 3) := by decide +kernel
theorem dX6_init_26 : decode cX6_init 26 = .ok (.newarray .int, 2) := by decide +kernel
theorem dX6_init_28 : decode cX6_init 28 = .ok (.putfield 16, 3) := by decide +kernel
theorem dX6_init_31 : decode cX6_init 31 = .ok (.aload_n 0, 1) := by decide +kernel
theorem dX6_init_32 : decode cX6_init 32 = .ok (.bipush 60, 2) := by decide +kernel
theorem dX6_init_34 : decode cX6_init 34 = .ok (.newarray .int, 2) := by decide +kernel
theorem dX6_init_36 : decode cX6_init 36 = .ok (.putfield 19, 3) := by decide +kernel
theorem dX6_init_39 : decode cX6_init 39 = .ok (.aload_n 0, 1) := by decide +kernel
theorem dX6_init_40 : decode cX6_init 40 = .ok (.bipush 50, 2) := by decide +kernel
theorem dX6_init_42 : decode cX6_init 42 = .ok (.newarray .int, 2) := by decide +kernel
theorem dX6_init_44 : decode cX6_init 44 = .ok (.putfield 22, 3) := by decide +kernel
theorem dX6_init_47 : decode cX6_init 47 = .ok (.aload_n 0, 1) := by decide +kernel
theorem dX6_init_48 : decode cX6_init 48 = .ok (.bipush 6, 2) := by decide +kernel
theorem dX6_init_50 : decode cX6_init 50 = .ok (.newarray .int, 2) := by decide +kernel
theorem dX6_init_52 : decode cX6_init 52 = .ok (.putfield 25, 3) := by decide +kernel
theorem dX6_init_55 : decode cX6_init 55 = .ok (.aload_n 0, 1) := by decide +kernel
theorem dX6_init_56 : decode cX6_init 56 = .ok (.getfield 7, 3) := by decide +kernel
theorem dX6_init_59 : decode cX6_init 59 = .ok (.iconst 1, 1) := by decide +kernel
theorem dX6_init_60 : decode cX6_init 60 = .ok (.iconst 1, 1) := by decide +kernel
theorem dX6_init_61 : decode cX6_init 61 = .ok (.iastore, 1) := by decide +kernel
theorem dX6_init_62 : decode cX6_init 62 = .ok (.aload_n 0, 1) := by decide +kernel
theorem dX6_init_63 : decode cX6_init 63 = .ok (.getfield 7, 3) := by decide +kernel
theorem dX6_init_66 : decode cX6_init 66 = .ok (.iconst 2, 1) := by decide +kernel
theorem dX6_init_67 : decode cX6_init 67 = .ok (.iconst 5, 1) := by decide +kernel
theorem dX6_init_68 : decode cX6_init 68 = .ok (.iastore, 1) := by decide +kernel
theorem dX6_init_69 : decode cX6_init 69 = .ok (.aload_n 0, 1) := by decide +kernel
theorem dX6_init_70 : decode cX6_init 70 = .ok (.getfield 7, 3) := by decide +kernel
theorem dX6_init_73 : decode cX6_init 73 = .ok (.iconst 3, 1) := by decide +kernel
theorem dX6_init_74 : decode cX6_init 74 = .ok (.iconst 1, 1) := by decide +kernel
theorem dX6_init_75 : decode cX6_init 75 = .ok (.iastore, 1) := by decide +kernel
theorem dX6_init_76 : decode cX6_init 76 = .ok (.return_, 1) := by decide +kernel
theorem dX6_thrown_0 : decode cX6_thrown 0 = .ok (.aload_n 0, 1) := by decide +kernel
theorem dX6_thrown_1 : decode cX6_thrown 1 = .ok (.getfield 28, 3) := by decide +kernel
theorem dX6_thrown_4 : decode cX6_thrown 4 = .ok (.ireturn, 1) := by decide +kernel
theorem dX6_fails_0 : decode cX6_fails 0 = .ok (.aload_n 0, 1) := by decide +kernel
theorem dX6_fails_1 : decode cX6_fails 1 = .ok (.iload_n 1, 1) := by decide +kernel
theorem dX6_fails_2 : decode cX6_fails 2 = .ok (.putfield 28, 3) := by decide +kernel
theorem dX6_fails_5 : decode cX6_fails 5 = .ok (.iconst 0, 1) := by decide +kernel
theorem dX6_fails_6 : decode cX6_fails 6 = .ok (.ireturn, 1) := by decide +kernel
theorem dX6_in_0 : decode cX6_in 0 = .ok (.iload_n 0, 1) := by decide +kernel
theorem dX6_in_1 : decode cX6_in 1 = .ok (.iload_n 1, 1) := by decide +kernel
theorem dX6_in_2 : decode cX6_in 2 = .ok (.if_icmp .lt 12, 3) := by decide +kernel
theorem dX6_in_5 : decode cX6_in 5 = .ok (.iload_n 0, 1) := by decide +kernel
theorem dX6_in_6 : decode cX6_in 6 = .ok (.iload_n 2, 1) := by decide +kernel
theorem dX6_in_7 : decode cX6_in 7 = .ok (.if_icmp .gt 7, 3) := by decide +kernel
theorem dX6_in_10 : decode cX6_in 10 = .ok (.iconst 1, 1) := by decide +kernel
theorem dX6_in_11 : decode cX6_in 11 = .ok (.goto 4, 3) := by decide +kernel
theorem dX6_in_14 : decode cX6_in 14 = .ok (.iconst 0, 1) := by decide +kernel
theorem dX6_in_15 : decode cX6_in 15 = .ok (.ireturn, 1) := by decide +kernel
theorem dX6_isWeaver_0 : decode cX6_isWeaver 0 = .ok (.iload_n 0, 1) := by decide +kernel
theorem dX6_isWeaver_1 : decode cX6_isWeaver 1 = .ok (.iconst 0, 1) := by decide +kernel
theorem dX6_isWeaver_2 : decode cX6_isWeaver 2 = .ok (.iconst 5, 1) := by decide +kernel
theorem dX6_isWeaver_3 : decode cX6_isWeaver 3 = .ok (.invokestatic 32, 3) := by decide +kernel
theorem dX6_isWeaver_6 : decode cX6_isWeaver 6 = .ok (.ireturn, 1) := by decide +kernel
theorem dX6_isColour_0 : decode cX6_isColour 0 = .ok (.iload_n 0, 1) := by decide +kernel
theorem dX6_isColour_1 : decode cX6_isColour 1 = .ok (.iconst 0, 1) := by decide +kernel
theorem dX6_isColour_2 : decode cX6_isColour 2 = .ok (.iconst 3, 1) := by decide +kernel
theorem dX6_isColour_3 : decode cX6_isColour 3 = .ok (.invokestatic 32, 3) := by decide +kernel
theorem dX6_isColour_6 : decode cX6_isColour 6 = .ok (.ireturn, 1) := by decide +kernel
theorem dX6_of_0 : decode cX6_of 0 = .ok (.aload_n 0, 1) := by decide +kernel
theorem dX6_of_1 : decode cX6_of 1 = .ok (.bipush 18, 2) := by decide +kernel
theorem dX6_of_3 : decode cX6_of 3 = .ok (.bipush 12, 2) := by decide +kernel
theorem dX6_of_5 : decode cX6_of 5 = .ok (.iload_n 1, 1) := by decide +kernel
theorem dX6_of_6 : decode cX6_of 6 = .ok (.imul, 1) := by decide +kernel
theorem dX6_of_7 : decode cX6_of 7 = .ok (.iadd, 1) := by decide +kernel
theorem dX6_of_8 : decode cX6_of 8 = .ok (.iload_n 2, 1) := by decide +kernel
theorem dX6_of_9 : decode cX6_of 9 = .ok (.iadd, 1) := by decide +kernel
theorem dX6_of_10 : decode cX6_of 10 = .ok (.iaload, 1) := by decide +kernel
theorem dX6_of_11 : decode cX6_of 11 = .ok (.ireturn, 1) := by decide +kernel
theorem dX6_adds_0 : decode cX6_adds 0 = .ok (.aload_n 0, 1) := by decide +kernel
theorem dX6_adds_1 : decode cX6_adds 1 = .ok (.bipush 18, 2) := by decide +kernel
theorem dX6_adds_3 : decode cX6_adds 3 = .ok (.bipush 12, 2) := by decide +kernel
theorem dX6_adds_5 : decode cX6_adds 5 = .ok (.iload_n 1, 1) := by decide +kernel
theorem dX6_adds_6 : decode cX6_adds 6 = .ok (.imul, 1) := by decide +kernel
theorem dX6_adds_7 : decode cX6_adds 7 = .ok (.iadd, 1) := by decide +kernel
theorem dX6_adds_8 : decode cX6_adds 8 = .ok (.iload_n 2, 1) := by decide +kernel
theorem dX6_adds_9 : decode cX6_adds 9 = .ok (.iadd, 1) := by decide +kernel
theorem dX6_adds_10 : decode cX6_adds 10 = .ok (.dup2, 1) := by decide +kernel
theorem dX6_adds_11 : decode cX6_adds 11 = .ok (.iaload, 1) := by decide +kernel
theorem dX6_adds_12 : decode cX6_adds 12 = .ok (.iload_n 3, 1) := by decide +kernel
theorem dX6_adds_13 : decode cX6_adds 13 = .ok (.iadd, 1) := by decide +kernel
theorem dX6_adds_14 : decode cX6_adds 14 = .ok (.iastore, 1) := by decide +kernel
theorem dX6_adds_15 : decode cX6_adds 15 = .ok (.return_, 1) := by decide +kernel
theorem dX6_by_0 : decode cX6_by 0 = .ok (.aload_n 0, 1) := by decide +kernel
theorem dX6_by_1 : decode cX6_by 1 = .ok (.bipush 90, 2) := by decide +kernel
theorem dX6_by_3 : decode cX6_by 3 = .ok (.bipush 12, 2) := by decide +kernel
theorem dX6_by_5 : decode cX6_by 5 = .ok (.iload_n 1, 1) := by decide +kernel
theorem dX6_by_6 : decode cX6_by 6 = .ok (.imul, 1) := by decide +kernel
theorem dX6_by_7 : decode cX6_by 7 = .ok (.iadd, 1) := by decide +kernel
theorem dX6_by_8 : decode cX6_by 8 = .ok (.iload_n 2, 1) := by decide +kernel
theorem dX6_by_9 : decode cX6_by 9 = .ok (.iadd, 1) := by decide +kernel
theorem dX6_by_10 : decode cX6_by 10 = .ok (.iaload, 1) := by decide +kernel
theorem dX6_by_11 : decode cX6_by 11 = .ok (.ireturn, 1) := by decide +kernel
theorem dX6_saves_0 : decode cX6_saves 0 = .ok (.aload_n 0, 1) := by decide +kernel
theorem dX6_saves_1 : decode cX6_saves 1 = .ok (.getfield 36, 3) := by decide +kernel
theorem dX6_saves_4 : decode cX6_saves 4 = .ok (.bipush 6, 2) := by decide +kernel
theorem dX6_saves_6 : decode cX6_saves 6 = .ok (.if_icmp .ne 44, 3) := by decide +kernel
theorem dX6_saves_9 : decode cX6_saves 9 = .ok (.iconst 0, 1) := by decide +kernel
theorem dX6_saves_10 : decode cX6_saves 10 = .ok (.istore_n 1, 1) := by decide +kernel
theorem dX6_saves_11 : decode cX6_saves 11 = .ok (.iload_n 1, 1) := by decide +kernel
theorem dX6_saves_12 : decode cX6_saves 12 = .ok (.sipush 1050, 3) := by decide +kernel
theorem dX6_saves_15 : decode cX6_saves 15 = .ok (.if_icmp .ge 25, 3) := by decide +kernel
theorem dX6_saves_18 : decode cX6_saves 18 = .ok (.aload_n 0, 1) := by decide +kernel
theorem dX6_saves_19 : decode cX6_saves 19 = .ok (.getfield 16, 3) := by decide +kernel
theorem dX6_saves_22 : decode cX6_saves 22 = .ok (.iload_n 1, 1) := by decide +kernel
theorem dX6_saves_23 : decode cX6_saves 23 = .ok (.aload_n 0, 1) := by decide +kernel
theorem dX6_saves_24 : decode cX6_saves 24 = .ok (.getfield 16, 3) := by decide +kernel
theorem dX6_saves_27 : decode cX6_saves 27 = .ok (.iload_n 1, 1) := by decide +kernel
theorem dX6_saves_28 : decode cX6_saves 28 = .ok (.sipush 210, 3) := by decide +kernel
theorem dX6_saves_31 : decode cX6_saves 31 = .ok (.iadd, 1) := by decide +kernel
theorem dX6_saves_32 : decode cX6_saves 32 = .ok (.iaload, 1) := by decide +kernel
theorem dX6_saves_33 : decode cX6_saves 33 = .ok (.iastore, 1) := by decide +kernel
theorem dX6_saves_34 : decode cX6_saves 34 = .ok (.iinc 1 1, 3) := by decide +kernel
theorem dX6_saves_37 : decode cX6_saves 37 = .ok (.goto (-26), 3) := by decide +kernel
theorem dX6_saves_40 : decode cX6_saves 40 = .ok (.aload_n 0, 1) := by decide +kernel
theorem dX6_saves_41 : decode cX6_saves 41 = .ok (.dup, 1) := by decide +kernel
theorem dX6_saves_42 : decode cX6_saves 42 = .ok (.getfield 36, 3) := by decide +kernel
theorem dX6_saves_45 : decode cX6_saves 45 = .ok (.iconst 1, 1) := by decide +kernel
theorem dX6_saves_46 : decode cX6_saves 46 = .ok (.isub, 1) := by decide +kernel
theorem dX6_saves_47 : decode cX6_saves 47 = .ok (.putfield 36, 3) := by decide +kernel
theorem dX6_saves_50 : decode cX6_saves 50 = .ok (.iconst 0, 1) := by decide +kernel
theorem dX6_saves_51 : decode cX6_saves 51 = .ok (.istore_n 1, 1) := by decide +kernel
theorem dX6_saves_52 : decode cX6_saves 52 = .ok (.iload_n 1, 1) := by decide +kernel
theorem dX6_saves_53 : decode cX6_saves 53 = .ok (.sipush 210, 3) := by decide +kernel
theorem dX6_saves_56 : decode cX6_saves 56 = .ok (.if_icmp .ge 30, 3) := by decide +kernel
theorem dX6_saves_59 : decode cX6_saves 59 = .ok (.aload_n 0, 1) := by decide +kernel
theorem dX6_saves_60 : decode cX6_saves 60 = .ok (.getfield 16, 3) := by decide +kernel
theorem dX6_saves_63 : decode cX6_saves 63 = .ok (.sipush 210, 3) := by decide +kernel
theorem dX6_saves_66 : decode cX6_saves 66 = .ok (.aload_n 0, 1) := by decide +kernel
theorem dX6_saves_67 : decode cX6_saves 67 = .ok (.getfield 36, 3) := by decide +kernel
theorem dX6_saves_70 : decode cX6_saves 70 = .ok (.imul, 1) := by decide +kernel
theorem dX6_saves_71 : decode cX6_saves 71 = .ok (.iload_n 1, 1) := by decide +kernel
theorem dX6_saves_72 : decode cX6_saves 72 = .ok (.iadd, 1) := by decide +kernel
theorem dX6_saves_73 : decode cX6_saves 73 = .ok (.aload_n 0, 1) := by decide +kernel
theorem dX6_saves_74 : decode cX6_saves 74 = .ok (.getfield 7, 3) := by decide +kernel
theorem dX6_saves_77 : decode cX6_saves 77 = .ok (.iload_n 1, 1) := by decide +kernel
theorem dX6_saves_78 : decode cX6_saves 78 = .ok (.iaload, 1) := by decide +kernel
theorem dX6_saves_79 : decode cX6_saves 79 = .ok (.iastore, 1) := by decide +kernel
theorem dX6_saves_80 : decode cX6_saves 80 = .ok (.iinc 1 1, 3) := by decide +kernel
theorem dX6_saves_83 : decode cX6_saves 83 = .ok (.goto (-31), 3) := by decide +kernel
theorem dX6_saves_86 : decode cX6_saves 86 = .ok (.aload_n 0, 1) := by decide +kernel
theorem dX6_saves_87 : decode cX6_saves 87 = .ok (.dup, 1) := by decide +kernel
theorem dX6_saves_88 : decode cX6_saves 88 = .ok (.getfield 36, 3) := by decide +kernel
theorem dX6_saves_91 : decode cX6_saves 91 = .ok (.iconst 1, 1) := by decide +kernel
theorem dX6_saves_92 : decode cX6_saves 92 = .ok (.iadd, 1) := by decide +kernel
theorem dX6_saves_93 : decode cX6_saves 93 = .ok (.putfield 36, 3) := by decide +kernel
theorem dX6_saves_96 : decode cX6_saves 96 = .ok (.return_, 1) := by decide +kernel
theorem dX6_undo_0 : decode cX6_undo 0 = .ok (.aload_n 0, 1) := by decide +kernel
theorem dX6_undo_1 : decode cX6_undo 1 = .ok (.iconst 0, 1) := by decide +kernel
theorem dX6_undo_2 : decode cX6_undo 2 = .ok (.putfield 28, 3) := by decide +kernel
theorem dX6_undo_5 : decode cX6_undo 5 = .ok (.aload_n 0, 1) := by decide +kernel
theorem dX6_undo_6 : decode cX6_undo 6 = .ok (.getfield 36, 3) := by decide +kernel
theorem dX6_undo_9 : decode cX6_undo 9 = .ok (.ifCond .ne 9, 3) := by decide +kernel
theorem dX6_undo_12 : decode cX6_undo 12 = .ok (.aload_n 0, 1) := by decide +kernel
theorem dX6_undo_13 : decode cX6_undo 13 = .ok (.iconst 1, 1) := by decide +kernel
theorem dX6_undo_14 : decode cX6_undo 14 = .ok (.invokevirtual 39, 3) := by decide +kernel
theorem dX6_undo_17 : decode cX6_undo 17 = .ok (.ireturn, 1) := by decide +kernel
theorem dX6_undo_18 : decode cX6_undo 18 = .ok (.aload_n 0, 1) := by decide +kernel
theorem dX6_undo_19 : decode cX6_undo 19 = .ok (.dup, 1) := by decide +kernel
theorem dX6_undo_20 : decode cX6_undo 20 = .ok (.getfield 36, 3) := by decide +kernel
theorem dX6_undo_23 : decode cX6_undo 23 = .ok (.iconst 1, 1) := by decide +kernel
theorem dX6_undo_24 : decode cX6_undo 24 = .ok (.isub, 1) := by decide +kernel
theorem dX6_undo_25 : decode cX6_undo 25 = .ok (.putfield 36, 3) := by decide +kernel
theorem dX6_undo_28 : decode cX6_undo 28 = .ok (.iconst 0, 1) := by decide +kernel
theorem dX6_undo_29 : decode cX6_undo 29 = .ok (.istore_n 1, 1) := by decide +kernel
theorem dX6_undo_30 : decode cX6_undo 30 = .ok (.iload_n 1, 1) := by decide +kernel
theorem dX6_undo_31 : decode cX6_undo 31 = .ok (.sipush 210, 3) := by decide +kernel
theorem dX6_undo_34 : decode cX6_undo 34 = .ok (.if_icmp .ge 30, 3) := by decide +kernel
theorem dX6_undo_37 : decode cX6_undo 37 = .ok (.aload_n 0, 1) := by decide +kernel
theorem dX6_undo_38 : decode cX6_undo 38 = .ok (.getfield 7, 3) := by decide +kernel
theorem dX6_undo_41 : decode cX6_undo 41 = .ok (.iload_n 1, 1) := by decide +kernel
theorem dX6_undo_42 : decode cX6_undo 42 = .ok (.aload_n 0, 1) := by decide +kernel
theorem dX6_undo_43 : decode cX6_undo 43 = .ok (.getfield 16, 3) := by decide +kernel
theorem dX6_undo_46 : decode cX6_undo 46 = .ok (.sipush 210, 3) := by decide +kernel
theorem dX6_undo_49 : decode cX6_undo 49 = .ok (.aload_n 0, 1) := by decide +kernel
theorem dX6_undo_50 : decode cX6_undo 50 = .ok (.getfield 36, 3) := by decide +kernel
theorem dX6_undo_53 : decode cX6_undo 53 = .ok (.imul, 1) := by decide +kernel
theorem dX6_undo_54 : decode cX6_undo 54 = .ok (.iload_n 1, 1) := by decide +kernel
theorem dX6_undo_55 : decode cX6_undo 55 = .ok (.iadd, 1) := by decide +kernel
theorem dX6_undo_56 : decode cX6_undo 56 = .ok (.iaload, 1) := by decide +kernel
theorem dX6_undo_57 : decode cX6_undo 57 = .ok (.iastore, 1) := by decide +kernel
theorem dX6_undo_58 : decode cX6_undo 58 = .ok (.iinc 1 1, 3) := by decide +kernel
theorem dX6_undo_61 : decode cX6_undo 61 = .ok (.goto (-31), 3) := by decide +kernel
theorem dX6_undo_64 : decode cX6_undo 64 = .ok (.aload_n 0, 1) := by decide +kernel
theorem dX6_undo_65 : decode cX6_undo 65 = .ok (.getfield 36, 3) := by decide +kernel
theorem dX6_undo_68 : decode cX6_undo 68 = .ok (.ireturn, 1) := by decide +kernel
theorem dX6_tries_0 : decode cX6_tries 0 = .ok (.iconst 0, 1) := by decide +kernel
theorem dX6_tries_1 : decode cX6_tries 1 = .ok (.istore_n 1, 1) := by decide +kernel
theorem dX6_tries_2 : decode cX6_tries 2 = .ok (.iload_n 1, 1) := by decide +kernel
theorem dX6_tries_3 : decode cX6_tries 3 = .ok (.sipush 210, 3) := by decide +kernel
theorem dX6_tries_6 : decode cX6_tries 6 = .ok (.if_icmp .ge 21, 3) := by decide +kernel
theorem dX6_tries_9 : decode cX6_tries 9 = .ok (.aload_n 0, 1) := by decide +kernel
theorem dX6_tries_10 : decode cX6_tries 10 = .ok (.getfield 13, 3) := by decide +kernel
theorem dX6_tries_13 : decode cX6_tries 13 = .ok (.iload_n 1, 1) := by decide +kernel
theorem dX6_tries_14 : decode cX6_tries 14 = .ok (.aload_n 0, 1) := by decide +kernel
theorem dX6_tries_15 : decode cX6_tries 15 = .ok (.getfield 7, 3) := by decide +kernel
theorem dX6_tries_18 : decode cX6_tries 18 = .ok (.iload_n 1, 1) := by decide +kernel
theorem dX6_tries_19 : decode cX6_tries 19 = .ok (.iaload, 1) := by decide +kernel
theorem dX6_tries_20 : decode cX6_tries 20 = .ok (.iastore, 1) := by decide +kernel
theorem dX6_tries_21 : decode cX6_tries 21 = .ok (.iinc 1 1, 3) := by decide +kernel
theorem dX6_tries_24 : decode cX6_tries 24 = .ok (.goto (-22), 3) := by decide +kernel
theorem dX6_tries_27 : decode cX6_tries 27 = .ok (.return_, 1) := by decide +kernel
theorem dX6_grams_0 : decode cX6_grams 0 = .ok (.aload_n 0, 1) := by decide +kernel
theorem dX6_grams_1 : decode cX6_grams 1 = .ok (.iload_n 1, 1) := by decide +kernel
theorem dX6_grams_2 : decode cX6_grams 2 = .ok (.iconst 2, 1) := by decide +kernel
theorem dX6_grams_3 : decode cX6_grams 3 = .ok (.invokestatic 43, 3) := by decide +kernel
theorem dX6_grams_6 : decode cX6_grams 6 = .ok (.bipush 9, 2) := by decide +kernel
theorem dX6_grams_8 : decode cX6_grams 8 = .ok (.iadd, 1) := by decide +kernel
theorem dX6_grams_9 : decode cX6_grams 9 = .ok (.bipush 10, 2) := by decide +kernel
theorem dX6_grams_11 : decode cX6_grams 11 = .ok (.idiv, 1) := by decide +kernel
theorem dX6_grams_12 : decode cX6_grams 12 = .ok (.ireturn, 1) := by decide +kernel
theorem dX6_good_0 : decode cX6_good 0 = .ok (.iconst 0, 1) := by decide +kernel
theorem dX6_good_1 : decode cX6_good 1 = .ok (.istore_n 2, 1) := by decide +kernel
theorem dX6_good_2 : decode cX6_good 2 = .ok (.iconst 0, 1) := by decide +kernel
theorem dX6_good_3 : decode cX6_good 3 = .ok (.istore_n 3, 1) := by decide +kernel
theorem dX6_good_4 : decode cX6_good 4 = .ok (.iload_n 3, 1) := by decide +kernel
theorem dX6_good_5 : decode cX6_good 5 = .ok (.bipush 6, 2) := by decide +kernel
theorem dX6_good_7 : decode cX6_good 7 = .ok (.if_icmp .ge 21, 3) := by decide +kernel
theorem dX6_good_10 : decode cX6_good 10 = .ok (.iload_n 2, 1) := by decide +kernel
theorem dX6_good_11 : decode cX6_good 11 = .ok (.aload_n 0, 1) := by decide +kernel
theorem dX6_good_12 : decode cX6_good 12 = .ok (.iload_n 1, 1) := by decide +kernel
theorem dX6_good_13 : decode cX6_good 13 = .ok (.bipush 6, 2) := by decide +kernel
theorem dX6_good_15 : decode cX6_good 15 = .ok (.iload_n 3, 1) := by decide +kernel
theorem dX6_good_16 : decode cX6_good 16 = .ok (.iadd, 1) := by decide +kernel
theorem dX6_good_17 : decode cX6_good 17 = .ok (.invokestatic 43, 3) := by decide +kernel
theorem dX6_good_20 : decode cX6_good 20 = .ok (.iadd, 1) := by decide +kernel
theorem dX6_good_21 : decode cX6_good 21 = .ok (.istore_n 2, 1) := by decide +kernel
theorem dX6_good_22 : decode cX6_good 22 = .ok (.iinc 3 1, 3) := by decide +kernel
theorem dX6_good_25 : decode cX6_good 25 = .ok (.goto (-21), 3) := by decide +kernel
theorem dX6_good_28 : decode cX6_good 28 = .ok (.iload_n 2, 1) := by decide +kernel
theorem dX6_good_29 : decode cX6_good 29 = .ok (.ireturn, 1) := by decide +kernel
theorem dX6_placeOf_0 : decode cX6_placeOf 0 = .ok (.iconst 0, 1) := by decide +kernel
theorem dX6_placeOf_1 : decode cX6_placeOf 1 = .ok (.istore_n 2, 1) := by decide +kernel
theorem dX6_placeOf_2 : decode cX6_placeOf 2 = .ok (.iload_n 2, 1) := by decide +kernel
theorem dX6_placeOf_3 : decode cX6_placeOf 3 = .ok (.aload_n 0, 1) := by decide +kernel
theorem dX6_placeOf_4 : decode cX6_placeOf 4 = .ok (.iconst 5, 1) := by decide +kernel
theorem dX6_placeOf_5 : decode cX6_placeOf 5 = .ok (.iaload, 1) := by decide +kernel
theorem dX6_placeOf_6 : decode cX6_placeOf 6 = .ok (.if_icmp .ge 21, 3) := by decide +kernel
theorem dX6_placeOf_9 : decode cX6_placeOf 9 = .ok (.aload_n 0, 1) := by decide +kernel
theorem dX6_placeOf_10 : decode cX6_placeOf 10 = .ok (.iload_n 2, 1) := by decide +kernel
theorem dX6_placeOf_11 : decode cX6_placeOf 11 = .ok (.iconst 0, 1) := by decide +kernel
theorem dX6_placeOf_12 : decode cX6_placeOf 12 = .ok (.invokestatic 43, 3) := by decide +kernel
theorem dX6_placeOf_15 : decode cX6_placeOf 15 = .ok (.iload_n 1, 1) := by decide +kernel
theorem dX6_placeOf_16 : decode cX6_placeOf 16 = .ok (.if_icmp .ne 5, 3) := by decide +kernel
theorem dX6_placeOf_19 : decode cX6_placeOf 19 = .ok (.iload_n 2, 1) := by decide +kernel
theorem dX6_placeOf_20 : decode cX6_placeOf 20 = .ok (.ireturn, 1) := by decide +kernel
theorem dX6_placeOf_21 : decode cX6_placeOf 21 = .ok (.iinc 2 1, 3) := by decide +kernel
theorem dX6_placeOf_24 : decode cX6_placeOf 24 = .ok (.goto (-22), 3) := by decide +kernel
theorem dX6_placeOf_27 : decode cX6_placeOf 27 = .ok (.iconst (-1), 1) := by decide +kernel
theorem dX6_placeOf_28 : decode cX6_placeOf 28 = .ok (.ireturn, 1) := by decide +kernel
theorem dX6_goes_0 : decode cX6_goes 0 = .ok (.aload_n 0, 1) := by decide +kernel
theorem dX6_goes_1 : decode cX6_goes 1 = .ok (.iconst 5, 1) := by decide +kernel
theorem dX6_goes_2 : decode cX6_goes 2 = .ok (.dup2, 1) := by decide +kernel
theorem dX6_goes_3 : decode cX6_goes 3 = .ok (.iaload, 1) := by decide +kernel
theorem dX6_goes_4 : decode cX6_goes 4 = .ok (.iconst 1, 1) := by decide +kernel
theorem dX6_goes_5 : decode cX6_goes 5 = .ok (.isub, 1) := by decide +kernel
theorem dX6_goes_6 : decode cX6_goes 6 = .ok (.iastore, 1) := by decide +kernel
theorem dX6_goes_7 : decode cX6_goes 7 = .ok (.bipush 90, 2) := by decide +kernel
theorem dX6_goes_9 : decode cX6_goes 9 = .ok (.bipush 12, 2) := by decide +kernel
theorem dX6_goes_11 : decode cX6_goes 11 = .ok (.iload_n 1, 1) := by decide +kernel
theorem dX6_goes_12 : decode cX6_goes 12 = .ok (.imul, 1) := by decide +kernel
theorem dX6_goes_13 : decode cX6_goes 13 = .ok (.iadd, 1) := by decide +kernel
theorem dX6_goes_14 : decode cX6_goes 14 = .ok (.istore_n 2, 1) := by decide +kernel
theorem dX6_goes_15 : decode cX6_goes 15 = .ok (.iload_n 2, 1) := by decide +kernel
theorem dX6_goes_16 : decode cX6_goes 16 = .ok (.bipush 90, 2) := by decide +kernel
theorem dX6_goes_18 : decode cX6_goes 18 = .ok (.bipush 12, 2) := by decide +kernel
theorem dX6_goes_20 : decode cX6_goes 20 = .ok (.aload_n 0, 1) := by decide +kernel
theorem dX6_goes_21 : decode cX6_goes 21 = .ok (.iconst 5, 1) := by decide +kernel
theorem dX6_goes_22 : decode cX6_goes 22 = .ok (.iaload, 1) := by decide +kernel
theorem dX6_goes_23 : decode cX6_goes 23 = .ok (.imul, 1) := by decide +kernel
theorem dX6_goes_24 : decode cX6_goes 24 = .ok (.iadd, 1) := by decide +kernel
theorem dX6_goes_25 : decode cX6_goes 25 = .ok (.if_icmp .ge 18, 3) := by decide +kernel
theorem dX6_goes_28 : decode cX6_goes 28 = .ok (.aload_n 0, 1) := by decide +kernel
theorem dX6_goes_29 : decode cX6_goes 29 = .ok (.iload_n 2, 1) := by decide +kernel
theorem dX6_goes_30 : decode cX6_goes 30 = .ok (.aload_n 0, 1) := by decide +kernel
theorem dX6_goes_31 : decode cX6_goes 31 = .ok (.iload_n 2, 1) := by decide +kernel
theorem dX6_goes_32 : decode cX6_goes 32 = .ok (.bipush 12, 2) := by decide +kernel
theorem dX6_goes_34 : decode cX6_goes 34 = .ok (.iadd, 1) := by decide +kernel
theorem dX6_goes_35 : decode cX6_goes 35 = .ok (.iaload, 1) := by decide +kernel
theorem dX6_goes_36 : decode cX6_goes 36 = .ok (.iastore, 1) := by decide +kernel
theorem dX6_goes_37 : decode cX6_goes 37 = .ok (.iinc 2 1, 3) := by decide +kernel
theorem dX6_goes_40 : decode cX6_goes 40 = .ok (.goto (-25), 3) := by decide +kernel
theorem dX6_goes_43 : decode cX6_goes 43 = .ok (.return_, 1) := by decide +kernel
theorem dX6_worth_0 : decode cX6_worth 0 = .ok (.aload_n 0, 1) := by decide +kernel
theorem dX6_worth_1 : decode cX6_worth 1 = .ok (.iconst 0, 1) := by decide +kernel
theorem dX6_worth_2 : decode cX6_worth 2 = .ok (.iaload, 1) := by decide +kernel
theorem dX6_worth_3 : decode cX6_worth 3 = .ok (.ifCond .ne 7, 3) := by decide +kernel
theorem dX6_worth_6 : decode cX6_worth 6 = .ok (.iconst 0, 1) := by decide +kernel
theorem dX6_worth_7 : decode cX6_worth 7 = .ok (.goto 20, 3) := by decide +kernel
theorem dX6_worth_10 : decode cX6_worth 10 = .ok (.aload_n 0, 1) := by decide +kernel
theorem dX6_worth_11 : decode cX6_worth 11 = .ok (.iload_n 1, 1) := by decide +kernel
theorem dX6_worth_12 : decode cX6_worth 12 = .ok (.aload_n 0, 1) := by decide +kernel
theorem dX6_worth_13 : decode cX6_worth 13 = .ok (.iconst 0, 1) := by decide +kernel
theorem dX6_worth_14 : decode cX6_worth 14 = .ok (.iaload, 1) := by decide +kernel
theorem dX6_worth_15 : decode cX6_worth 15 = .ok (.iconst 1, 1) := by decide +kernel
theorem dX6_worth_16 : decode cX6_worth 16 = .ok (.if_icmp .ne 7, 3) := by decide +kernel
theorem dX6_worth_19 : decode cX6_worth 19 = .ok (.iconst 2, 1) := by decide +kernel
theorem dX6_worth_20 : decode cX6_worth 20 = .ok (.goto 4, 3) := by decide +kernel
theorem dX6_worth_23 : decode cX6_worth 23 = .ok (.iconst 4, 1) := by decide +kernel
theorem dX6_worth_24 : decode cX6_worth 24 = .ok (.invokestatic 43, 3) := by decide +kernel
theorem dX6_worth_27 : decode cX6_worth 27 = .ok (.ireturn, 1) := by decide +kernel
theorem dX6_chosen_0 : decode cX6_chosen 0 = .ok (.iconst (-1), 1) := by decide +kernel
theorem dX6_chosen_1 : decode cX6_chosen 1 = .ok (.istore_n 2, 1) := by decide +kernel
theorem dX6_chosen_2 : decode cX6_chosen 2 = .ok (.iconst 0, 1) := by decide +kernel
theorem dX6_chosen_3 : decode cX6_chosen 3 = .ok (.istore_n 3, 1) := by decide +kernel
theorem dX6_chosen_4 : decode cX6_chosen 4 = .ok (.iload_n 3, 1) := by decide +kernel
theorem dX6_chosen_5 : decode cX6_chosen 5 = .ok (.aload_n 0, 1) := by decide +kernel
theorem dX6_chosen_6 : decode cX6_chosen 6 = .ok (.iconst 5, 1) := by decide +kernel
theorem dX6_chosen_7 : decode cX6_chosen 7 = .ok (.iaload, 1) := by decide +kernel
theorem dX6_chosen_8 : decode cX6_chosen 8 = .ok (.if_icmp .ge 60, 3) := by decide +kernel
theorem dX6_chosen_11 : decode cX6_chosen 11 = .ok (.aload_n 0, 1) := by decide +kernel
theorem dX6_chosen_12 : decode cX6_chosen 12 = .ok (.iload_n 3, 1) := by decide +kernel
theorem dX6_chosen_13 : decode cX6_chosen 13 = .ok (.iconst 2, 1) := by decide +kernel
theorem dX6_chosen_14 : decode cX6_chosen 14 = .ok (.invokestatic 43, 3) := by decide +kernel
theorem dX6_chosen_17 : decode cX6_chosen 17 = .ok (.aload_n 0, 1) := by decide +kernel
theorem dX6_chosen_18 : decode cX6_chosen 18 = .ok (.iload_n 1, 1) := by decide +kernel
theorem dX6_chosen_19 : decode cX6_chosen 19 = .ok (.iconst 0, 1) := by decide +kernel
theorem dX6_chosen_20 : decode cX6_chosen 20 = .ok (.invokestatic 47, 3) := by decide +kernel
theorem dX6_chosen_23 : decode cX6_chosen 23 = .ok (.if_icmp .gt 7, 3) := by decide +kernel
theorem dX6_chosen_26 : decode cX6_chosen 26 = .ok (.iconst 1, 1) := by decide +kernel
theorem dX6_chosen_27 : decode cX6_chosen 27 = .ok (.goto 4, 3) := by decide +kernel
theorem dX6_chosen_30 : decode cX6_chosen 30 = .ok (.iconst 0, 1) := by decide +kernel
theorem dX6_chosen_31 : decode cX6_chosen 31 = .ok (.istore 4, 2) := by decide +kernel
theorem dX6_chosen_33 : decode cX6_chosen 33 = .ok (.iload 4, 2) := by decide +kernel
theorem dX6_chosen_35 : decode cX6_chosen 35 = .ok (.ifCond .eq 25, 3) := by decide +kernel
theorem dX6_chosen_38 : decode cX6_chosen 38 = .ok (.iload_n 2, 1) := by decide +kernel
theorem dX6_chosen_39 : decode cX6_chosen 39 = .ok (.iconst (-1), 1) := by decide +kernel
theorem dX6_chosen_40 : decode cX6_chosen 40 = .ok (.if_icmp .eq 16, 3) := by decide +kernel
theorem dX6_chosen_43 : decode cX6_chosen 43 = .ok (.aload_n 0, 1) := by decide +kernel
theorem dX6_chosen_44 : decode cX6_chosen 44 = .ok (.iload_n 3, 1) := by decide +kernel
theorem dX6_chosen_45 : decode cX6_chosen 45 = .ok (.invokestatic 50, 3) := by decide +kernel
theorem dX6_chosen_48 : decode cX6_chosen 48 = .ok (.aload_n 0, 1) := by decide +kernel
theorem dX6_chosen_49 : decode cX6_chosen 49 = .ok (.iload_n 2, 1) := by decide +kernel
theorem dX6_chosen_50 : decode cX6_chosen 50 = .ok (.invokestatic 50, 3) := by decide +kernel
theorem dX6_chosen_53 : decode cX6_chosen 53 = .ok (.if_icmp .le 7, 3) := by decide +kernel
theorem dX6_chosen_56 : decode cX6_chosen 56 = .ok (.iload_n 3, 1) := by decide +kernel
theorem dX6_chosen_57 : decode cX6_chosen 57 = .ok (.goto 4, 3) := by decide +kernel
theorem dX6_chosen_60 : decode cX6_chosen 60 = .ok (.iload_n 2, 1) := by decide +kernel
theorem dX6_chosen_61 : decode cX6_chosen 61 = .ok (.istore_n 2, 1) := by decide +kernel
theorem dX6_chosen_62 : decode cX6_chosen 62 = .ok (.iinc 3 1, 3) := by decide +kernel
theorem dX6_chosen_65 : decode cX6_chosen 65 = .ok (.goto (-61), 3) := by decide +kernel
theorem dX6_chosen_68 : decode cX6_chosen 68 = .ok (.iload_n 2, 1) := by decide +kernel
theorem dX6_chosen_69 : decode cX6_chosen 69 = .ok (.ireturn, 1) := by decide +kernel
theorem dX6_late_0 : decode cX6_late 0 = .ok (.aload_n 0, 1) := by decide +kernel
theorem dX6_late_1 : decode cX6_late 1 = .ok (.iconst 4, 1) := by decide +kernel
theorem dX6_late_2 : decode cX6_late 2 = .ok (.iaload, 1) := by decide +kernel
theorem dX6_late_3 : decode cX6_late 3 = .ok (.aload_n 0, 1) := by decide +kernel
theorem dX6_late_4 : decode cX6_late 4 = .ok (.iload_n 1, 1) := by decide +kernel
theorem dX6_late_5 : decode cX6_late 5 = .ok (.iconst 5, 1) := by decide +kernel
theorem dX6_late_6 : decode cX6_late 6 = .ok (.invokestatic 43, 3) := by decide +kernel
theorem dX6_late_9 : decode cX6_late 9 = .ok (.if_icmp .le 16, 3) := by decide +kernel
theorem dX6_late_12 : decode cX6_late 12 = .ok (.aload_n 0, 1) := by decide +kernel
theorem dX6_late_13 : decode cX6_late 13 = .ok (.iconst 4, 1) := by decide +kernel
theorem dX6_late_14 : decode cX6_late 14 = .ok (.iaload, 1) := by decide +kernel
theorem dX6_late_15 : decode cX6_late 15 = .ok (.aload_n 0, 1) := by decide +kernel
theorem dX6_late_16 : decode cX6_late 16 = .ok (.iload_n 1, 1) := by decide +kernel
theorem dX6_late_17 : decode cX6_late 17 = .ok (.iconst 5, 1) := by decide +kernel
theorem dX6_late_18 : decode cX6_late 18 = .ok (.invokestatic 43, 3) := by decide +kernel
theorem dX6_late_21 : decode cX6_late 21 = .ok (.isub, 1) := by decide +kernel
theorem dX6_late_22 : decode cX6_late 22 = .ok (.goto 4, 3) := by decide +kernel
theorem dX6_late_25 : decode cX6_late 25 = .ok (.iconst 0, 1) := by decide +kernel
theorem dX6_late_26 : decode cX6_late 26 = .ok (.ireturn, 1) := by decide +kernel
theorem dX6_whole_0 : decode cX6_whole 0 = .ok (.aload_n 0, 1) := by decide +kernel
theorem dX6_whole_1 : decode cX6_whole 1 = .ok (.iload_n 1, 1) := by decide +kernel
theorem dX6_whole_2 : decode cX6_whole 2 = .ok (.iconst 4, 1) := by decide +kernel
theorem dX6_whole_3 : decode cX6_whole 3 = .ok (.invokestatic 43, 3) := by decide +kernel
theorem dX6_whole_6 : decode cX6_whole 6 = .ok (.i2l, 1) := by decide +kernel
theorem dX6_whole_7 : decode cX6_whole 7 = .ok (.iload_n 2, 1) := by decide +kernel
theorem dX6_whole_8 : decode cX6_whole 8 = .ok (.i2l, 1) := by decide +kernel
theorem dX6_whole_9 : decode cX6_whole 9 = .ok (.lmul, 1) := by decide +kernel
theorem dX6_whole_10 : decode cX6_whole 10 = .ok (.lstore_n 3, 1) := by decide +kernel
theorem dX6_whole_11 : decode cX6_whole 11 = .ok (.lload_n 3, 1) := by decide +kernel
theorem dX6_whole_12 : decode cX6_whole 12 = .ok (.aload_n 0, 1) := by decide +kernel
theorem dX6_whole_13 : decode cX6_whole 13 = .ok (.iload_n 1, 1) := by decide +kernel
theorem dX6_whole_14 : decode cX6_whole 14 = .ok (.invokestatic 54, 3) := by decide +kernel
theorem dX6_whole_17 : decode cX6_whole 17 = .ok (.i2l, 1) := by decide +kernel
theorem dX6_whole_18 : decode cX6_whole 18 = .ok (.lmul, 1) := by decide +kernel
theorem dX6_whole_19 : decode cX6_whole 19 = .ok (.aload_n 0, 1) := by decide +kernel
theorem dX6_whole_20 : decode cX6_whole 20 = .ok (.iconst 2, 1) := by decide +kernel
theorem dX6_whole_21 : decode cX6_whole 21 = .ok (.iaload, 1) := by decide +kernel
theorem dX6_whole_22 : decode cX6_whole 22 = .ok (.i2l, 1) := by decide +kernel
theorem dX6_whole_23 : decode cX6_whole 23 = .ok (.lmul, 1) := by decide +kernel
theorem dX6_whole_24 : decode cX6_whole 24 = .ok (.ldc2_w 57, 3) := by decide +kernel
theorem dX6_whole_27 : decode cX6_whole 27 = .ok (.ldiv, 1) := by decide +kernel
theorem dX6_whole_28 : decode cX6_whole 28 = .ok (.lstore 5, 2) := by decide +kernel
theorem dX6_whole_30 : decode cX6_whole 30 = .ok (.lload 5, 2) := by decide +kernel
theorem dX6_whole_32 : decode cX6_whole 32 = .ok (.lload_n 3, 1) := by decide +kernel
theorem dX6_whole_33 : decode cX6_whole 33 = .ok (.lcmp, 1) := by decide +kernel
theorem dX6_whole_34 : decode cX6_whole 34 = .ok (.ifCond .le 7, 3) := by decide +kernel
theorem dX6_whole_37 : decode cX6_whole 37 = .ok (.iconst 0, 1) := by decide +kernel
theorem dX6_whole_38 : decode cX6_whole 38 = .ok (.goto 8, 3) := by decide +kernel
theorem dX6_whole_41 : decode cX6_whole 41 = .ok (.lload_n 3, 1) := by decide +kernel
theorem dX6_whole_42 : decode cX6_whole 42 = .ok (.lload 5, 2) := by decide +kernel
theorem dX6_whole_44 : decode cX6_whole 44 = .ok (.lsub, 1) := by decide +kernel
theorem dX6_whole_45 : decode cX6_whole 45 = .ok (.l2i, 1) := by decide +kernel
theorem dX6_whole_46 : decode cX6_whole 46 = .ok (.ireturn, 1) := by decide +kernel
theorem dX6_shares_0 : decode cX6_shares 0 = .ok (.iload_n 3, 1) := by decide +kernel
theorem dX6_shares_1 : decode cX6_shares 1 = .ok (.istore 5, 2) := by decide +kernel
theorem dX6_shares_3 : decode cX6_shares 3 = .ok (.iconst 0, 1) := by decide +kernel
theorem dX6_shares_4 : decode cX6_shares 4 = .ok (.istore 6, 2) := by decide +kernel
theorem dX6_shares_6 : decode cX6_shares 6 = .ok (.iconst 0, 1) := by decide +kernel
theorem dX6_shares_7 : decode cX6_shares 7 = .ok (.istore 7, 2) := by decide +kernel
theorem dX6_shares_9 : decode cX6_shares 9 = .ok (.iload 7, 2) := by decide +kernel
theorem dX6_shares_11 : decode cX6_shares 11 = .ok (.bipush 6, 2) := by decide +kernel
theorem dX6_shares_13 : decode cX6_shares 13 = .ok (.if_icmp .ge 84, 3) := by decide +kernel
theorem dX6_shares_16 : decode cX6_shares 16 = .ok (.aload_n 0, 1) := by decide +kernel
theorem dX6_shares_17 : decode cX6_shares 17 = .ok (.getfield 25, 3) := by decide +kernel
theorem dX6_shares_20 : decode cX6_shares 20 = .ok (.iload 7, 2) := by decide +kernel
theorem dX6_shares_22 : decode cX6_shares 22 = .ok (.iload 4, 2) := by decide +kernel
theorem dX6_shares_24 : decode cX6_shares 24 = .ok (.ifCond .ne 7, 3) := by decide +kernel
theorem dX6_shares_27 : decode cX6_shares 27 = .ok (.iconst 0, 1) := by decide +kernel
theorem dX6_shares_28 : decode cX6_shares 28 = .ok (.goto 18, 3) := by decide +kernel
theorem dX6_shares_31 : decode cX6_shares 31 = .ok (.iload_n 3, 1) := by decide +kernel
theorem dX6_shares_32 : decode cX6_shares 32 = .ok (.aload_n 1, 1) := by decide +kernel
theorem dX6_shares_33 : decode cX6_shares 33 = .ok (.iload_n 2, 1) := by decide +kernel
theorem dX6_shares_34 : decode cX6_shares 34 = .ok (.bipush 6, 2) := by decide +kernel
theorem dX6_shares_36 : decode cX6_shares 36 = .ok (.iload 7, 2) := by decide +kernel
theorem dX6_shares_38 : decode cX6_shares 38 = .ok (.iadd, 1) := by decide +kernel
theorem dX6_shares_39 : decode cX6_shares 39 = .ok (.invokestatic 43, 3) := by decide +kernel
theorem dX6_shares_42 : decode cX6_shares 42 = .ok (.imul, 1) := by decide +kernel
theorem dX6_shares_43 : decode cX6_shares 43 = .ok (.iload 4, 2) := by decide +kernel
theorem dX6_shares_45 : decode cX6_shares 45 = .ok (.idiv, 1) := by decide +kernel
theorem dX6_shares_46 : decode cX6_shares 46 = .ok (.iastore, 1) := by decide +kernel
theorem dX6_shares_47 : decode cX6_shares 47 = .ok (.iload 5, 2) := by decide +kernel
theorem dX6_shares_49 : decode cX6_shares 49 = .ok (.aload_n 0, 1) := by decide +kernel
theorem dX6_shares_50 : decode cX6_shares 50 = .ok (.getfield 25, 3) := by decide +kernel
theorem dX6_shares_53 : decode cX6_shares 53 = .ok (.iload 7, 2) := by decide +kernel
theorem dX6_shares_55 : decode cX6_shares 55 = .ok (.iaload, 1) := by decide +kernel
theorem dX6_shares_56 : decode cX6_shares 56 = .ok (.isub, 1) := by decide +kernel
theorem dX6_shares_57 : decode cX6_shares 57 = .ok (.istore 5, 2) := by decide +kernel
theorem dX6_shares_59 : decode cX6_shares 59 = .ok (.aload_n 1, 1) := by decide +kernel
theorem dX6_shares_60 : decode cX6_shares 60 = .ok (.iload_n 2, 1) := by decide +kernel
theorem dX6_shares_61 : decode cX6_shares 61 = .ok (.bipush 6, 2) := by decide +kernel
theorem dX6_shares_63 : decode cX6_shares 63 = .ok (.iload 7, 2) := by decide +kernel
theorem dX6_shares_65 : decode cX6_shares 65 = .ok (.iadd, 1) := by decide +kernel
theorem dX6_shares_66 : decode cX6_shares 66 = .ok (.invokestatic 43, 3) := by decide +kernel
theorem dX6_shares_69 : decode cX6_shares 69 = .ok (.aload_n 1, 1) := by decide +kernel
theorem dX6_shares_70 : decode cX6_shares 70 = .ok (.iload_n 2, 1) := by decide +kernel
theorem dX6_shares_71 : decode cX6_shares 71 = .ok (.bipush 6, 2) := by decide +kernel
theorem dX6_shares_73 : decode cX6_shares 73 = .ok (.iload 6, 2) := by decide +kernel
theorem dX6_shares_75 : decode cX6_shares 75 = .ok (.iadd, 1) := by decide +kernel
theorem dX6_shares_76 : decode cX6_shares 76 = .ok (.invokestatic 43, 3) := by decide +kernel
theorem dX6_shares_79 : decode cX6_shares 79 = .ok (.if_icmp .le 8, 3) := by decide +kernel
theorem dX6_shares_82 : decode cX6_shares 82 = .ok (.iload 7, 2) := by decide +kernel
theorem dX6_shares_84 : decode cX6_shares 84 = .ok (.goto 5, 3) := by decide +kernel
theorem dX6_shares_87 : decode cX6_shares 87 = .ok (.iload 6, 2) := by decide +kernel
theorem dX6_shares_89 : decode cX6_shares 89 = .ok (.istore 6, 2) := by decide +kernel
theorem dX6_shares_91 : decode cX6_shares 91 = .ok (.iinc 7 1, 3) := by decide +kernel
theorem dX6_shares_94 : decode cX6_shares 94 = .ok (.goto (-85), 3) := by decide +kernel
theorem dX6_shares_97 : decode cX6_shares 97 = .ok (.aload_n 0, 1) := by decide +kernel
theorem dX6_shares_98 : decode cX6_shares 98 = .ok (.getfield 25, 3) := by decide +kernel
theorem dX6_shares_101 : decode cX6_shares 101 = .ok (.iload 6, 2) := by decide +kernel
theorem dX6_shares_103 : decode cX6_shares 103 = .ok (.dup2, 1) := by decide +kernel
theorem dX6_shares_104 : decode cX6_shares 104 = .ok (.iaload, 1) := by decide +kernel
theorem dX6_shares_105 : decode cX6_shares 105 = .ok (.iload 4, 2) := by decide +kernel
theorem dX6_shares_107 : decode cX6_shares 107 = .ok (.ifCond .ne 7, 3) := by decide +kernel
theorem dX6_shares_110 : decode cX6_shares 110 = .ok (.iconst 0, 1) := by decide +kernel
theorem dX6_shares_111 : decode cX6_shares 111 = .ok (.goto 5, 3) := by decide +kernel
theorem dX6_shares_114 : decode cX6_shares 114 = .ok (.iload 5, 2) := by decide +kernel
theorem dX6_shares_116 : decode cX6_shares 116 = .ok (.iadd, 1) := by decide +kernel
theorem dX6_shares_117 : decode cX6_shares 117 = .ok (.iastore, 1) := by decide +kernel
theorem dX6_shares_118 : decode cX6_shares 118 = .ok (.return_, 1) := by decide +kernel
theorem dX6_pays_0 : decode cX6_pays 0 = .ok (.aload_n 1, 1) := by decide +kernel
theorem dX6_pays_1 : decode cX6_pays 1 = .ok (.iload_n 2, 1) := by decide +kernel
theorem dX6_pays_2 : decode cX6_pays 2 = .ok (.iconst 3, 1) := by decide +kernel
theorem dX6_pays_3 : decode cX6_pays 3 = .ok (.invokestatic 43, 3) := by decide +kernel
theorem dX6_pays_6 : decode cX6_pays 6 = .ok (.istore_n 3, 1) := by decide +kernel
theorem dX6_pays_7 : decode cX6_pays 7 = .ok (.aload_n 1, 1) := by decide +kernel
theorem dX6_pays_8 : decode cX6_pays 8 = .ok (.iload_n 2, 1) := by decide +kernel
theorem dX6_pays_9 : decode cX6_pays 9 = .ok (.iload_n 3, 1) := by decide +kernel
theorem dX6_pays_10 : decode cX6_pays 10 = .ok (.invokestatic 59, 3) := by decide +kernel
theorem dX6_pays_13 : decode cX6_pays 13 = .ok (.istore 4, 2) := by decide +kernel
theorem dX6_pays_15 : decode cX6_pays 15 = .ok (.aload_n 0, 1) := by decide +kernel
theorem dX6_pays_16 : decode cX6_pays 16 = .ok (.aload_n 1, 1) := by decide +kernel
theorem dX6_pays_17 : decode cX6_pays 17 = .ok (.iload_n 2, 1) := by decide +kernel
theorem dX6_pays_18 : decode cX6_pays 18 = .ok (.iload 4, 2) := by decide +kernel
theorem dX6_pays_20 : decode cX6_pays 20 = .ok (.iload_n 3, 1) := by decide +kernel
theorem dX6_pays_21 : decode cX6_pays 21 = .ok (.invokevirtual 62, 3) := by decide +kernel
theorem dX6_pays_24 : decode cX6_pays 24 = .ok (.iconst 0, 1) := by decide +kernel
theorem dX6_pays_25 : decode cX6_pays 25 = .ok (.istore 5, 2) := by decide +kernel
theorem dX6_pays_27 : decode cX6_pays 27 = .ok (.iload 5, 2) := by decide +kernel
theorem dX6_pays_29 : decode cX6_pays 29 = .ok (.bipush 6, 2) := by decide +kernel
theorem dX6_pays_31 : decode cX6_pays 31 = .ok (.if_icmp .ge 89, 3) := by decide +kernel
theorem dX6_pays_34 : decode cX6_pays 34 = .ok (.aload_n 1, 1) := by decide +kernel
theorem dX6_pays_35 : decode cX6_pays 35 = .ok (.iload 5, 2) := by decide +kernel
theorem dX6_pays_37 : decode cX6_pays 37 = .ok (.iconst 3, 1) := by decide +kernel
theorem dX6_pays_38 : decode cX6_pays 38 = .ok (.invokestatic 47, 3) := by decide +kernel
theorem dX6_pays_41 : decode cX6_pays 41 = .ok (.istore 6, 2) := by decide +kernel
theorem dX6_pays_43 : decode cX6_pays 43 = .ok (.aload_n 1, 1) := by decide +kernel
theorem dX6_pays_44 : decode cX6_pays 44 = .ok (.iconst 3, 1) := by decide +kernel
theorem dX6_pays_45 : decode cX6_pays 45 = .ok (.iaload, 1) := by decide +kernel
theorem dX6_pays_46 : decode cX6_pays 46 = .ok (.ifCond .eq 19, 3) := by decide +kernel
theorem dX6_pays_49 : decode cX6_pays 49 = .ok (.aload_n 0, 1) := by decide +kernel
theorem dX6_pays_50 : decode cX6_pays 50 = .ok (.getfield 25, 3) := by decide +kernel
theorem dX6_pays_53 : decode cX6_pays 53 = .ok (.iload 5, 2) := by decide +kernel
theorem dX6_pays_55 : decode cX6_pays 55 = .ok (.iaload, 1) := by decide +kernel
theorem dX6_pays_56 : decode cX6_pays 56 = .ok (.aload_n 1, 1) := by decide +kernel
theorem dX6_pays_57 : decode cX6_pays 57 = .ok (.iconst 3, 1) := by decide +kernel
theorem dX6_pays_58 : decode cX6_pays 58 = .ok (.iaload, 1) := by decide +kernel
theorem dX6_pays_59 : decode cX6_pays 59 = .ok (.idiv, 1) := by decide +kernel
theorem dX6_pays_60 : decode cX6_pays 60 = .ok (.iload 6, 2) := by decide +kernel
theorem dX6_pays_62 : decode cX6_pays 62 = .ok (.if_icmp .le 8, 3) := by decide +kernel
theorem dX6_pays_65 : decode cX6_pays 65 = .ok (.iload 6, 2) := by decide +kernel
theorem dX6_pays_67 : decode cX6_pays 67 = .ok (.goto 14, 3) := by decide +kernel
theorem dX6_pays_70 : decode cX6_pays 70 = .ok (.aload_n 0, 1) := by decide +kernel
theorem dX6_pays_71 : decode cX6_pays 71 = .ok (.getfield 25, 3) := by decide +kernel
theorem dX6_pays_74 : decode cX6_pays 74 = .ok (.iload 5, 2) := by decide +kernel
theorem dX6_pays_76 : decode cX6_pays 76 = .ok (.iaload, 1) := by decide +kernel
theorem dX6_pays_77 : decode cX6_pays 77 = .ok (.aload_n 1, 1) := by decide +kernel
theorem dX6_pays_78 : decode cX6_pays 78 = .ok (.iconst 3, 1) := by decide +kernel
theorem dX6_pays_79 : decode cX6_pays 79 = .ok (.iaload, 1) := by decide +kernel
theorem dX6_pays_80 : decode cX6_pays 80 = .ok (.idiv, 1) := by decide +kernel
theorem dX6_pays_81 : decode cX6_pays 81 = .ok (.istore 7, 2) := by decide +kernel
theorem dX6_pays_83 : decode cX6_pays 83 = .ok (.aload_n 1, 1) := by decide +kernel
theorem dX6_pays_84 : decode cX6_pays 84 = .ok (.iload 5, 2) := by decide +kernel
theorem dX6_pays_86 : decode cX6_pays 86 = .ok (.iconst 3, 1) := by decide +kernel
theorem dX6_pays_87 : decode cX6_pays 87 = .ok (.iload 7, 2) := by decide +kernel
theorem dX6_pays_89 : decode cX6_pays 89 = .ok (.ineg, 1) := by decide +kernel
theorem dX6_pays_90 : decode cX6_pays 90 = .ok (.invokestatic 66, 3) := by decide +kernel
theorem dX6_pays_93 : decode cX6_pays 93 = .ok (.aload_n 1, 1) := by decide +kernel
theorem dX6_pays_94 : decode cX6_pays 94 = .ok (.iload 5, 2) := by decide +kernel
theorem dX6_pays_96 : decode cX6_pays 96 = .ok (.iconst 4, 1) := by decide +kernel
theorem dX6_pays_97 : decode cX6_pays 97 = .ok (.aload_n 0, 1) := by decide +kernel
theorem dX6_pays_98 : decode cX6_pays 98 = .ok (.getfield 25, 3) := by decide +kernel
theorem dX6_pays_101 : decode cX6_pays 101 = .ok (.iload 5, 2) := by decide +kernel
theorem dX6_pays_103 : decode cX6_pays 103 = .ok (.iaload, 1) := by decide +kernel
theorem dX6_pays_104 : decode cX6_pays 104 = .ok (.iload 7, 2) := by decide +kernel
theorem dX6_pays_106 : decode cX6_pays 106 = .ok (.aload_n 1, 1) := by decide +kernel
theorem dX6_pays_107 : decode cX6_pays 107 = .ok (.iconst 3, 1) := by decide +kernel
theorem dX6_pays_108 : decode cX6_pays 108 = .ok (.iaload, 1) := by decide +kernel
theorem dX6_pays_109 : decode cX6_pays 109 = .ok (.imul, 1) := by decide +kernel
end
section
theorem dX6_pays_110 : decode cX6_pays 110 = .ok (.isub, 1) := by decide +kernel
theorem dX6_pays_111 : decode cX6_pays 111 = .ok (.invokestatic 66, 3) := by decide +kernel
theorem dX6_pays_114 : decode cX6_pays 114 = .ok (.iinc 5 1, 3) := by decide +kernel
theorem dX6_pays_117 : decode cX6_pays 117 = .ok (.goto (-90), 3) := by decide +kernel
theorem dX6_pays_120 : decode cX6_pays 120 = .ok (.aload_n 1, 1) := by decide +kernel
theorem dX6_pays_121 : decode cX6_pays 121 = .ok (.bipush 7, 2) := by decide +kernel
theorem dX6_pays_123 : decode cX6_pays 123 = .ok (.dup2, 1) := by decide +kernel
theorem dX6_pays_124 : decode cX6_pays 124 = .ok (.iaload, 1) := by decide +kernel
theorem dX6_pays_125 : decode cX6_pays 125 = .ok (.iconst 1, 1) := by decide +kernel
theorem dX6_pays_126 : decode cX6_pays 126 = .ok (.iadd, 1) := by decide +kernel
theorem dX6_pays_127 : decode cX6_pays 127 = .ok (.iastore, 1) := by decide +kernel
theorem dX6_pays_128 : decode cX6_pays 128 = .ok (.aload_n 1, 1) := by decide +kernel
theorem dX6_pays_129 : decode cX6_pays 129 = .ok (.bipush 8, 2) := by decide +kernel
theorem dX6_pays_131 : decode cX6_pays 131 = .ok (.dup2, 1) := by decide +kernel
theorem dX6_pays_132 : decode cX6_pays 132 = .ok (.iaload, 1) := by decide +kernel
theorem dX6_pays_133 : decode cX6_pays 133 = .ok (.aload_n 1, 1) := by decide +kernel
theorem dX6_pays_134 : decode cX6_pays 134 = .ok (.iload_n 2, 1) := by decide +kernel
theorem dX6_pays_135 : decode cX6_pays 135 = .ok (.invokestatic 54, 3) := by decide +kernel
theorem dX6_pays_138 : decode cX6_pays 138 = .ok (.ifCond .le 7, 3) := by decide +kernel
theorem dX6_pays_141 : decode cX6_pays 141 = .ok (.iconst 1, 1) := by decide +kernel
theorem dX6_pays_142 : decode cX6_pays 142 = .ok (.goto 4, 3) := by decide +kernel
theorem dX6_pays_145 : decode cX6_pays 145 = .ok (.iconst 0, 1) := by decide +kernel
theorem dX6_pays_146 : decode cX6_pays 146 = .ok (.iadd, 1) := by decide +kernel
theorem dX6_pays_147 : decode cX6_pays 147 = .ok (.iastore, 1) := by decide +kernel
theorem dX6_pays_148 : decode cX6_pays 148 = .ok (.aload_n 1, 1) := by decide +kernel
theorem dX6_pays_149 : decode cX6_pays 149 = .ok (.bipush 9, 2) := by decide +kernel
theorem dX6_pays_151 : decode cX6_pays 151 = .ok (.dup2, 1) := by decide +kernel
theorem dX6_pays_152 : decode cX6_pays 152 = .ok (.iaload, 1) := by decide +kernel
theorem dX6_pays_153 : decode cX6_pays 153 = .ok (.iload 4, 2) := by decide +kernel
theorem dX6_pays_155 : decode cX6_pays 155 = .ok (.iadd, 1) := by decide +kernel
theorem dX6_pays_156 : decode cX6_pays 156 = .ok (.iastore, 1) := by decide +kernel
theorem dX6_pays_157 : decode cX6_pays 157 = .ok (.aload_n 1, 1) := by decide +kernel
theorem dX6_pays_158 : decode cX6_pays 158 = .ok (.iload_n 2, 1) := by decide +kernel
theorem dX6_pays_159 : decode cX6_pays 159 = .ok (.invokestatic 69, 3) := by decide +kernel
theorem dX6_pays_162 : decode cX6_pays 162 = .ok (.return_, 1) := by decide +kernel
theorem dX6_isLent_0 : decode cX6_isLent 0 = .ok (.aload_n 0, 1) := by decide +kernel
theorem dX6_isLent_1 : decode cX6_isLent 1 = .ok (.iconst 1, 1) := by decide +kernel
theorem dX6_isLent_2 : decode cX6_isLent 2 = .ok (.iaload, 1) := by decide +kernel
theorem dX6_isLent_3 : decode cX6_isLent 3 = .ok (.iconst 1, 1) := by decide +kernel
theorem dX6_isLent_4 : decode cX6_isLent 4 = .ok (.if_icmp .ne 17, 3) := by decide +kernel
theorem dX6_isLent_7 : decode cX6_isLent 7 = .ok (.aload_n 0, 1) := by decide +kernel
theorem dX6_isLent_8 : decode cX6_isLent 8 = .ok (.bipush 14, 2) := by decide +kernel
theorem dX6_isLent_10 : decode cX6_isLent 10 = .ok (.iload_n 1, 1) := by decide +kernel
theorem dX6_isLent_11 : decode cX6_isLent 11 = .ok (.iadd, 1) := by decide +kernel
theorem dX6_isLent_12 : decode cX6_isLent 12 = .ok (.iaload, 1) := by decide +kernel
theorem dX6_isLent_13 : decode cX6_isLent 13 = .ok (.iload_n 2, 1) := by decide +kernel
theorem dX6_isLent_14 : decode cX6_isLent 14 = .ok (.if_icmp .lt 7, 3) := by decide +kernel
theorem dX6_isLent_17 : decode cX6_isLent 17 = .ok (.iconst 1, 1) := by decide +kernel
theorem dX6_isLent_18 : decode cX6_isLent 18 = .ok (.goto 4, 3) := by decide +kernel
theorem dX6_isLent_21 : decode cX6_isLent 21 = .ok (.iconst 0, 1) := by decide +kernel
theorem dX6_isLent_22 : decode cX6_isLent 22 = .ok (.ireturn, 1) := by decide +kernel
theorem dX6_takes_0 : decode cX6_takes 0 = .ok (.aload_n 0, 1) := by decide +kernel
theorem dX6_takes_1 : decode cX6_takes 1 = .ok (.iload_n 2, 1) := by decide +kernel
theorem dX6_takes_2 : decode cX6_takes 2 = .ok (.iconst 1, 1) := by decide +kernel
theorem dX6_takes_3 : decode cX6_takes 3 = .ok (.invokestatic 43, 3) := by decide +kernel
theorem dX6_takes_6 : decode cX6_takes 6 = .ok (.istore_n 3, 1) := by decide +kernel
theorem dX6_takes_7 : decode cX6_takes 7 = .ok (.aload_n 0, 1) := by decide +kernel
theorem dX6_takes_8 : decode cX6_takes 8 = .ok (.iload_n 2, 1) := by decide +kernel
theorem dX6_takes_9 : decode cX6_takes 9 = .ok (.invokestatic 73, 3) := by decide +kernel
theorem dX6_takes_12 : decode cX6_takes 12 = .ok (.istore 4, 2) := by decide +kernel
theorem dX6_takes_14 : decode cX6_takes 14 = .ok (.aload_n 0, 1) := by decide +kernel
theorem dX6_takes_15 : decode cX6_takes 15 = .ok (.iload_n 1, 1) := by decide +kernel
theorem dX6_takes_16 : decode cX6_takes 16 = .ok (.bipush 8, 2) := by decide +kernel
theorem dX6_takes_18 : decode cX6_takes 18 = .ok (.iload_n 3, 1) := by decide +kernel
theorem dX6_takes_19 : decode cX6_takes 19 = .ok (.iadd, 1) := by decide +kernel
theorem dX6_takes_20 : decode cX6_takes 20 = .ok (.invokestatic 47, 3) := by decide +kernel
theorem dX6_takes_23 : decode cX6_takes 23 = .ok (.iload 4, 2) := by decide +kernel
theorem dX6_takes_25 : decode cX6_takes 25 = .ok (.if_icmp .lt 7, 3) := by decide +kernel
theorem dX6_takes_28 : decode cX6_takes 28 = .ok (.iconst 1, 1) := by decide +kernel
theorem dX6_takes_29 : decode cX6_takes 29 = .ok (.goto 4, 3) := by decide +kernel
theorem dX6_takes_32 : decode cX6_takes 32 = .ok (.iconst 0, 1) := by decide +kernel
theorem dX6_takes_33 : decode cX6_takes 33 = .ok (.istore 5, 2) := by decide +kernel
theorem dX6_takes_35 : decode cX6_takes 35 = .ok (.iload 5, 2) := by decide +kernel
theorem dX6_takes_37 : decode cX6_takes 37 = .ok (.ifCond .ne 15, 3) := by decide +kernel
theorem dX6_takes_40 : decode cX6_takes 40 = .ok (.aload_n 0, 1) := by decide +kernel
theorem dX6_takes_41 : decode cX6_takes 41 = .ok (.iload_n 3, 1) := by decide +kernel
theorem dX6_takes_42 : decode cX6_takes 42 = .ok (.iload 4, 2) := by decide +kernel
theorem dX6_takes_44 : decode cX6_takes 44 = .ok (.invokestatic 76, 3) := by decide +kernel
theorem dX6_takes_47 : decode cX6_takes 47 = .ok (.ifCond .ne 5, 3) := by decide +kernel
theorem dX6_takes_50 : decode cX6_takes 50 = .ok (.iconst 0, 1) := by decide +kernel
theorem dX6_takes_51 : decode cX6_takes 51 = .ok (.ireturn, 1) := by decide +kernel
theorem dX6_takes_52 : decode cX6_takes 52 = .ok (.iload 5, 2) := by decide +kernel
theorem dX6_takes_54 : decode cX6_takes 54 = .ok (.ifCond .eq 18, 3) := by decide +kernel
theorem dX6_takes_57 : decode cX6_takes 57 = .ok (.aload_n 0, 1) := by decide +kernel
theorem dX6_takes_58 : decode cX6_takes 58 = .ok (.iload_n 1, 1) := by decide +kernel
theorem dX6_takes_59 : decode cX6_takes 59 = .ok (.bipush 8, 2) := by decide +kernel
theorem dX6_takes_61 : decode cX6_takes 61 = .ok (.iload_n 3, 1) := by decide +kernel
theorem dX6_takes_62 : decode cX6_takes 62 = .ok (.iadd, 1) := by decide +kernel
theorem dX6_takes_63 : decode cX6_takes 63 = .ok (.iload 4, 2) := by decide +kernel
theorem dX6_takes_65 : decode cX6_takes 65 = .ok (.ineg, 1) := by decide +kernel
theorem dX6_takes_66 : decode cX6_takes 66 = .ok (.invokestatic 66, 3) := by decide +kernel
theorem dX6_takes_69 : decode cX6_takes 69 = .ok (.goto 31, 3) := by decide +kernel
theorem dX6_takes_72 : decode cX6_takes 72 = .ok (.aload_n 0, 1) := by decide +kernel
theorem dX6_takes_73 : decode cX6_takes 73 = .ok (.bipush 14, 2) := by decide +kernel
theorem dX6_takes_75 : decode cX6_takes 75 = .ok (.iload_n 3, 1) := by decide +kernel
theorem dX6_takes_76 : decode cX6_takes 76 = .ok (.iadd, 1) := by decide +kernel
theorem dX6_takes_77 : decode cX6_takes 77 = .ok (.dup2, 1) := by decide +kernel
theorem dX6_takes_78 : decode cX6_takes 78 = .ok (.iaload, 1) := by decide +kernel
theorem dX6_takes_79 : decode cX6_takes 79 = .ok (.iload 4, 2) := by decide +kernel
theorem dX6_takes_81 : decode cX6_takes 81 = .ok (.isub, 1) := by decide +kernel
theorem dX6_takes_82 : decode cX6_takes 82 = .ok (.iastore, 1) := by decide +kernel
theorem dX6_takes_83 : decode cX6_takes 83 = .ok (.aload_n 0, 1) := by decide +kernel
theorem dX6_takes_84 : decode cX6_takes 84 = .ok (.iload_n 1, 1) := by decide +kernel
theorem dX6_takes_85 : decode cX6_takes 85 = .ok (.iconst 3, 1) := by decide +kernel
theorem dX6_takes_86 : decode cX6_takes 86 = .ok (.iload 4, 2) := by decide +kernel
theorem dX6_takes_88 : decode cX6_takes 88 = .ok (.invokestatic 66, 3) := by decide +kernel
theorem dX6_takes_91 : decode cX6_takes 91 = .ok (.aload_n 0, 1) := by decide +kernel
theorem dX6_takes_92 : decode cX6_takes 92 = .ok (.iload_n 1, 1) := by decide +kernel
theorem dX6_takes_93 : decode cX6_takes 93 = .ok (.bipush 7, 2) := by decide +kernel
theorem dX6_takes_95 : decode cX6_takes 95 = .ok (.iload 4, 2) := by decide +kernel
theorem dX6_takes_97 : decode cX6_takes 97 = .ok (.invokestatic 66, 3) := by decide +kernel
theorem dX6_takes_100 : decode cX6_takes 100 = .ok (.aload_n 0, 1) := by decide +kernel
theorem dX6_takes_101 : decode cX6_takes 101 = .ok (.bipush 12, 2) := by decide +kernel
theorem dX6_takes_103 : decode cX6_takes 103 = .ok (.dup2, 1) := by decide +kernel
theorem dX6_takes_104 : decode cX6_takes 104 = .ok (.iaload, 1) := by decide +kernel
theorem dX6_takes_105 : decode cX6_takes 105 = .ok (.iload 4, 2) := by decide +kernel
theorem dX6_takes_107 : decode cX6_takes 107 = .ok (.iadd, 1) := by decide +kernel
theorem dX6_takes_108 : decode cX6_takes 108 = .ok (.iastore, 1) := by decide +kernel
theorem dX6_takes_109 : decode cX6_takes 109 = .ok (.iconst 1, 1) := by decide +kernel
theorem dX6_takes_110 : decode cX6_takes 110 = .ok (.ireturn, 1) := by decide +kernel
theorem dX6_makes_0 : decode cX6_makes 0 = .ok (.aload_n 0, 1) := by decide +kernel
theorem dX6_makes_1 : decode cX6_makes 1 = .ok (.iload_n 1, 1) := by decide +kernel
theorem dX6_makes_2 : decode cX6_makes 2 = .ok (.iconst 5, 1) := by decide +kernel
theorem dX6_makes_3 : decode cX6_makes 3 = .ok (.iconst 1, 1) := by decide +kernel
theorem dX6_makes_4 : decode cX6_makes 4 = .ok (.invokestatic 66, 3) := by decide +kernel
theorem dX6_makes_7 : decode cX6_makes 7 = .ok (.aload_n 0, 1) := by decide +kernel
theorem dX6_makes_8 : decode cX6_makes 8 = .ok (.bipush 10, 2) := by decide +kernel
theorem dX6_makes_10 : decode cX6_makes 10 = .ok (.dup2, 1) := by decide +kernel
theorem dX6_makes_11 : decode cX6_makes 11 = .ok (.iaload, 1) := by decide +kernel
theorem dX6_makes_12 : decode cX6_makes 12 = .ok (.iconst 1, 1) := by decide +kernel
theorem dX6_makes_13 : decode cX6_makes 13 = .ok (.iadd, 1) := by decide +kernel
theorem dX6_makes_14 : decode cX6_makes 14 = .ok (.iastore, 1) := by decide +kernel
theorem dX6_makes_15 : decode cX6_makes 15 = .ok (.aload_n 0, 1) := by decide +kernel
theorem dX6_makes_16 : decode cX6_makes 16 = .ok (.iload_n 1, 1) := by decide +kernel
theorem dX6_makes_17 : decode cX6_makes 17 = .ok (.iconst 2, 1) := by decide +kernel
theorem dX6_makes_18 : decode cX6_makes 18 = .ok (.invokestatic 47, 3) := by decide +kernel
theorem dX6_makes_21 : decode cX6_makes 21 = .ok (.ifCond .le 38, 3) := by decide +kernel
theorem dX6_makes_24 : decode cX6_makes 24 = .ok (.aload_n 0, 1) := by decide +kernel
theorem dX6_makes_25 : decode cX6_makes 25 = .ok (.iload_n 1, 1) := by decide +kernel
theorem dX6_makes_26 : decode cX6_makes 26 = .ok (.iconst 5, 1) := by decide +kernel
theorem dX6_makes_27 : decode cX6_makes 27 = .ok (.invokestatic 47, 3) := by decide +kernel
theorem dX6_makes_30 : decode cX6_makes 30 = .ok (.aload_n 0, 1) := by decide +kernel
theorem dX6_makes_31 : decode cX6_makes 31 = .ok (.iload_n 1, 1) := by decide +kernel
theorem dX6_makes_32 : decode cX6_makes 32 = .ok (.iconst 2, 1) := by decide +kernel
theorem dX6_makes_33 : decode cX6_makes 33 = .ok (.invokestatic 47, 3) := by decide +kernel
theorem dX6_makes_36 : decode cX6_makes 36 = .ok (.irem, 1) := by decide +kernel
theorem dX6_makes_37 : decode cX6_makes 37 = .ok (.ifCond .ne 22, 3) := by decide +kernel
theorem dX6_makes_40 : decode cX6_makes 40 = .ok (.aload_n 0, 1) := by decide +kernel
theorem dX6_makes_41 : decode cX6_makes 41 = .ok (.iload_n 1, 1) := by decide +kernel
theorem dX6_makes_42 : decode cX6_makes 42 = .ok (.bipush 6, 2) := by decide +kernel
theorem dX6_makes_44 : decode cX6_makes 44 = .ok (.iconst 1, 1) := by decide +kernel
theorem dX6_makes_45 : decode cX6_makes 45 = .ok (.invokestatic 66, 3) := by decide +kernel
theorem dX6_makes_48 : decode cX6_makes 48 = .ok (.aload_n 0, 1) := by decide +kernel
theorem dX6_makes_49 : decode cX6_makes 49 = .ok (.bipush 11, 2) := by decide +kernel
theorem dX6_makes_51 : decode cX6_makes 51 = .ok (.dup2, 1) := by decide +kernel
theorem dX6_makes_52 : decode cX6_makes 52 = .ok (.iaload, 1) := by decide +kernel
theorem dX6_makes_53 : decode cX6_makes 53 = .ok (.iconst 1, 1) := by decide +kernel
theorem dX6_makes_54 : decode cX6_makes 54 = .ok (.iadd, 1) := by decide +kernel
theorem dX6_makes_55 : decode cX6_makes 55 = .ok (.iastore, 1) := by decide +kernel
theorem dX6_makes_56 : decode cX6_makes 56 = .ok (.goto 21, 3) := by decide +kernel
theorem dX6_makes_59 : decode cX6_makes 59 = .ok (.aload_n 0, 1) := by decide +kernel
theorem dX6_makes_60 : decode cX6_makes 60 = .ok (.bipush 90, 2) := by decide +kernel
theorem dX6_makes_62 : decode cX6_makes 62 = .ok (.bipush 12, 2) := by decide +kernel
theorem dX6_makes_64 : decode cX6_makes 64 = .ok (.iload_n 2, 1) := by decide +kernel
theorem dX6_makes_65 : decode cX6_makes 65 = .ok (.imul, 1) := by decide +kernel
theorem dX6_makes_66 : decode cX6_makes 66 = .ok (.iadd, 1) := by decide +kernel
theorem dX6_makes_67 : decode cX6_makes 67 = .ok (.bipush 6, 2) := by decide +kernel
theorem dX6_makes_69 : decode cX6_makes 69 = .ok (.iadd, 1) := by decide +kernel
theorem dX6_makes_70 : decode cX6_makes 70 = .ok (.iload_n 1, 1) := by decide +kernel
theorem dX6_makes_71 : decode cX6_makes 71 = .ok (.iadd, 1) := by decide +kernel
theorem dX6_makes_72 : decode cX6_makes 72 = .ok (.dup2, 1) := by decide +kernel
theorem dX6_makes_73 : decode cX6_makes 73 = .ok (.iaload, 1) := by decide +kernel
theorem dX6_makes_74 : decode cX6_makes 74 = .ok (.iconst 1, 1) := by decide +kernel
theorem dX6_makes_75 : decode cX6_makes 75 = .ok (.iadd, 1) := by decide +kernel
theorem dX6_makes_76 : decode cX6_makes 76 = .ok (.iastore, 1) := by decide +kernel
theorem dX6_makes_77 : decode cX6_makes 77 = .ok (.return_, 1) := by decide +kernel
theorem dX6_weaves_0 : decode cX6_weaves 0 = .ok (.aload_n 1, 1) := by decide +kernel
theorem dX6_weaves_1 : decode cX6_weaves 1 = .ok (.iload_n 2, 1) := by decide +kernel
theorem dX6_weaves_2 : decode cX6_weaves 2 = .ok (.invokestatic 80, 3) := by decide +kernel
theorem dX6_weaves_5 : decode cX6_weaves 5 = .ok (.istore_n 3, 1) := by decide +kernel
theorem dX6_weaves_6 : decode cX6_weaves 6 = .ok (.iconst 0, 1) := by decide +kernel
theorem dX6_weaves_7 : decode cX6_weaves 7 = .ok (.istore 4, 2) := by decide +kernel
theorem dX6_weaves_9 : decode cX6_weaves 9 = .ok (.iload_n 3, 1) := by decide +kernel
theorem dX6_weaves_10 : decode cX6_weaves 10 = .ok (.iconst (-1), 1) := by decide +kernel
theorem dX6_weaves_11 : decode cX6_weaves 11 = .ok (.if_icmp .eq 7, 3) := by decide +kernel
theorem dX6_weaves_14 : decode cX6_weaves 14 = .ok (.iconst 1, 1) := by decide +kernel
theorem dX6_weaves_15 : decode cX6_weaves 15 = .ok (.goto 4, 3) := by decide +kernel
theorem dX6_weaves_18 : decode cX6_weaves 18 = .ok (.iconst 0, 1) := by decide +kernel
theorem dX6_weaves_19 : decode cX6_weaves 19 = .ok (.istore 5, 2) := by decide +kernel
theorem dX6_weaves_21 : decode cX6_weaves 21 = .ok (.iload 5, 2) := by decide +kernel
theorem dX6_weaves_23 : decode cX6_weaves 23 = .ok (.ifCond .eq 62, 3) := by decide +kernel
theorem dX6_weaves_26 : decode cX6_weaves 26 = .ok (.iload 4, 2) := by decide +kernel
theorem dX6_weaves_28 : decode cX6_weaves 28 = .ok (.aload_n 1, 1) := by decide +kernel
theorem dX6_weaves_29 : decode cX6_weaves 29 = .ok (.iload_n 2, 1) := by decide +kernel
theorem dX6_weaves_30 : decode cX6_weaves 30 = .ok (.iconst 1, 1) := by decide +kernel
theorem dX6_weaves_31 : decode cX6_weaves 31 = .ok (.invokestatic 47, 3) := by decide +kernel
theorem dX6_weaves_34 : decode cX6_weaves 34 = .ok (.if_icmp .ge 51, 3) := by decide +kernel
theorem dX6_weaves_37 : decode cX6_weaves 37 = .ok (.aload_n 1, 1) := by decide +kernel
theorem dX6_weaves_38 : decode cX6_weaves 38 = .ok (.iload_n 2, 1) := by decide +kernel
theorem dX6_weaves_39 : decode cX6_weaves 39 = .ok (.iload_n 3, 1) := by decide +kernel
theorem dX6_weaves_40 : decode cX6_weaves 40 = .ok (.invokestatic 83, 3) := by decide +kernel
theorem dX6_weaves_43 : decode cX6_weaves 43 = .ok (.istore 5, 2) := by decide +kernel
theorem dX6_weaves_45 : decode cX6_weaves 45 = .ok (.iload 5, 2) := by decide +kernel
theorem dX6_weaves_47 : decode cX6_weaves 47 = .ok (.ifCond .eq (-26), 3) := by decide +kernel
theorem dX6_weaves_50 : decode cX6_weaves 50 = .ok (.aload_n 1, 1) := by decide +kernel
theorem dX6_weaves_51 : decode cX6_weaves 51 = .ok (.iload_n 2, 1) := by decide +kernel
theorem dX6_weaves_52 : decode cX6_weaves 52 = .ok (.iload_n 3, 1) := by decide +kernel
theorem dX6_weaves_53 : decode cX6_weaves 53 = .ok (.invokestatic 86, 3) := by decide +kernel
theorem dX6_weaves_56 : decode cX6_weaves 56 = .ok (.iinc 4 1, 3) := by decide +kernel
theorem dX6_weaves_59 : decode cX6_weaves 59 = .ok (.aload_n 1, 1) := by decide +kernel
theorem dX6_weaves_60 : decode cX6_weaves 60 = .ok (.iload_n 3, 1) := by decide +kernel
theorem dX6_weaves_61 : decode cX6_weaves 61 = .ok (.invokestatic 90, 3) := by decide +kernel
theorem dX6_weaves_64 : decode cX6_weaves 64 = .ok (.aload_n 1, 1) := by decide +kernel
theorem dX6_weaves_65 : decode cX6_weaves 65 = .ok (.iload_n 3, 1) := by decide +kernel
theorem dX6_weaves_66 : decode cX6_weaves 66 = .ok (.iconst 3, 1) := by decide +kernel
theorem dX6_weaves_67 : decode cX6_weaves 67 = .ok (.invokestatic 43, 3) := by decide +kernel
theorem dX6_weaves_70 : decode cX6_weaves 70 = .ok (.if_icmp .ne (-49), 3) := by decide +kernel
theorem dX6_weaves_73 : decode cX6_weaves 73 = .ok (.aload_n 0, 1) := by decide +kernel
theorem dX6_weaves_74 : decode cX6_weaves 74 = .ok (.aload_n 1, 1) := by decide +kernel
theorem dX6_weaves_75 : decode cX6_weaves 75 = .ok (.iload_n 3, 1) := by decide +kernel
theorem dX6_weaves_76 : decode cX6_weaves 76 = .ok (.invokevirtual 93, 3) := by decide +kernel
theorem dX6_weaves_79 : decode cX6_weaves 79 = .ok (.iconst 0, 1) := by decide +kernel
theorem dX6_weaves_80 : decode cX6_weaves 80 = .ok (.istore 5, 2) := by decide +kernel
theorem dX6_weaves_82 : decode cX6_weaves 82 = .ok (.goto (-61), 3) := by decide +kernel
theorem dX6_weaves_85 : decode cX6_weaves 85 = .ok (.aload_n 1, 1) := by decide +kernel
theorem dX6_weaves_86 : decode cX6_weaves 86 = .ok (.bipush 13, 2) := by decide +kernel
theorem dX6_weaves_88 : decode cX6_weaves 88 = .ok (.dup2, 1) := by decide +kernel
theorem dX6_weaves_89 : decode cX6_weaves 89 = .ok (.iaload, 1) := by decide +kernel
theorem dX6_weaves_90 : decode cX6_weaves 90 = .ok (.iload 4, 2) := by decide +kernel
theorem dX6_weaves_92 : decode cX6_weaves 92 = .ok (.ifCond .ne 7, 3) := by decide +kernel
theorem dX6_weaves_95 : decode cX6_weaves 95 = .ok (.iconst 1, 1) := by decide +kernel
theorem dX6_weaves_96 : decode cX6_weaves 96 = .ok (.goto 4, 3) := by decide +kernel
theorem dX6_weaves_99 : decode cX6_weaves 99 = .ok (.iconst 0, 1) := by decide +kernel
theorem dX6_weaves_100 : decode cX6_weaves 100 = .ok (.iadd, 1) := by decide +kernel
theorem dX6_weaves_101 : decode cX6_weaves 101 = .ok (.iastore, 1) := by decide +kernel
theorem dX6_weaves_102 : decode cX6_weaves 102 = .ok (.return_, 1) := by decide +kernel
theorem dX6_hour_0 : decode cX6_hour 0 = .ok (.iconst 0, 1) := by decide +kernel
theorem dX6_hour_1 : decode cX6_hour 1 = .ok (.istore_n 2, 1) := by decide +kernel
theorem dX6_hour_2 : decode cX6_hour 2 = .ok (.iload_n 2, 1) := by decide +kernel
theorem dX6_hour_3 : decode cX6_hour 3 = .ok (.bipush 6, 2) := by decide +kernel
theorem dX6_hour_5 : decode cX6_hour 5 = .ok (.if_icmp .ge 24, 3) := by decide +kernel
theorem dX6_hour_8 : decode cX6_hour 8 = .ok (.aload_n 1, 1) := by decide +kernel
theorem dX6_hour_9 : decode cX6_hour 9 = .ok (.iload_n 2, 1) := by decide +kernel
theorem dX6_hour_10 : decode cX6_hour 10 = .ok (.iconst 0, 1) := by decide +kernel
theorem dX6_hour_11 : decode cX6_hour 11 = .ok (.invokestatic 47, 3) := by decide +kernel
theorem dX6_hour_14 : decode cX6_hour 14 = .ok (.ifCond .le 9, 3) := by decide +kernel
theorem dX6_hour_17 : decode cX6_hour 17 = .ok (.aload_n 0, 1) := by decide +kernel
theorem dX6_hour_18 : decode cX6_hour 18 = .ok (.aload_n 1, 1) := by decide +kernel
theorem dX6_hour_19 : decode cX6_hour 19 = .ok (.iload_n 2, 1) := by decide +kernel
theorem dX6_hour_20 : decode cX6_hour 20 = .ok (.invokevirtual 96, 3) := by decide +kernel
theorem dX6_hour_23 : decode cX6_hour 23 = .ok (.iinc 2 1, 3) := by decide +kernel
theorem dX6_hour_26 : decode cX6_hour 26 = .ok (.goto (-24), 3) := by decide +kernel
theorem dX6_hour_29 : decode cX6_hour 29 = .ok (.aload_n 1, 1) := by decide +kernel
theorem dX6_hour_30 : decode cX6_hour 30 = .ok (.iconst 4, 1) := by decide +kernel
theorem dX6_hour_31 : decode cX6_hour 31 = .ok (.dup2, 1) := by decide +kernel
theorem dX6_hour_32 : decode cX6_hour 32 = .ok (.iaload, 1) := by decide +kernel
theorem dX6_hour_33 : decode cX6_hour 33 = .ok (.iconst 1, 1) := by decide +kernel
theorem dX6_hour_34 : decode cX6_hour 34 = .ok (.iadd, 1) := by decide +kernel
theorem dX6_hour_35 : decode cX6_hour 35 = .ok (.iastore, 1) := by decide +kernel
theorem dX6_hour_36 : decode cX6_hour 36 = .ok (.return_, 1) := by decide +kernel
theorem dX6_hours_0 : decode cX6_hours 0 = .ok (.iconst 0, 1) := by decide +kernel
theorem dX6_hours_1 : decode cX6_hours 1 = .ok (.istore_n 3, 1) := by decide +kernel
theorem dX6_hours_2 : decode cX6_hours 2 = .ok (.iload_n 3, 1) := by decide +kernel
theorem dX6_hours_3 : decode cX6_hours 3 = .ok (.iload_n 2, 1) := by decide +kernel
theorem dX6_hours_4 : decode cX6_hours 4 = .ok (.if_icmp .ge 14, 3) := by decide +kernel
theorem dX6_hours_7 : decode cX6_hours 7 = .ok (.aload_n 0, 1) := by decide +kernel
theorem dX6_hours_8 : decode cX6_hours 8 = .ok (.aload_n 1, 1) := by decide +kernel
theorem dX6_hours_9 : decode cX6_hours 9 = .ok (.invokevirtual 99, 3) := by decide +kernel
theorem dX6_hours_12 : decode cX6_hours 12 = .ok (.iinc 3 1, 3) := by decide +kernel
theorem dX6_hours_15 : decode cX6_hours 15 = .ok (.goto (-13), 3) := by decide +kernel
theorem dX6_hours_18 : decode cX6_hours 18 = .ok (.return_, 1) := by decide +kernel
theorem dX6_loom_0 : decode cX6_loom 0 = .ok (.aload_n 0, 1) := by decide +kernel
theorem dX6_loom_1 : decode cX6_loom 1 = .ok (.iconst 0, 1) := by decide +kernel
theorem dX6_loom_2 : decode cX6_loom 2 = .ok (.putfield 28, 3) := by decide +kernel
theorem dX6_loom_5 : decode cX6_loom 5 = .ok (.iload_n 1, 1) := by decide +kernel
theorem dX6_loom_6 : decode cX6_loom 6 = .ok (.invokestatic 103, 3) := by decide +kernel
theorem dX6_loom_9 : decode cX6_loom 9 = .ok (.ifCond .ne 9, 3) := by decide +kernel
theorem dX6_loom_12 : decode cX6_loom 12 = .ok (.aload_n 0, 1) := by decide +kernel
theorem dX6_loom_13 : decode cX6_loom 13 = .ok (.iconst 1, 1) := by decide +kernel
theorem dX6_loom_14 : decode cX6_loom 14 = .ok (.invokevirtual 39, 3) := by decide +kernel
theorem dX6_loom_17 : decode cX6_loom 17 = .ok (.ireturn, 1) := by decide +kernel
theorem dX6_loom_18 : decode cX6_loom 18 = .ok (.iload_n 2, 1) := by decide +kernel
theorem dX6_loom_19 : decode cX6_loom 19 = .ok (.ifCond .eq 42, 3) := by decide +kernel
theorem dX6_loom_22 : decode cX6_loom 22 = .ok (.iload_n 2, 1) := by decide +kernel
theorem dX6_loom_23 : decode cX6_loom 23 = .ok (.bipush 40, 2) := by decide +kernel
theorem dX6_loom_25 : decode cX6_loom 25 = .ok (.sipush 200, 3) := by decide +kernel
theorem dX6_loom_28 : decode cX6_loom 28 = .ok (.invokestatic 32, 3) := by decide +kernel
theorem dX6_loom_31 : decode cX6_loom 31 = .ok (.ifCond .eq 24, 3) := by decide +kernel
theorem dX6_loom_34 : decode cX6_loom 34 = .ok (.iload_n 3, 1) := by decide +kernel
theorem dX6_loom_35 : decode cX6_loom 35 = .ok (.iconst 1, 1) := by decide +kernel
theorem dX6_loom_36 : decode cX6_loom 36 = .ok (.bipush 9, 2) := by decide +kernel
theorem dX6_loom_38 : decode cX6_loom 38 = .ok (.invokestatic 32, 3) := by decide +kernel
theorem dX6_loom_41 : decode cX6_loom 41 = .ok (.ifCond .eq 14, 3) := by decide +kernel
theorem dX6_loom_44 : decode cX6_loom 44 = .ok (.iload 4, 2) := by decide +kernel
theorem dX6_loom_46 : decode cX6_loom 46 = .ok (.iconst 0, 1) := by decide +kernel
theorem dX6_loom_47 : decode cX6_loom 47 = .ok (.bipush 99, 2) := by decide +kernel
theorem dX6_loom_49 : decode cX6_loom 49 = .ok (.invokestatic 32, 3) := by decide +kernel
theorem dX6_loom_52 : decode cX6_loom 52 = .ok (.ifCond .ne 9, 3) := by decide +kernel
theorem dX6_loom_55 : decode cX6_loom 55 = .ok (.aload_n 0, 1) := by decide +kernel
theorem dX6_loom_56 : decode cX6_loom 56 = .ok (.iconst 2, 1) := by decide +kernel
theorem dX6_loom_57 : decode cX6_loom 57 = .ok (.invokevirtual 39, 3) := by decide +kernel
theorem dX6_loom_60 : decode cX6_loom 60 = .ok (.ireturn, 1) := by decide +kernel
theorem dX6_loom_61 : decode cX6_loom 61 = .ok (.aload_n 0, 1) := by decide +kernel
theorem dX6_loom_62 : decode cX6_loom 62 = .ok (.invokevirtual 107, 3) := by decide +kernel
theorem dX6_loom_65 : decode cX6_loom 65 = .ok (.bipush 18, 2) := by decide +kernel
theorem dX6_loom_67 : decode cX6_loom 67 = .ok (.bipush 12, 2) := by decide +kernel
theorem dX6_loom_69 : decode cX6_loom 69 = .ok (.iload_n 1, 1) := by decide +kernel
theorem dX6_loom_70 : decode cX6_loom 70 = .ok (.imul, 1) := by decide +kernel
theorem dX6_loom_71 : decode cX6_loom 71 = .ok (.iadd, 1) := by decide +kernel
theorem dX6_loom_72 : decode cX6_loom 72 = .ok (.istore 5, 2) := by decide +kernel
theorem dX6_loom_74 : decode cX6_loom 74 = .ok (.aload_n 0, 1) := by decide +kernel
theorem dX6_loom_75 : decode cX6_loom 75 = .ok (.getfield 7, 3) := by decide +kernel
theorem dX6_loom_78 : decode cX6_loom 78 = .ok (.iload 5, 2) := by decide +kernel
theorem dX6_loom_80 : decode cX6_loom 80 = .ok (.iaload, 1) := by decide +kernel
theorem dX6_loom_81 : decode cX6_loom 81 = .ok (.istore 6, 2) := by decide +kernel
theorem dX6_loom_83 : decode cX6_loom 83 = .ok (.aload_n 0, 1) := by decide +kernel
theorem dX6_loom_84 : decode cX6_loom 84 = .ok (.getfield 7, 3) := by decide +kernel
theorem dX6_loom_87 : decode cX6_loom 87 = .ok (.iload 5, 2) := by decide +kernel
theorem dX6_loom_89 : decode cX6_loom 89 = .ok (.iconst 0, 1) := by decide +kernel
theorem dX6_loom_90 : decode cX6_loom 90 = .ok (.iadd, 1) := by decide +kernel
theorem dX6_loom_91 : decode cX6_loom 91 = .ok (.iload_n 2, 1) := by decide +kernel
theorem dX6_loom_92 : decode cX6_loom 92 = .ok (.iastore, 1) := by decide +kernel
theorem dX6_loom_93 : decode cX6_loom 93 = .ok (.aload_n 0, 1) := by decide +kernel
theorem dX6_loom_94 : decode cX6_loom 94 = .ok (.getfield 7, 3) := by decide +kernel
theorem dX6_loom_97 : decode cX6_loom 97 = .ok (.iload 5, 2) := by decide +kernel
theorem dX6_loom_99 : decode cX6_loom 99 = .ok (.iconst 1, 1) := by decide +kernel
theorem dX6_loom_100 : decode cX6_loom 100 = .ok (.iadd, 1) := by decide +kernel
theorem dX6_loom_101 : decode cX6_loom 101 = .ok (.iload_n 2, 1) := by decide +kernel
theorem dX6_loom_102 : decode cX6_loom 102 = .ok (.ifCond .ne 7, 3) := by decide +kernel
theorem dX6_loom_105 : decode cX6_loom 105 = .ok (.iconst 0, 1) := by decide +kernel
theorem dX6_loom_106 : decode cX6_loom 106 = .ok (.goto 4, 3) := by decide +kernel
theorem dX6_loom_109 : decode cX6_loom 109 = .ok (.iload_n 3, 1) := by decide +kernel
theorem dX6_loom_110 : decode cX6_loom 110 = .ok (.iastore, 1) := by decide +kernel
theorem dX6_loom_111 : decode cX6_loom 111 = .ok (.aload_n 0, 1) := by decide +kernel
theorem dX6_loom_112 : decode cX6_loom 112 = .ok (.getfield 7, 3) := by decide +kernel
theorem dX6_loom_115 : decode cX6_loom 115 = .ok (.iload 5, 2) := by decide +kernel
theorem dX6_loom_117 : decode cX6_loom 117 = .ok (.iconst 2, 1) := by decide +kernel
theorem dX6_loom_118 : decode cX6_loom 118 = .ok (.iadd, 1) := by decide +kernel
theorem dX6_loom_119 : decode cX6_loom 119 = .ok (.iload_n 2, 1) := by decide +kernel
theorem dX6_loom_120 : decode cX6_loom 120 = .ok (.ifCond .ne 7, 3) := by decide +kernel
theorem dX6_loom_123 : decode cX6_loom 123 = .ok (.iconst 0, 1) := by decide +kernel
theorem dX6_loom_124 : decode cX6_loom 124 = .ok (.goto 5, 3) := by decide +kernel
theorem dX6_loom_127 : decode cX6_loom 127 = .ok (.iload 4, 2) := by decide +kernel
theorem dX6_loom_129 : decode cX6_loom 129 = .ok (.iastore, 1) := by decide +kernel
theorem dX6_loom_130 : decode cX6_loom 130 = .ok (.iload 6, 2) := by decide +kernel
theorem dX6_loom_132 : decode cX6_loom 132 = .ok (.ireturn, 1) := by decide +kernel
theorem dX6_yarn_0 : decode cX6_yarn 0 = .ok (.aload_n 0, 1) := by decide +kernel
theorem dX6_yarn_1 : decode cX6_yarn 1 = .ok (.iconst 0, 1) := by decide +kernel
theorem dX6_yarn_2 : decode cX6_yarn 2 = .ok (.putfield 28, 3) := by decide +kernel
theorem dX6_yarn_5 : decode cX6_yarn 5 = .ok (.iload_n 1, 1) := by decide +kernel
theorem dX6_yarn_6 : decode cX6_yarn 6 = .ok (.invokestatic 103, 3) := by decide +kernel
theorem dX6_yarn_9 : decode cX6_yarn 9 = .ok (.ifCond .eq 10, 3) := by decide +kernel
theorem dX6_yarn_12 : decode cX6_yarn 12 = .ok (.iload_n 2, 1) := by decide +kernel
theorem dX6_yarn_13 : decode cX6_yarn 13 = .ok (.invokestatic 110, 3) := by decide +kernel
theorem dX6_yarn_16 : decode cX6_yarn 16 = .ok (.ifCond .ne 9, 3) := by decide +kernel
theorem dX6_yarn_19 : decode cX6_yarn 19 = .ok (.aload_n 0, 1) := by decide +kernel
theorem dX6_yarn_20 : decode cX6_yarn 20 = .ok (.iconst 1, 1) := by decide +kernel
theorem dX6_yarn_21 : decode cX6_yarn 21 = .ok (.invokevirtual 39, 3) := by decide +kernel
theorem dX6_yarn_24 : decode cX6_yarn 24 = .ok (.ireturn, 1) := by decide +kernel
theorem dX6_yarn_25 : decode cX6_yarn 25 = .ok (.iload_n 3, 1) := by decide +kernel
theorem dX6_yarn_26 : decode cX6_yarn 26 = .ok (.sipush (-9999), 3) := by decide +kernel
theorem dX6_yarn_29 : decode cX6_yarn 29 = .ok (.sipush 9999, 3) := by decide +kernel
theorem dX6_yarn_32 : decode cX6_yarn 32 = .ok (.invokestatic 32, 3) := by decide +kernel
theorem dX6_yarn_35 : decode cX6_yarn 35 = .ok (.ifCond .ne 9, 3) := by decide +kernel
theorem dX6_yarn_38 : decode cX6_yarn 38 = .ok (.aload_n 0, 1) := by decide +kernel
theorem dX6_yarn_39 : decode cX6_yarn 39 = .ok (.iconst 2, 1) := by decide +kernel
theorem dX6_yarn_40 : decode cX6_yarn 40 = .ok (.invokevirtual 39, 3) := by decide +kernel
theorem dX6_yarn_43 : decode cX6_yarn 43 = .ok (.ireturn, 1) := by decide +kernel
theorem dX6_yarn_44 : decode cX6_yarn 44 = .ok (.aload_n 0, 1) := by decide +kernel
theorem dX6_yarn_45 : decode cX6_yarn 45 = .ok (.getfield 7, 3) := by decide +kernel
theorem dX6_yarn_48 : decode cX6_yarn 48 = .ok (.iload_n 1, 1) := by decide +kernel
theorem dX6_yarn_49 : decode cX6_yarn 49 = .ok (.bipush 8, 2) := by decide +kernel
theorem dX6_yarn_51 : decode cX6_yarn 51 = .ok (.iload_n 2, 1) := by decide +kernel
theorem dX6_yarn_52 : decode cX6_yarn 52 = .ok (.iadd, 1) := by decide +kernel
theorem dX6_yarn_53 : decode cX6_yarn 53 = .ok (.invokestatic 47, 3) := by decide +kernel
theorem dX6_yarn_56 : decode cX6_yarn 56 = .ok (.iload_n 3, 1) := by decide +kernel
theorem dX6_yarn_57 : decode cX6_yarn 57 = .ok (.iadd, 1) := by decide +kernel
theorem dX6_yarn_58 : decode cX6_yarn 58 = .ok (.iconst 0, 1) := by decide +kernel
theorem dX6_yarn_59 : decode cX6_yarn 59 = .ok (.sipush 9999, 3) := by decide +kernel
theorem dX6_yarn_62 : decode cX6_yarn 62 = .ok (.invokestatic 32, 3) := by decide +kernel
theorem dX6_yarn_65 : decode cX6_yarn 65 = .ok (.ifCond .ne 9, 3) := by decide +kernel
theorem dX6_yarn_68 : decode cX6_yarn 68 = .ok (.aload_n 0, 1) := by decide +kernel
theorem dX6_yarn_69 : decode cX6_yarn 69 = .ok (.iconst 3, 1) := by decide +kernel
theorem dX6_yarn_70 : decode cX6_yarn 70 = .ok (.invokevirtual 39, 3) := by decide +kernel
theorem dX6_yarn_73 : decode cX6_yarn 73 = .ok (.ireturn, 1) := by decide +kernel
theorem dX6_yarn_74 : decode cX6_yarn 74 = .ok (.aload_n 0, 1) := by decide +kernel
theorem dX6_yarn_75 : decode cX6_yarn 75 = .ok (.invokevirtual 107, 3) := by decide +kernel
theorem dX6_yarn_78 : decode cX6_yarn 78 = .ok (.aload_n 0, 1) := by decide +kernel
theorem dX6_yarn_79 : decode cX6_yarn 79 = .ok (.getfield 7, 3) := by decide +kernel
theorem dX6_yarn_82 : decode cX6_yarn 82 = .ok (.iload_n 1, 1) := by decide +kernel
theorem dX6_yarn_83 : decode cX6_yarn 83 = .ok (.bipush 8, 2) := by decide +kernel
theorem dX6_yarn_85 : decode cX6_yarn 85 = .ok (.iload_n 2, 1) := by decide +kernel
theorem dX6_yarn_86 : decode cX6_yarn 86 = .ok (.iadd, 1) := by decide +kernel
theorem dX6_yarn_87 : decode cX6_yarn 87 = .ok (.iload_n 3, 1) := by decide +kernel
theorem dX6_yarn_88 : decode cX6_yarn 88 = .ok (.invokestatic 66, 3) := by decide +kernel
theorem dX6_yarn_91 : decode cX6_yarn 91 = .ok (.aload_n 0, 1) := by decide +kernel
theorem dX6_yarn_92 : decode cX6_yarn 92 = .ok (.getfield 7, 3) := by decide +kernel
theorem dX6_yarn_95 : decode cX6_yarn 95 = .ok (.iload_n 1, 1) := by decide +kernel
theorem dX6_yarn_96 : decode cX6_yarn 96 = .ok (.bipush 8, 2) := by decide +kernel
theorem dX6_yarn_98 : decode cX6_yarn 98 = .ok (.iload_n 2, 1) := by decide +kernel
theorem dX6_yarn_99 : decode cX6_yarn 99 = .ok (.iadd, 1) := by decide +kernel
theorem dX6_yarn_100 : decode cX6_yarn 100 = .ok (.invokestatic 47, 3) := by decide +kernel
theorem dX6_yarn_103 : decode cX6_yarn 103 = .ok (.ireturn, 1) := by decide +kernel
theorem dX6_store_0 : decode cX6_store 0 = .ok (.aload_n 0, 1) := by decide +kernel
theorem dX6_store_1 : decode cX6_store 1 = .ok (.iconst 0, 1) := by decide +kernel
theorem dX6_store_2 : decode cX6_store 2 = .ok (.putfield 28, 3) := by decide +kernel
theorem dX6_store_5 : decode cX6_store 5 = .ok (.iload_n 1, 1) := by decide +kernel
theorem dX6_store_6 : decode cX6_store 6 = .ok (.invokestatic 110, 3) := by decide +kernel
theorem dX6_store_9 : decode cX6_store 9 = .ok (.ifCond .ne 9, 3) := by decide +kernel
theorem dX6_store_12 : decode cX6_store 12 = .ok (.aload_n 0, 1) := by decide +kernel
theorem dX6_store_13 : decode cX6_store 13 = .ok (.iconst 1, 1) := by decide +kernel
theorem dX6_store_14 : decode cX6_store 14 = .ok (.invokevirtual 39, 3) := by decide +kernel
theorem dX6_store_17 : decode cX6_store 17 = .ok (.ireturn, 1) := by decide +kernel
theorem dX6_store_18 : decode cX6_store 18 = .ok (.iload_n 2, 1) := by decide +kernel
theorem dX6_store_19 : decode cX6_store 19 = .ok (.iconst 1, 1) := by decide +kernel
theorem dX6_store_20 : decode cX6_store 20 = .ok (.sipush 9999, 3) := by decide +kernel
theorem dX6_store_23 : decode cX6_store 23 = .ok (.invokestatic 32, 3) := by decide +kernel
theorem dX6_store_26 : decode cX6_store 26 = .ok (.ifCond .ne 9, 3) := by decide +kernel
theorem dX6_store_29 : decode cX6_store 29 = .ok (.aload_n 0, 1) := by decide +kernel
theorem dX6_store_30 : decode cX6_store 30 = .ok (.iconst 2, 1) := by decide +kernel
theorem dX6_store_31 : decode cX6_store 31 = .ok (.invokevirtual 39, 3) := by decide +kernel
theorem dX6_store_34 : decode cX6_store 34 = .ok (.ireturn, 1) := by decide +kernel
theorem dX6_store_35 : decode cX6_store 35 = .ok (.aload_n 0, 1) := by decide +kernel
theorem dX6_store_36 : decode cX6_store 36 = .ok (.getfield 7, 3) := by decide +kernel
theorem dX6_store_39 : decode cX6_store 39 = .ok (.bipush 14, 2) := by decide +kernel
theorem dX6_store_41 : decode cX6_store 41 = .ok (.iload_n 1, 1) := by decide +kernel
theorem dX6_store_42 : decode cX6_store 42 = .ok (.iadd, 1) := by decide +kernel
theorem dX6_store_43 : decode cX6_store 43 = .ok (.iaload, 1) := by decide +kernel
theorem dX6_store_44 : decode cX6_store 44 = .ok (.iload_n 2, 1) := by decide +kernel
theorem dX6_store_45 : decode cX6_store 45 = .ok (.iadd, 1) := by decide +kernel
theorem dX6_store_46 : decode cX6_store 46 = .ok (.ldc 113, 2) := by decide +kernel
theorem dX6_store_48 : decode cX6_store 48 = .ok (.if_icmp .le 9, 3) := by decide +kernel
theorem dX6_store_51 : decode cX6_store 51 = .ok (.aload_n 0, 1) := by decide +kernel
theorem dX6_store_52 : decode cX6_store 52 = .ok (.iconst 3, 1) := by decide +kernel
theorem dX6_store_53 : decode cX6_store 53 = .ok (.invokevirtual 39, 3) := by decide +kernel
theorem dX6_store_56 : decode cX6_store 56 = .ok (.ireturn, 1) := by decide +kernel
theorem dX6_store_57 : decode cX6_store 57 = .ok (.aload_n 0, 1) := by decide +kernel
theorem dX6_store_58 : decode cX6_store 58 = .ok (.invokevirtual 107, 3) := by decide +kernel
theorem dX6_store_61 : decode cX6_store 61 = .ok (.aload_n 0, 1) := by decide +kernel
theorem dX6_store_62 : decode cX6_store 62 = .ok (.getfield 7, 3) := by decide +kernel
theorem dX6_store_65 : decode cX6_store 65 = .ok (.bipush 14, 2) := by decide +kernel
theorem dX6_store_67 : decode cX6_store 67 = .ok (.iload_n 1, 1) := by decide +kernel
theorem dX6_store_68 : decode cX6_store 68 = .ok (.iadd, 1) := by decide +kernel
theorem dX6_store_69 : decode cX6_store 69 = .ok (.dup2, 1) := by decide +kernel
theorem dX6_store_70 : decode cX6_store 70 = .ok (.iaload, 1) := by decide +kernel
theorem dX6_store_71 : decode cX6_store 71 = .ok (.iload_n 2, 1) := by decide +kernel
theorem dX6_store_72 : decode cX6_store 72 = .ok (.iadd, 1) := by decide +kernel
theorem dX6_store_73 : decode cX6_store 73 = .ok (.iastore, 1) := by decide +kernel
theorem dX6_store_74 : decode cX6_store 74 = .ok (.aload_n 0, 1) := by decide +kernel
theorem dX6_store_75 : decode cX6_store 75 = .ok (.getfield 7, 3) := by decide +kernel
theorem dX6_store_78 : decode cX6_store 78 = .ok (.bipush 14, 2) := by decide +kernel
theorem dX6_store_80 : decode cX6_store 80 = .ok (.iload_n 1, 1) := by decide +kernel
theorem dX6_store_81 : decode cX6_store 81 = .ok (.iadd, 1) := by decide +kernel
theorem dX6_store_82 : decode cX6_store 82 = .ok (.iaload, 1) := by decide +kernel
theorem dX6_store_83 : decode cX6_store 83 = .ok (.ireturn, 1) := by decide +kernel
theorem dX6_give_0 : decode cX6_give 0 = .ok (.aload_n 0, 1) := by decide +kernel
theorem dX6_give_1 : decode cX6_give 1 = .ok (.iconst 0, 1) := by decide +kernel
theorem dX6_give_2 : decode cX6_give 2 = .ok (.putfield 28, 3) := by decide +kernel
theorem dX6_give_5 : decode cX6_give 5 = .ok (.iload_n 1, 1) := by decide +kernel
theorem dX6_give_6 : decode cX6_give 6 = .ok (.invokestatic 103, 3) := by decide +kernel
theorem dX6_give_9 : decode cX6_give 9 = .ok (.ifCond .eq 17, 3) := by decide +kernel
theorem dX6_give_12 : decode cX6_give 12 = .ok (.iload_n 2, 1) := by decide +kernel
theorem dX6_give_13 : decode cX6_give 13 = .ok (.invokestatic 103, 3) := by decide +kernel
theorem dX6_give_16 : decode cX6_give 16 = .ok (.ifCond .eq 10, 3) := by decide +kernel
theorem dX6_give_19 : decode cX6_give 19 = .ok (.iload_n 3, 1) := by decide +kernel
theorem dX6_give_20 : decode cX6_give 20 = .ok (.invokestatic 110, 3) := by decide +kernel
theorem dX6_give_23 : decode cX6_give 23 = .ok (.ifCond .ne 9, 3) := by decide +kernel
theorem dX6_give_26 : decode cX6_give 26 = .ok (.aload_n 0, 1) := by decide +kernel
theorem dX6_give_27 : decode cX6_give 27 = .ok (.iconst 1, 1) := by decide +kernel
theorem dX6_give_28 : decode cX6_give 28 = .ok (.invokevirtual 39, 3) := by decide +kernel
theorem dX6_give_31 : decode cX6_give 31 = .ok (.ireturn, 1) := by decide +kernel
theorem dX6_give_32 : decode cX6_give 32 = .ok (.iload_n 1, 1) := by decide +kernel
theorem dX6_give_33 : decode cX6_give 33 = .ok (.iload_n 2, 1) := by decide +kernel
theorem dX6_give_34 : decode cX6_give 34 = .ok (.if_icmp .eq 15, 3) := by decide +kernel
theorem dX6_give_37 : decode cX6_give 37 = .ok (.iload 4, 2) := by decide +kernel
theorem dX6_give_39 : decode cX6_give 39 = .ok (.iconst 1, 1) := by decide +kernel
theorem dX6_give_40 : decode cX6_give 40 = .ok (.sipush 9999, 3) := by decide +kernel
theorem dX6_give_43 : decode cX6_give 43 = .ok (.invokestatic 32, 3) := by decide +kernel
theorem dX6_give_46 : decode cX6_give 46 = .ok (.ifCond .ne 9, 3) := by decide +kernel
theorem dX6_give_49 : decode cX6_give 49 = .ok (.aload_n 0, 1) := by decide +kernel
theorem dX6_give_50 : decode cX6_give 50 = .ok (.iconst 2, 1) := by decide +kernel
theorem dX6_give_51 : decode cX6_give 51 = .ok (.invokevirtual 39, 3) := by decide +kernel
theorem dX6_give_54 : decode cX6_give 54 = .ok (.ireturn, 1) := by decide +kernel
theorem dX6_give_55 : decode cX6_give 55 = .ok (.aload_n 0, 1) := by decide +kernel
theorem dX6_give_56 : decode cX6_give 56 = .ok (.getfield 7, 3) := by decide +kernel
theorem dX6_give_59 : decode cX6_give 59 = .ok (.iload_n 1, 1) := by decide +kernel
theorem dX6_give_60 : decode cX6_give 60 = .ok (.bipush 8, 2) := by decide +kernel
theorem dX6_give_62 : decode cX6_give 62 = .ok (.iload_n 3, 1) := by decide +kernel
theorem dX6_give_63 : decode cX6_give 63 = .ok (.iadd, 1) := by decide +kernel
theorem dX6_give_64 : decode cX6_give 64 = .ok (.invokestatic 47, 3) := by decide +kernel
theorem dX6_give_67 : decode cX6_give 67 = .ok (.iload 4, 2) := by decide +kernel
theorem dX6_give_69 : decode cX6_give 69 = .ok (.if_icmp .lt 24, 3) := by decide +kernel
theorem dX6_give_72 : decode cX6_give 72 = .ok (.aload_n 0, 1) := by decide +kernel
theorem dX6_give_73 : decode cX6_give 73 = .ok (.getfield 7, 3) := by decide +kernel
theorem dX6_give_76 : decode cX6_give 76 = .ok (.iload_n 2, 1) := by decide +kernel
theorem dX6_give_77 : decode cX6_give 77 = .ok (.bipush 8, 2) := by decide +kernel
theorem dX6_give_79 : decode cX6_give 79 = .ok (.iload_n 3, 1) := by decide +kernel
theorem dX6_give_80 : decode cX6_give 80 = .ok (.iadd, 1) := by decide +kernel
theorem dX6_give_81 : decode cX6_give 81 = .ok (.invokestatic 47, 3) := by decide +kernel
theorem dX6_give_84 : decode cX6_give 84 = .ok (.iload 4, 2) := by decide +kernel
theorem dX6_give_86 : decode cX6_give 86 = .ok (.iadd, 1) := by decide +kernel
theorem dX6_give_87 : decode cX6_give 87 = .ok (.sipush 9999, 3) := by decide +kernel
theorem dX6_give_90 : decode cX6_give 90 = .ok (.if_icmp .le 9, 3) := by decide +kernel
theorem dX6_give_93 : decode cX6_give 93 = .ok (.aload_n 0, 1) := by decide +kernel
theorem dX6_give_94 : decode cX6_give 94 = .ok (.iconst 3, 1) := by decide +kernel
theorem dX6_give_95 : decode cX6_give 95 = .ok (.invokevirtual 39, 3) := by decide +kernel
theorem dX6_give_98 : decode cX6_give 98 = .ok (.ireturn, 1) := by decide +kernel
theorem dX6_give_99 : decode cX6_give 99 = .ok (.aload_n 0, 1) := by decide +kernel
theorem dX6_give_100 : decode cX6_give 100 = .ok (.invokevirtual 107, 3) := by decide +kernel
theorem dX6_give_103 : decode cX6_give 103 = .ok (.aload_n 0, 1) := by decide +kernel
theorem dX6_give_104 : decode cX6_give 104 = .ok (.getfield 7, 3) := by decide +kernel
theorem dX6_give_107 : decode cX6_give 107 = .ok (.iload_n 1, 1) := by decide +kernel
theorem dX6_give_108 : decode cX6_give 108 = .ok (.bipush 8, 2) := by decide +kernel
theorem dX6_give_110 : decode cX6_give 110 = .ok (.iload_n 3, 1) := by decide +kernel
theorem dX6_give_111 : decode cX6_give 111 = .ok (.iadd, 1) := by decide +kernel
theorem dX6_give_112 : decode cX6_give 112 = .ok (.iload 4, 2) := by decide +kernel
theorem dX6_give_114 : decode cX6_give 114 = .ok (.ineg, 1) := by decide +kernel
theorem dX6_give_115 : decode cX6_give 115 = .ok (.invokestatic 66, 3) := by decide +kernel
theorem dX6_give_118 : decode cX6_give 118 = .ok (.aload_n 0, 1) := by decide +kernel
theorem dX6_give_119 : decode cX6_give 119 = .ok (.getfield 7, 3) := by decide +kernel
theorem dX6_give_122 : decode cX6_give 122 = .ok (.iload_n 2, 1) := by decide +kernel
theorem dX6_give_123 : decode cX6_give 123 = .ok (.bipush 8, 2) := by decide +kernel
theorem dX6_give_125 : decode cX6_give 125 = .ok (.iload_n 3, 1) := by decide +kernel
theorem dX6_give_126 : decode cX6_give 126 = .ok (.iadd, 1) := by decide +kernel
theorem dX6_give_127 : decode cX6_give 127 = .ok (.iload 4, 2) := by decide +kernel
theorem dX6_give_129 : decode cX6_give 129 = .ok (.invokestatic 66, 3) := by decide +kernel
theorem dX6_give_132 : decode cX6_give 132 = .ok (.aload_n 0, 1) := by decide +kernel
theorem dX6_give_133 : decode cX6_give 133 = .ok (.getfield 7, 3) := by decide +kernel
theorem dX6_give_136 : decode cX6_give 136 = .ok (.iload_n 2, 1) := by decide +kernel
theorem dX6_give_137 : decode cX6_give 137 = .ok (.bipush 8, 2) := by decide +kernel
theorem dX6_give_139 : decode cX6_give 139 = .ok (.iload_n 3, 1) := by decide +kernel
theorem dX6_give_140 : decode cX6_give 140 = .ok (.iadd, 1) := by decide +kernel
theorem dX6_give_141 : decode cX6_give 141 = .ok (.invokestatic 47, 3) := by decide +kernel
theorem dX6_give_144 : decode cX6_give 144 = .ok (.ireturn, 1) := by decide +kernel
theorem dX6_comes_0 : decode cX6_comes 0 = .ok (.aload_n 0, 1) := by decide +kernel
theorem dX6_comes_1 : decode cX6_comes 1 = .ok (.getfield 7, 3) := by decide +kernel
theorem dX6_comes_4 : decode cX6_comes 4 = .ok (.iconst 5, 1) := by decide +kernel
theorem dX6_comes_5 : decode cX6_comes 5 = .ok (.iaload, 1) := by decide +kernel
theorem dX6_comes_6 : decode cX6_comes 6 = .ok (.istore 6, 2) := by decide +kernel
theorem dX6_comes_8 : decode cX6_comes 8 = .ok (.iload 6, 2) := by decide +kernel
theorem dX6_comes_10 : decode cX6_comes 10 = .ok (.ifCond .le 71, 3) := by decide +kernel
theorem dX6_comes_13 : decode cX6_comes 13 = .ok (.aload_n 0, 1) := by decide +kernel
theorem dX6_comes_14 : decode cX6_comes 14 = .ok (.getfield 7, 3) := by decide +kernel
theorem dX6_comes_17 : decode cX6_comes 17 = .ok (.iload 6, 2) := by decide +kernel
theorem dX6_comes_19 : decode cX6_comes 19 = .ok (.iconst 1, 1) := by decide +kernel
theorem dX6_comes_20 : decode cX6_comes 20 = .ok (.isub, 1) := by decide +kernel
theorem dX6_comes_21 : decode cX6_comes 21 = .ok (.iconst 5, 1) := by decide +kernel
theorem dX6_comes_22 : decode cX6_comes 22 = .ok (.invokestatic 43, 3) := by decide +kernel
theorem dX6_comes_25 : decode cX6_comes 25 = .ok (.iload 5, 2) := by decide +kernel
theorem dX6_comes_27 : decode cX6_comes 27 = .ok (.if_icmp .le 54, 3) := by decide +kernel
theorem dX6_comes_30 : decode cX6_comes 30 = .ok (.iconst 0, 1) := by decide +kernel
theorem dX6_comes_31 : decode cX6_comes 31 = .ok (.istore 7, 2) := by decide +kernel
theorem dX6_comes_33 : decode cX6_comes 33 = .ok (.iload 7, 2) := by decide +kernel
theorem dX6_comes_35 : decode cX6_comes 35 = .ok (.bipush 12, 2) := by decide +kernel
theorem dX6_comes_37 : decode cX6_comes 37 = .ok (.if_icmp .ge 38, 3) := by decide +kernel
theorem dX6_comes_40 : decode cX6_comes 40 = .ok (.aload_n 0, 1) := by decide +kernel
theorem dX6_comes_41 : decode cX6_comes 41 = .ok (.getfield 7, 3) := by decide +kernel
theorem dX6_comes_44 : decode cX6_comes 44 = .ok (.bipush 90, 2) := by decide +kernel
theorem dX6_comes_46 : decode cX6_comes 46 = .ok (.bipush 12, 2) := by decide +kernel
theorem dX6_comes_48 : decode cX6_comes 48 = .ok (.iload 6, 2) := by decide +kernel
theorem dX6_comes_50 : decode cX6_comes 50 = .ok (.imul, 1) := by decide +kernel
theorem dX6_comes_51 : decode cX6_comes 51 = .ok (.iadd, 1) := by decide +kernel
theorem dX6_comes_52 : decode cX6_comes 52 = .ok (.iload 7, 2) := by decide +kernel
theorem dX6_comes_54 : decode cX6_comes 54 = .ok (.iadd, 1) := by decide +kernel
theorem dX6_comes_55 : decode cX6_comes 55 = .ok (.aload_n 0, 1) := by decide +kernel
theorem dX6_comes_56 : decode cX6_comes 56 = .ok (.getfield 7, 3) := by decide +kernel
theorem dX6_comes_59 : decode cX6_comes 59 = .ok (.iload 6, 2) := by decide +kernel
theorem dX6_comes_61 : decode cX6_comes 61 = .ok (.iconst 1, 1) := by decide +kernel
theorem dX6_comes_62 : decode cX6_comes 62 = .ok (.isub, 1) := by decide +kernel
theorem dX6_comes_63 : decode cX6_comes 63 = .ok (.iload 7, 2) := by decide +kernel
theorem dX6_comes_65 : decode cX6_comes 65 = .ok (.invokestatic 43, 3) := by decide +kernel
theorem dX6_comes_68 : decode cX6_comes 68 = .ok (.iastore, 1) := by decide +kernel
theorem dX6_comes_69 : decode cX6_comes 69 = .ok (.iinc 7 1, 3) := by decide +kernel
theorem dX6_comes_72 : decode cX6_comes 72 = .ok (.goto (-39), 3) := by decide +kernel
theorem dX6_comes_75 : decode cX6_comes 75 = .ok (.iinc 6 (-1), 3) := by decide +kernel
theorem dX6_comes_78 : decode cX6_comes 78 = .ok (.goto (-70), 3) := by decide +kernel
theorem dX6_comes_81 : decode cX6_comes 81 = .ok (.bipush 90, 2) := by decide +kernel
theorem dX6_comes_83 : decode cX6_comes 83 = .ok (.bipush 12, 2) := by decide +kernel
theorem dX6_comes_85 : decode cX6_comes 85 = .ok (.iload 6, 2) := by decide +kernel
theorem dX6_comes_87 : decode cX6_comes 87 = .ok (.imul, 1) := by decide +kernel
theorem dX6_comes_88 : decode cX6_comes 88 = .ok (.iadd, 1) := by decide +kernel
theorem dX6_comes_89 : decode cX6_comes 89 = .ok (.istore 7, 2) := by decide +kernel
theorem dX6_comes_91 : decode cX6_comes 91 = .ok (.iconst 0, 1) := by decide +kernel
theorem dX6_comes_92 : decode cX6_comes 92 = .ok (.istore 8, 2) := by decide +kernel
theorem dX6_comes_94 : decode cX6_comes 94 = .ok (.iload 8, 2) := by decide +kernel
theorem dX6_comes_96 : decode cX6_comes 96 = .ok (.bipush 12, 2) := by decide +kernel
theorem dX6_comes_98 : decode cX6_comes 98 = .ok (.if_icmp .ge 20, 3) := by decide +kernel
theorem dX6_comes_101 : decode cX6_comes 101 = .ok (.aload_n 0, 1) := by decide +kernel
theorem dX6_comes_102 : decode cX6_comes 102 = .ok (.getfield 7, 3) := by decide +kernel
theorem dX6_comes_105 : decode cX6_comes 105 = .ok (.iload 7, 2) := by decide +kernel
theorem dX6_comes_107 : decode cX6_comes 107 = .ok (.iload 8, 2) := by decide +kernel
theorem dX6_comes_109 : decode cX6_comes 109 = .ok (.iadd, 1) := by decide +kernel
theorem dX6_comes_110 : decode cX6_comes 110 = .ok (.iconst 0, 1) := by decide +kernel
theorem dX6_comes_111 : decode cX6_comes 111 = .ok (.iastore, 1) := by decide +kernel
theorem dX6_comes_112 : decode cX6_comes 112 = .ok (.iinc 8 1, 3) := by decide +kernel
theorem dX6_comes_115 : decode cX6_comes 115 = .ok (.goto (-21), 3) := by decide +kernel
theorem dX6_comes_118 : decode cX6_comes 118 = .ok (.aload_n 0, 1) := by decide +kernel
theorem dX6_comes_119 : decode cX6_comes 119 = .ok (.getfield 7, 3) := by decide +kernel
theorem dX6_comes_122 : decode cX6_comes 122 = .ok (.iload 7, 2) := by decide +kernel
theorem dX6_comes_124 : decode cX6_comes 124 = .ok (.iconst 0, 1) := by decide +kernel
theorem dX6_comes_125 : decode cX6_comes 125 = .ok (.iadd, 1) := by decide +kernel
theorem dX6_comes_126 : decode cX6_comes 126 = .ok (.aload_n 0, 1) := by decide +kernel
theorem dX6_comes_127 : decode cX6_comes 127 = .ok (.getfield 7, 3) := by decide +kernel
theorem dX6_comes_130 : decode cX6_comes 130 = .ok (.bipush 6, 2) := by decide +kernel
theorem dX6_comes_132 : decode cX6_comes 132 = .ok (.iaload, 1) := by decide +kernel
theorem dX6_comes_133 : decode cX6_comes 133 = .ok (.iastore, 1) := by decide +kernel
theorem dX6_comes_134 : decode cX6_comes 134 = .ok (.aload_n 0, 1) := by decide +kernel
theorem dX6_comes_135 : decode cX6_comes 135 = .ok (.getfield 7, 3) := by decide +kernel
theorem dX6_comes_138 : decode cX6_comes 138 = .ok (.iload 7, 2) := by decide +kernel
theorem dX6_comes_140 : decode cX6_comes 140 = .ok (.iconst 1, 1) := by decide +kernel
theorem dX6_comes_141 : decode cX6_comes 141 = .ok (.iadd, 1) := by decide +kernel
theorem dX6_comes_142 : decode cX6_comes 142 = .ok (.iload_n 1, 1) := by decide +kernel
theorem dX6_comes_143 : decode cX6_comes 143 = .ok (.iastore, 1) := by decide +kernel
theorem dX6_comes_144 : decode cX6_comes 144 = .ok (.aload_n 0, 1) := by decide +kernel
theorem dX6_comes_145 : decode cX6_comes 145 = .ok (.getfield 7, 3) := by decide +kernel
theorem dX6_comes_148 : decode cX6_comes 148 = .ok (.iload 7, 2) := by decide +kernel
theorem dX6_comes_150 : decode cX6_comes 150 = .ok (.iconst 2, 1) := by decide +kernel
theorem dX6_comes_151 : decode cX6_comes 151 = .ok (.iadd, 1) := by decide +kernel
theorem dX6_comes_152 : decode cX6_comes 152 = .ok (.iload_n 2, 1) := by decide +kernel
theorem dX6_comes_153 : decode cX6_comes 153 = .ok (.iastore, 1) := by decide +kernel
theorem dX6_comes_154 : decode cX6_comes 154 = .ok (.aload_n 0, 1) := by decide +kernel
theorem dX6_comes_155 : decode cX6_comes 155 = .ok (.getfield 7, 3) := by decide +kernel
theorem dX6_comes_158 : decode cX6_comes 158 = .ok (.iload 7, 2) := by decide +kernel
theorem dX6_comes_160 : decode cX6_comes 160 = .ok (.iconst 3, 1) := by decide +kernel
theorem dX6_comes_161 : decode cX6_comes 161 = .ok (.iadd, 1) := by decide +kernel
theorem dX6_comes_162 : decode cX6_comes 162 = .ok (.iload_n 3, 1) := by decide +kernel
theorem dX6_comes_163 : decode cX6_comes 163 = .ok (.iastore, 1) := by decide +kernel
theorem dX6_comes_164 : decode cX6_comes 164 = .ok (.aload_n 0, 1) := by decide +kernel
theorem dX6_comes_165 : decode cX6_comes 165 = .ok (.getfield 7, 3) := by decide +kernel
theorem dX6_comes_168 : decode cX6_comes 168 = .ok (.iload 7, 2) := by decide +kernel
theorem dX6_comes_170 : decode cX6_comes 170 = .ok (.iconst 4, 1) := by decide +kernel
theorem dX6_comes_171 : decode cX6_comes 171 = .ok (.iadd, 1) := by decide +kernel
theorem dX6_comes_172 : decode cX6_comes 172 = .ok (.iload 4, 2) := by decide +kernel
theorem dX6_comes_174 : decode cX6_comes 174 = .ok (.iastore, 1) := by decide +kernel
theorem dX6_comes_175 : decode cX6_comes 175 = .ok (.aload_n 0, 1) := by decide +kernel
theorem dX6_comes_176 : decode cX6_comes 176 = .ok (.getfield 7, 3) := by decide +kernel
theorem dX6_comes_179 : decode cX6_comes 179 = .ok (.iload 7, 2) := by decide +kernel
theorem dX6_comes_181 : decode cX6_comes 181 = .ok (.iconst 5, 1) := by decide +kernel
theorem dX6_comes_182 : decode cX6_comes 182 = .ok (.iadd, 1) := by decide +kernel
theorem dX6_comes_183 : decode cX6_comes 183 = .ok (.iload 5, 2) := by decide +kernel
theorem dX6_comes_185 : decode cX6_comes 185 = .ok (.iastore, 1) := by decide +kernel
theorem dX6_comes_186 : decode cX6_comes 186 = .ok (.aload_n 0, 1) := by decide +kernel
theorem dX6_comes_187 : decode cX6_comes 187 = .ok (.getfield 7, 3) := by decide +kernel
theorem dX6_comes_190 : decode cX6_comes 190 = .ok (.iconst 5, 1) := by decide +kernel
theorem dX6_comes_191 : decode cX6_comes 191 = .ok (.dup2, 1) := by decide +kernel
theorem dX6_comes_192 : decode cX6_comes 192 = .ok (.iaload, 1) := by decide +kernel
theorem dX6_comes_193 : decode cX6_comes 193 = .ok (.iconst 1, 1) := by decide +kernel
theorem dX6_comes_194 : decode cX6_comes 194 = .ok (.iadd, 1) := by decide +kernel
theorem dX6_comes_195 : decode cX6_comes 195 = .ok (.iastore, 1) := by decide +kernel
theorem dX6_comes_196 : decode cX6_comes 196 = .ok (.aload_n 0, 1) := by decide +kernel
theorem dX6_comes_197 : decode cX6_comes 197 = .ok (.getfield 7, 3) := by decide +kernel
theorem dX6_comes_200 : decode cX6_comes 200 = .ok (.bipush 6, 2) := by decide +kernel
theorem dX6_comes_202 : decode cX6_comes 202 = .ok (.dup2, 1) := by decide +kernel
theorem dX6_comes_203 : decode cX6_comes 203 = .ok (.iaload, 1) := by decide +kernel
theorem dX6_comes_204 : decode cX6_comes 204 = .ok (.iconst 1, 1) := by decide +kernel
theorem dX6_comes_205 : decode cX6_comes 205 = .ok (.iadd, 1) := by decide +kernel
theorem dX6_comes_206 : decode cX6_comes 206 = .ok (.iastore, 1) := by decide +kernel
theorem dX6_comes_207 : decode cX6_comes 207 = .ok (.aload_n 0, 1) := by decide +kernel
theorem dX6_comes_208 : decode cX6_comes 208 = .ok (.getfield 7, 3) := by decide +kernel
theorem dX6_comes_211 : decode cX6_comes 211 = .ok (.bipush 6, 2) := by decide +kernel
theorem dX6_comes_213 : decode cX6_comes 213 = .ok (.iaload, 1) := by decide +kernel
theorem dX6_comes_214 : decode cX6_comes 214 = .ok (.iconst 1, 1) := by decide +kernel
theorem dX6_comes_215 : decode cX6_comes 215 = .ok (.isub, 1) := by decide +kernel
theorem dX6_comes_216 : decode cX6_comes 216 = .ok (.ireturn, 1) := by decide +kernel
theorem dX6_order_0 : decode cX6_order 0 = .ok (.aload_n 0, 1) := by decide +kernel
theorem dX6_order_1 : decode cX6_order 1 = .ok (.iconst 0, 1) := by decide +kernel
theorem dX6_order_2 : decode cX6_order 2 = .ok (.putfield 28, 3) := by decide +kernel
theorem dX6_order_5 : decode cX6_order 5 = .ok (.iload_n 1, 1) := by decide +kernel
theorem dX6_order_6 : decode cX6_order 6 = .ok (.invokestatic 110, 3) := by decide +kernel
theorem dX6_order_9 : decode cX6_order 9 = .ok (.ifCond .ne 9, 3) := by decide +kernel
theorem dX6_order_12 : decode cX6_order 12 = .ok (.aload_n 0, 1) := by decide +kernel
theorem dX6_order_13 : decode cX6_order 13 = .ok (.iconst 1, 1) := by decide +kernel
theorem dX6_order_14 : decode cX6_order 14 = .ok (.invokevirtual 39, 3) := by decide +kernel
theorem dX6_order_17 : decode cX6_order 17 = .ok (.ireturn, 1) := by decide +kernel
theorem dX6_order_18 : decode cX6_order 18 = .ok (.iload_n 2, 1) := by decide +kernel
theorem dX6_order_19 : decode cX6_order 19 = .ok (.bipush 40, 2) := by decide +kernel
theorem dX6_order_21 : decode cX6_order 21 = .ok (.sipush 200, 3) := by decide +kernel
theorem dX6_order_24 : decode cX6_order 24 = .ok (.invokestatic 32, 3) := by decide +kernel
theorem dX6_order_27 : decode cX6_order 27 = .ok (.ifCond .eq 37, 3) := by decide +kernel
theorem dX6_order_30 : decode cX6_order 30 = .ok (.iload_n 3, 1) := by decide +kernel
theorem dX6_order_31 : decode cX6_order 31 = .ok (.iconst 1, 1) := by decide +kernel
theorem dX6_order_32 : decode cX6_order 32 = .ok (.sipush 200, 3) := by decide +kernel
theorem dX6_order_35 : decode cX6_order 35 = .ok (.invokestatic 32, 3) := by decide +kernel
theorem dX6_order_38 : decode cX6_order 38 = .ok (.ifCond .eq 26, 3) := by decide +kernel
theorem dX6_order_41 : decode cX6_order 41 = .ok (.iload 4, 2) := by decide +kernel
theorem dX6_order_43 : decode cX6_order 43 = .ok (.iconst 1, 1) := by decide +kernel
theorem dX6_order_44 : decode cX6_order 44 = .ok (.bipush 99, 2) := by decide +kernel
theorem dX6_order_46 : decode cX6_order 46 = .ok (.invokestatic 32, 3) := by decide +kernel
theorem dX6_order_49 : decode cX6_order 49 = .ok (.ifCond .eq 15, 3) := by decide +kernel
theorem dX6_order_52 : decode cX6_order 52 = .ok (.iload 5, 2) := by decide +kernel
theorem dX6_order_54 : decode cX6_order 54 = .ok (.iconst 0, 1) := by decide +kernel
theorem dX6_order_55 : decode cX6_order 55 = .ok (.sipush 9999, 3) := by decide +kernel
theorem dX6_order_58 : decode cX6_order 58 = .ok (.invokestatic 32, 3) := by decide +kernel
theorem dX6_order_61 : decode cX6_order 61 = .ok (.ifCond .ne 9, 3) := by decide +kernel
theorem dX6_order_64 : decode cX6_order 64 = .ok (.aload_n 0, 1) := by decide +kernel
theorem dX6_order_65 : decode cX6_order 65 = .ok (.iconst 2, 1) := by decide +kernel
theorem dX6_order_66 : decode cX6_order 66 = .ok (.invokevirtual 39, 3) := by decide +kernel
theorem dX6_order_69 : decode cX6_order 69 = .ok (.ireturn, 1) := by decide +kernel
theorem dX6_order_70 : decode cX6_order 70 = .ok (.aload_n 0, 1) := by decide +kernel
theorem dX6_order_71 : decode cX6_order 71 = .ok (.getfield 7, 3) := by decide +kernel
theorem dX6_order_74 : decode cX6_order 74 = .ok (.iconst 5, 1) := by decide +kernel
theorem dX6_order_75 : decode cX6_order 75 = .ok (.iaload, 1) := by decide +kernel
theorem dX6_order_76 : decode cX6_order 76 = .ok (.bipush 10, 2) := by decide +kernel
theorem dX6_order_78 : decode cX6_order 78 = .ok (.if_icmp .ne 9, 3) := by decide +kernel
theorem dX6_order_81 : decode cX6_order 81 = .ok (.aload_n 0, 1) := by decide +kernel
theorem dX6_order_82 : decode cX6_order 82 = .ok (.iconst 3, 1) := by decide +kernel
theorem dX6_order_83 : decode cX6_order 83 = .ok (.invokevirtual 39, 3) := by decide +kernel
theorem dX6_order_86 : decode cX6_order 86 = .ok (.ireturn, 1) := by decide +kernel
theorem dX6_order_87 : decode cX6_order 87 = .ok (.aload_n 0, 1) := by decide +kernel
theorem dX6_order_88 : decode cX6_order 88 = .ok (.invokevirtual 107, 3) := by decide +kernel
theorem dX6_order_91 : decode cX6_order 91 = .ok (.aload_n 0, 1) := by decide +kernel
theorem dX6_order_92 : decode cX6_order 92 = .ok (.iload_n 1, 1) := by decide +kernel
theorem dX6_order_93 : decode cX6_order 93 = .ok (.iload_n 2, 1) := by decide +kernel
theorem dX6_order_94 : decode cX6_order 94 = .ok (.iload_n 3, 1) := by decide +kernel
theorem dX6_order_95 : decode cX6_order 95 = .ok (.iload 4, 2) := by decide +kernel
theorem dX6_order_97 : decode cX6_order 97 = .ok (.iload 5, 2) := by decide +kernel
theorem dX6_order_99 : decode cX6_order 99 = .ok (.invokevirtual 114, 3) := by decide +kernel
theorem dX6_order_102 : decode cX6_order 102 = .ok (.ireturn, 1) := by decide +kernel
theorem dX6_cancel_0 : decode cX6_cancel 0 = .ok (.aload_n 0, 1) := by decide +kernel
theorem dX6_cancel_1 : decode cX6_cancel 1 = .ok (.iconst 0, 1) := by decide +kernel
theorem dX6_cancel_2 : decode cX6_cancel 2 = .ok (.putfield 28, 3) := by decide +kernel
theorem dX6_cancel_5 : decode cX6_cancel 5 = .ok (.aload_n 0, 1) := by decide +kernel
theorem dX6_cancel_6 : decode cX6_cancel 6 = .ok (.getfield 7, 3) := by decide +kernel
theorem dX6_cancel_9 : decode cX6_cancel 9 = .ok (.iload_n 1, 1) := by decide +kernel
theorem dX6_cancel_10 : decode cX6_cancel 10 = .ok (.invokestatic 118, 3) := by decide +kernel
theorem dX6_cancel_13 : decode cX6_cancel 13 = .ok (.istore_n 2, 1) := by decide +kernel
theorem dX6_cancel_14 : decode cX6_cancel 14 = .ok (.iload_n 2, 1) := by decide +kernel
theorem dX6_cancel_15 : decode cX6_cancel 15 = .ok (.iconst (-1), 1) := by decide +kernel
theorem dX6_cancel_16 : decode cX6_cancel 16 = .ok (.if_icmp .ne 9, 3) := by decide +kernel
theorem dX6_cancel_19 : decode cX6_cancel 19 = .ok (.aload_n 0, 1) := by decide +kernel
theorem dX6_cancel_20 : decode cX6_cancel 20 = .ok (.iconst 1, 1) := by decide +kernel
theorem dX6_cancel_21 : decode cX6_cancel 21 = .ok (.invokevirtual 39, 3) := by decide +kernel
theorem dX6_cancel_24 : decode cX6_cancel 24 = .ok (.ireturn, 1) := by decide +kernel
theorem dX6_cancel_25 : decode cX6_cancel 25 = .ok (.aload_n 0, 1) := by decide +kernel
theorem dX6_cancel_26 : decode cX6_cancel 26 = .ok (.invokevirtual 107, 3) := by decide +kernel
theorem dX6_cancel_29 : decode cX6_cancel 29 = .ok (.aload_n 0, 1) := by decide +kernel
theorem dX6_cancel_30 : decode cX6_cancel 30 = .ok (.getfield 7, 3) := by decide +kernel
theorem dX6_cancel_33 : decode cX6_cancel 33 = .ok (.iload_n 2, 1) := by decide +kernel
theorem dX6_cancel_34 : decode cX6_cancel 34 = .ok (.invokestatic 90, 3) := by decide +kernel
theorem dX6_cancel_37 : decode cX6_cancel 37 = .ok (.istore_n 3, 1) := by decide +kernel
theorem dX6_cancel_38 : decode cX6_cancel 38 = .ok (.aload_n 0, 1) := by decide +kernel
theorem dX6_cancel_39 : decode cX6_cancel 39 = .ok (.getfield 7, 3) := by decide +kernel
theorem dX6_cancel_42 : decode cX6_cancel 42 = .ok (.iload_n 2, 1) := by decide +kernel
theorem dX6_cancel_43 : decode cX6_cancel 43 = .ok (.invokestatic 69, 3) := by decide +kernel
theorem dX6_cancel_46 : decode cX6_cancel 46 = .ok (.iload_n 3, 1) := by decide +kernel
theorem dX6_cancel_47 : decode cX6_cancel 47 = .ok (.ireturn, 1) := by decide +kernel
theorem dX6_set_0 : decode cX6_set 0 = .ok (.aload_n 0, 1) := by decide +kernel
theorem dX6_set_1 : decode cX6_set 1 = .ok (.iconst 0, 1) := by decide +kernel
theorem dX6_set_2 : decode cX6_set 2 = .ok (.putfield 28, 3) := by decide +kernel
theorem dX6_set_5 : decode cX6_set 5 = .ok (.iload_n 1, 1) := by decide +kernel
theorem dX6_set_6 : decode cX6_set 6 = .ok (.iconst 0, 1) := by decide +kernel
theorem dX6_set_7 : decode cX6_set 7 = .ok (.iconst 3, 1) := by decide +kernel
theorem dX6_set_8 : decode cX6_set 8 = .ok (.invokestatic 32, 3) := by decide +kernel
theorem dX6_set_11 : decode cX6_set 11 = .ok (.ifCond .ne 9, 3) := by decide +kernel
theorem dX6_set_14 : decode cX6_set 14 = .ok (.aload_n 0, 1) := by decide +kernel
theorem dX6_set_15 : decode cX6_set 15 = .ok (.iconst 1, 1) := by decide +kernel
theorem dX6_set_16 : decode cX6_set 16 = .ok (.invokevirtual 39, 3) := by decide +kernel
theorem dX6_set_19 : decode cX6_set 19 = .ok (.ireturn, 1) := by decide +kernel
theorem dX6_set_20 : decode cX6_set 20 = .ok (.iload_n 2, 1) := by decide +kernel
theorem dX6_set_21 : decode cX6_set 21 = .ok (.iconst 0, 1) := by decide +kernel
theorem dX6_set_22 : decode cX6_set 22 = .ok (.iload_n 1, 1) := by decide +kernel
theorem dX6_set_23 : decode cX6_set 23 = .ok (.ifCond .ne 7, 3) := by decide +kernel
theorem dX6_set_26 : decode cX6_set 26 = .ok (.iconst 2, 1) := by decide +kernel
theorem dX6_set_27 : decode cX6_set 27 = .ok (.goto 24, 3) := by decide +kernel
theorem dX6_set_30 : decode cX6_set 30 = .ok (.iload_n 1, 1) := by decide +kernel
theorem dX6_set_31 : decode cX6_set 31 = .ok (.iconst 1, 1) := by decide +kernel
theorem dX6_set_32 : decode cX6_set 32 = .ok (.if_icmp .ne 7, 3) := by decide +kernel
theorem dX6_set_35 : decode cX6_set 35 = .ok (.iconst 1, 1) := by decide +kernel
theorem dX6_set_36 : decode cX6_set 36 = .ok (.goto 15, 3) := by decide +kernel
theorem dX6_set_39 : decode cX6_set 39 = .ok (.iload_n 1, 1) := by decide +kernel
theorem dX6_set_40 : decode cX6_set 40 = .ok (.iconst 2, 1) := by decide +kernel
theorem dX6_set_41 : decode cX6_set 41 = .ok (.if_icmp .ne 8, 3) := by decide +kernel
theorem dX6_set_44 : decode cX6_set 44 = .ok (.bipush 50, 2) := by decide +kernel
theorem dX6_set_46 : decode cX6_set 46 = .ok (.goto 5, 3) := by decide +kernel
theorem dX6_set_49 : decode cX6_set 49 = .ok (.bipush 9, 2) := by decide +kernel
theorem dX6_set_51 : decode cX6_set 51 = .ok (.invokestatic 32, 3) := by decide +kernel
theorem dX6_set_54 : decode cX6_set 54 = .ok (.ifCond .ne 9, 3) := by decide +kernel
theorem dX6_set_57 : decode cX6_set 57 = .ok (.aload_n 0, 1) := by decide +kernel
theorem dX6_set_58 : decode cX6_set 58 = .ok (.iconst 2, 1) := by decide +kernel
theorem dX6_set_59 : decode cX6_set 59 = .ok (.invokevirtual 39, 3) := by decide +kernel
theorem dX6_set_62 : decode cX6_set 62 = .ok (.ireturn, 1) := by decide +kernel
theorem dX6_set_63 : decode cX6_set 63 = .ok (.aload_n 0, 1) := by decide +kernel
theorem dX6_set_64 : decode cX6_set 64 = .ok (.invokevirtual 107, 3) := by decide +kernel
theorem dX6_set_67 : decode cX6_set 67 = .ok (.aload_n 0, 1) := by decide +kernel
theorem dX6_set_68 : decode cX6_set 68 = .ok (.getfield 7, 3) := by decide +kernel
theorem dX6_set_71 : decode cX6_set 71 = .ok (.iload_n 1, 1) := by decide +kernel
theorem dX6_set_72 : decode cX6_set 72 = .ok (.iaload, 1) := by decide +kernel
theorem dX6_set_73 : decode cX6_set 73 = .ok (.istore_n 3, 1) := by decide +kernel
theorem dX6_set_74 : decode cX6_set 74 = .ok (.aload_n 0, 1) := by decide +kernel
theorem dX6_set_75 : decode cX6_set 75 = .ok (.getfield 7, 3) := by decide +kernel
theorem dX6_set_78 : decode cX6_set 78 = .ok (.iload_n 1, 1) := by decide +kernel
theorem dX6_set_79 : decode cX6_set 79 = .ok (.iload_n 2, 1) := by decide +kernel
theorem dX6_set_80 : decode cX6_set 80 = .ok (.iastore, 1) := by decide +kernel
theorem dX6_set_81 : decode cX6_set 81 = .ok (.iload_n 3, 1) := by decide +kernel
theorem dX6_set_82 : decode cX6_set 82 = .ok (.ireturn, 1) := by decide +kernel
theorem dX6_pass_0 : decode cX6_pass 0 = .ok (.aload_n 0, 1) := by decide +kernel
theorem dX6_pass_1 : decode cX6_pass 1 = .ok (.iconst 0, 1) := by decide +kernel
theorem dX6_pass_2 : decode cX6_pass 2 = .ok (.putfield 28, 3) := by decide +kernel
theorem dX6_pass_5 : decode cX6_pass 5 = .ok (.iload_n 1, 1) := by decide +kernel
theorem dX6_pass_6 : decode cX6_pass 6 = .ok (.iconst 1, 1) := by decide +kernel
theorem dX6_pass_7 : decode cX6_pass 7 = .ok (.bipush 99, 2) := by decide +kernel
theorem dX6_pass_9 : decode cX6_pass 9 = .ok (.invokestatic 32, 3) := by decide +kernel
theorem dX6_pass_12 : decode cX6_pass 12 = .ok (.ifCond .ne 9, 3) := by decide +kernel
theorem dX6_pass_15 : decode cX6_pass 15 = .ok (.aload_n 0, 1) := by decide +kernel
theorem dX6_pass_16 : decode cX6_pass 16 = .ok (.iconst 1, 1) := by decide +kernel
theorem dX6_pass_17 : decode cX6_pass 17 = .ok (.invokevirtual 39, 3) := by decide +kernel
theorem dX6_pass_20 : decode cX6_pass 20 = .ok (.ireturn, 1) := by decide +kernel
theorem dX6_pass_21 : decode cX6_pass 21 = .ok (.aload_n 0, 1) := by decide +kernel
theorem dX6_pass_22 : decode cX6_pass 22 = .ok (.getfield 7, 3) := by decide +kernel
theorem dX6_pass_25 : decode cX6_pass 25 = .ok (.iconst 4, 1) := by decide +kernel
theorem dX6_pass_26 : decode cX6_pass 26 = .ok (.iaload, 1) := by decide +kernel
theorem dX6_pass_27 : decode cX6_pass 27 = .ok (.iload_n 1, 1) := by decide +kernel
theorem dX6_pass_28 : decode cX6_pass 28 = .ok (.iadd, 1) := by decide +kernel
theorem dX6_pass_29 : decode cX6_pass 29 = .ok (.sipush 9999, 3) := by decide +kernel
theorem dX6_pass_32 : decode cX6_pass 32 = .ok (.if_icmp .le 9, 3) := by decide +kernel
theorem dX6_pass_35 : decode cX6_pass 35 = .ok (.aload_n 0, 1) := by decide +kernel
theorem dX6_pass_36 : decode cX6_pass 36 = .ok (.iconst 2, 1) := by decide +kernel
theorem dX6_pass_37 : decode cX6_pass 37 = .ok (.invokevirtual 39, 3) := by decide +kernel
theorem dX6_pass_40 : decode cX6_pass 40 = .ok (.ireturn, 1) := by decide +kernel
theorem dX6_pass_41 : decode cX6_pass 41 = .ok (.aload_n 0, 1) := by decide +kernel
theorem dX6_pass_42 : decode cX6_pass 42 = .ok (.invokevirtual 107, 3) := by decide +kernel
theorem dX6_pass_45 : decode cX6_pass 45 = .ok (.aload_n 0, 1) := by decide +kernel
theorem dX6_pass_46 : decode cX6_pass 46 = .ok (.getfield 7, 3) := by decide +kernel
theorem dX6_pass_49 : decode cX6_pass 49 = .ok (.bipush 7, 2) := by decide +kernel
theorem dX6_pass_51 : decode cX6_pass 51 = .ok (.iaload, 1) := by decide +kernel
theorem dX6_pass_52 : decode cX6_pass 52 = .ok (.istore_n 2, 1) := by decide +kernel
theorem dX6_pass_53 : decode cX6_pass 53 = .ok (.aload_n 0, 1) := by decide +kernel
theorem dX6_pass_54 : decode cX6_pass 54 = .ok (.aload_n 0, 1) := by decide +kernel
theorem dX6_pass_55 : decode cX6_pass 55 = .ok (.getfield 7, 3) := by decide +kernel
theorem dX6_pass_58 : decode cX6_pass 58 = .ok (.iload_n 1, 1) := by decide +kernel
theorem dX6_pass_59 : decode cX6_pass 59 = .ok (.invokevirtual 121, 3) := by decide +kernel
theorem dX6_pass_62 : decode cX6_pass 62 = .ok (.aload_n 0, 1) := by decide +kernel
theorem dX6_pass_63 : decode cX6_pass 63 = .ok (.getfield 7, 3) := by decide +kernel
theorem dX6_pass_66 : decode cX6_pass 66 = .ok (.bipush 7, 2) := by decide +kernel
theorem dX6_pass_68 : decode cX6_pass 68 = .ok (.iaload, 1) := by decide +kernel
theorem dX6_pass_69 : decode cX6_pass 69 = .ok (.iload_n 2, 1) := by decide +kernel
theorem dX6_pass_70 : decode cX6_pass 70 = .ok (.isub, 1) := by decide +kernel
theorem dX6_pass_71 : decode cX6_pass 71 = .ok (.ireturn, 1) := by decide +kernel
theorem dX6_append_0 : decode cX6_append 0 = .ok (.aload_n 0, 1) := by decide +kernel
theorem dX6_append_1 : decode cX6_append 1 = .ok (.iconst 0, 1) := by decide +kernel
theorem dX6_append_2 : decode cX6_append 2 = .ok (.putfield 28, 3) := by decide +kernel
theorem dX6_append_5 : decode cX6_append 5 = .ok (.iload_n 1, 1) := by decide +kernel
theorem dX6_append_6 : decode cX6_append 6 = .ok (.bipush 33, 2) := by decide +kernel
theorem dX6_append_8 : decode cX6_append 8 = .ok (.bipush 126, 2) := by decide +kernel
theorem dX6_append_10 : decode cX6_append 10 = .ok (.invokestatic 32, 3) := by decide +kernel
theorem dX6_append_13 : decode cX6_append 13 = .ok (.ifCond .ne 9, 3) := by decide +kernel
theorem dX6_append_16 : decode cX6_append 16 = .ok (.aload_n 0, 1) := by decide +kernel
theorem dX6_append_17 : decode cX6_append 17 = .ok (.iconst 1, 1) := by decide +kernel
theorem dX6_append_18 : decode cX6_append 18 = .ok (.invokevirtual 39, 3) := by decide +kernel
theorem dX6_append_21 : decode cX6_append 21 = .ok (.ireturn, 1) := by decide +kernel
theorem dX6_append_22 : decode cX6_append 22 = .ok (.aload_n 0, 1) := by decide +kernel
theorem dX6_append_23 : decode cX6_append 23 = .ok (.getfield 124, 3) := by decide +kernel
theorem dX6_append_26 : decode cX6_append 26 = .ok (.bipush 60, 2) := by decide +kernel
theorem dX6_append_28 : decode cX6_append 28 = .ok (.if_icmp .ne 9, 3) := by decide +kernel
theorem dX6_append_31 : decode cX6_append 31 = .ok (.aload_n 0, 1) := by decide +kernel
theorem dX6_append_32 : decode cX6_append 32 = .ok (.iconst 2, 1) := by decide +kernel
theorem dX6_append_33 : decode cX6_append 33 = .ok (.invokevirtual 39, 3) := by decide +kernel
theorem dX6_append_36 : decode cX6_append 36 = .ok (.ireturn, 1) := by decide +kernel
theorem dX6_append_37 : decode cX6_append 37 = .ok (.aload_n 0, 1) := by decide +kernel
theorem dX6_append_38 : decode cX6_append 38 = .ok (.getfield 19, 3) := by decide +kernel
theorem dX6_append_41 : decode cX6_append 41 = .ok (.aload_n 0, 1) := by decide +kernel
theorem dX6_append_42 : decode cX6_append 42 = .ok (.getfield 124, 3) := by decide +kernel
theorem dX6_append_45 : decode cX6_append 45 = .ok (.iload_n 1, 1) := by decide +kernel
theorem dX6_append_46 : decode cX6_append 46 = .ok (.iastore, 1) := by decide +kernel
theorem dX6_append_47 : decode cX6_append 47 = .ok (.aload_n 0, 1) := by decide +kernel
theorem dX6_append_48 : decode cX6_append 48 = .ok (.dup, 1) := by decide +kernel
theorem dX6_append_49 : decode cX6_append 49 = .ok (.getfield 124, 3) := by decide +kernel
theorem dX6_append_52 : decode cX6_append 52 = .ok (.iconst 1, 1) := by decide +kernel
theorem dX6_append_53 : decode cX6_append 53 = .ok (.iadd, 1) := by decide +kernel
theorem dX6_append_54 : decode cX6_append 54 = .ok (.putfield 124, 3) := by decide +kernel
theorem dX6_append_57 : decode cX6_append 57 = .ok (.aload_n 0, 1) := by decide +kernel
theorem dX6_append_58 : decode cX6_append 58 = .ok (.getfield 124, 3) := by decide +kernel
theorem dX6_append_61 : decode cX6_append 61 = .ok (.ireturn, 1) := by decide +kernel
theorem dX6_clearBuffer_0 : decode cX6_clearBuffer 0 = .ok (.aload_n 0, 1) := by decide +kernel
theorem dX6_clearBuffer_1 : decode cX6_clearBuffer 1 = .ok (.iconst 0, 1) := by decide +kernel
theorem dX6_clearBuffer_2 : decode cX6_clearBuffer 2 = .ok (.putfield 28, 3) := by decide +kernel
theorem dX6_clearBuffer_5 : decode cX6_clearBuffer 5 = .ok (.aload_n 0, 1) := by decide +kernel
theorem dX6_clearBuffer_6 : decode cX6_clearBuffer 6 = .ok (.getfield 124, 3) := by decide +kernel
theorem dX6_clearBuffer_9 : decode cX6_clearBuffer 9 = .ok (.istore_n 1, 1) := by decide +kernel
theorem dX6_clearBuffer_10 : decode cX6_clearBuffer 10 = .ok (.aload_n 0, 1) := by decide +kernel
theorem dX6_clearBuffer_11 : decode cX6_clearBuffer 11 = .ok (.iconst 0, 1) := by decide +kernel
theorem dX6_clearBuffer_12 : decode cX6_clearBuffer 12 = .ok (.putfield 124, 3) := by decide +kernel
theorem dX6_clearBuffer_15 : decode cX6_clearBuffer 15 = .ok (.iload_n 1, 1) := by decide +kernel
theorem dX6_clearBuffer_16 : decode cX6_clearBuffer 16 = .ok (.ireturn, 1) := by decide +kernel
theorem dX6_isAt_0 : decode cX6_isAt 0 = .ok (.aload_n 0, 1) := by decide +kernel
theorem dX6_isAt_1 : decode cX6_isAt 1 = .ok (.getfield 127, 3) := by decide +kernel
theorem dX6_isAt_4 : decode cX6_isAt 4 = .ok (.aload_n 0, 1) := by decide +kernel
theorem dX6_isAt_5 : decode cX6_isAt 5 = .ok (.getfield 124, 3) := by decide +kernel
theorem dX6_isAt_8 : decode cX6_isAt 8 = .ok (.if_icmp .ge 24, 3) := by decide +kernel
theorem dX6_isAt_11 : decode cX6_isAt 11 = .ok (.aload_n 0, 1) := by decide +kernel
theorem dX6_isAt_12 : decode cX6_isAt 12 = .ok (.getfield 19, 3) := by decide +kernel
theorem dX6_isAt_15 : decode cX6_isAt 15 = .ok (.aload_n 0, 1) := by decide +kernel
theorem dX6_isAt_16 : decode cX6_isAt 16 = .ok (.getfield 127, 3) := by decide +kernel
theorem dX6_isAt_19 : decode cX6_isAt 19 = .ok (.iaload, 1) := by decide +kernel
theorem dX6_isAt_20 : decode cX6_isAt 20 = .ok (.iload_n 1, 1) := by decide +kernel
theorem dX6_isAt_21 : decode cX6_isAt 21 = .ok (.iload_n 2, 1) := by decide +kernel
theorem dX6_isAt_22 : decode cX6_isAt 22 = .ok (.invokestatic 32, 3) := by decide +kernel
theorem dX6_isAt_25 : decode cX6_isAt 25 = .ok (.ifCond .eq 7, 3) := by decide +kernel
theorem dX6_isAt_28 : decode cX6_isAt 28 = .ok (.iconst 1, 1) := by decide +kernel
theorem dX6_isAt_29 : decode cX6_isAt 29 = .ok (.goto 4, 3) := by decide +kernel
theorem dX6_isAt_32 : decode cX6_isAt 32 = .ok (.iconst 0, 1) := by decide +kernel
theorem dX6_isAt_33 : decode cX6_isAt 33 = .ok (.ireturn, 1) := by decide +kernel
theorem dX6_stops_0 : decode cX6_stops 0 = .ok (.aload_n 0, 1) := by decide +kernel
theorem dX6_stops_1 : decode cX6_stops 1 = .ok (.aload_n 0, 1) := by decide +kernel
theorem dX6_stops_2 : decode cX6_stops 2 = .ok (.getfield 127, 3) := by decide +kernel
theorem dX6_stops_5 : decode cX6_stops 5 = .ok (.aload_n 0, 1) := by decide +kernel
theorem dX6_stops_6 : decode cX6_stops 6 = .ok (.getfield 124, 3) := by decide +kernel
theorem dX6_stops_9 : decode cX6_stops 9 = .ok (.if_icmp .ge 7, 3) := by decide +kernel
theorem dX6_stops_12 : decode cX6_stops 12 = .ok (.iconst 1, 1) := by decide +kernel
theorem dX6_stops_13 : decode cX6_stops 13 = .ok (.goto 4, 3) := by decide +kernel
theorem dX6_stops_16 : decode cX6_stops 16 = .ok (.iconst 0, 1) := by decide +kernel
theorem dX6_stops_17 : decode cX6_stops 17 = .ok (.putfield 130, 3) := by decide +kernel
theorem dX6_stops_20 : decode cX6_stops 20 = .ok (.iconst 0, 1) := by decide +kernel
theorem dX6_stops_21 : decode cX6_stops 21 = .ok (.ireturn, 1) := by decide +kernel
theorem dX6_isSign_0 : decode cX6_isSign 0 = .ok (.aload_n 0, 1) := by decide +kernel
theorem dX6_isSign_1 : decode cX6_isSign 1 = .ok (.iload_n 1, 1) := by decide +kernel
theorem dX6_isSign_2 : decode cX6_isSign 2 = .ok (.iload_n 1, 1) := by decide +kernel
theorem dX6_isSign_3 : decode cX6_isSign 3 = .ok (.invokevirtual 134, 3) := by decide +kernel
theorem dX6_isSign_6 : decode cX6_isSign 6 = .ok (.ifCond .ne 8, 3) := by decide +kernel
theorem dX6_isSign_9 : decode cX6_isSign 9 = .ok (.aload_n 0, 1) := by decide +kernel
theorem dX6_isSign_10 : decode cX6_isSign 10 = .ok (.invokevirtual 138, 3) := by decide +kernel
theorem dX6_isSign_13 : decode cX6_isSign 13 = .ok (.ireturn, 1) := by decide +kernel
theorem dX6_isSign_14 : decode cX6_isSign 14 = .ok (.aload_n 0, 1) := by decide +kernel
theorem dX6_isSign_15 : decode cX6_isSign 15 = .ok (.dup, 1) := by decide +kernel
theorem dX6_isSign_16 : decode cX6_isSign 16 = .ok (.getfield 127, 3) := by decide +kernel
theorem dX6_isSign_19 : decode cX6_isSign 19 = .ok (.iconst 1, 1) := by decide +kernel
theorem dX6_isSign_20 : decode cX6_isSign 20 = .ok (.iadd, 1) := by decide +kernel
theorem dX6_isSign_21 : decode cX6_isSign 21 = .ok (.putfield 127, 3) := by decide +kernel
theorem dX6_isSign_24 : decode cX6_isSign 24 = .ok (.iconst 1, 1) := by decide +kernel
theorem dX6_isSign_25 : decode cX6_isSign 25 = .ok (.ireturn, 1) := by decide +kernel
theorem dX6_begins_0 : decode cX6_begins 0 = .ok (.iload_n 0, 1) := by decide +kernel
theorem dX6_begins_1 : decode cX6_begins 1 = .ok (.istore_n 3, 1) := by decide +kernel
theorem dX6_begins_2 : decode cX6_begins 2 = .ok (.iload_n 0, 1) := by decide +kernel
theorem dX6_begins_3 : decode cX6_begins 3 = .ok (.istore 4, 2) := by decide +kernel
theorem dX6_begins_5 : decode cX6_begins 5 = .ok (.iconst 0, 1) := by decide +kernel
theorem dX6_begins_6 : decode cX6_begins 6 = .ok (.istore 5, 2) := by decide +kernel
theorem dX6_begins_8 : decode cX6_begins 8 = .ok (.iload_n 0, 1) := by decide +kernel
theorem dX6_begins_9 : decode cX6_begins 9 = .ok (.ifCond .le 44, 3) := by decide +kernel
theorem dX6_begins_12 : decode cX6_begins 12 = .ok (.iload_n 3, 1) := by decide +kernel
theorem dX6_begins_13 : decode cX6_begins 13 = .ok (.iload_n 2, 1) := by decide +kernel
theorem dX6_begins_14 : decode cX6_begins 14 = .ok (.if_icmp .gt 39, 3) := by decide +kernel
theorem dX6_begins_17 : decode cX6_begins 17 = .ok (.iload 5, 2) := by decide +kernel
theorem dX6_begins_19 : decode cX6_begins 19 = .ok (.ifCond .ne 34, 3) := by decide +kernel
theorem dX6_begins_22 : decode cX6_begins 22 = .ok (.iload 4, 2) := by decide +kernel
theorem dX6_begins_24 : decode cX6_begins 24 = .ok (.iload_n 1, 1) := by decide +kernel
theorem dX6_begins_25 : decode cX6_begins 25 = .ok (.if_icmp .lt 7, 3) := by decide +kernel
theorem dX6_begins_28 : decode cX6_begins 28 = .ok (.iconst 1, 1) := by decide +kernel
theorem dX6_begins_29 : decode cX6_begins 29 = .ok (.goto 4, 3) := by decide +kernel
theorem dX6_begins_32 : decode cX6_begins 32 = .ok (.iconst 0, 1) := by decide +kernel
theorem dX6_begins_33 : decode cX6_begins 33 = .ok (.istore 5, 2) := by decide +kernel
theorem dX6_begins_35 : decode cX6_begins 35 = .ok (.iload_n 3, 1) := by decide +kernel
theorem dX6_begins_36 : decode cX6_begins 36 = .ok (.bipush 10, 2) := by decide +kernel
theorem dX6_begins_38 : decode cX6_begins 38 = .ok (.imul, 1) := by decide +kernel
theorem dX6_begins_39 : decode cX6_begins 39 = .ok (.istore_n 3, 1) := by decide +kernel
theorem dX6_begins_40 : decode cX6_begins 40 = .ok (.bipush 10, 2) := by decide +kernel
theorem dX6_begins_42 : decode cX6_begins 42 = .ok (.iload 4, 2) := by decide +kernel
theorem dX6_begins_44 : decode cX6_begins 44 = .ok (.imul, 1) := by decide +kernel
theorem dX6_begins_45 : decode cX6_begins 45 = .ok (.bipush 9, 2) := by decide +kernel
theorem dX6_begins_47 : decode cX6_begins 47 = .ok (.iadd, 1) := by decide +kernel
theorem dX6_begins_48 : decode cX6_begins 48 = .ok (.istore 4, 2) := by decide +kernel
theorem dX6_begins_50 : decode cX6_begins 50 = .ok (.goto (-42), 3) := by decide +kernel
theorem dX6_begins_53 : decode cX6_begins 53 = .ok (.iload 5, 2) := by decide +kernel
theorem dX6_begins_55 : decode cX6_begins 55 = .ok (.ifCond .ne 11, 3) := by decide +kernel
theorem dX6_begins_58 : decode cX6_begins 58 = .ok (.iload_n 0, 1) := by decide +kernel
theorem dX6_begins_59 : decode cX6_begins 59 = .ok (.ifCond .ne 11, 3) := by decide +kernel
theorem dX6_begins_62 : decode cX6_begins 62 = .ok (.iload_n 1, 1) := by decide +kernel
theorem dX6_begins_63 : decode cX6_begins 63 = .ok (.ifCond .ne 7, 3) := by decide +kernel
theorem dX6_begins_66 : decode cX6_begins 66 = .ok (.iconst 1, 1) := by decide +kernel
theorem dX6_begins_67 : decode cX6_begins 67 = .ok (.goto 4, 3) := by decide +kernel
theorem dX6_begins_70 : decode cX6_begins 70 = .ok (.iconst 0, 1) := by decide +kernel
theorem dX6_begins_71 : decode cX6_begins 71 = .ok (.ireturn, 1) := by decide +kernel
theorem dX6_isNumber_0 : decode cX6_isNumber 0 = .ok (.aload_n 0, 1) := by decide +kernel
theorem dX6_isNumber_1 : decode cX6_isNumber 1 = .ok (.iconst (-1), 1) := by decide +kernel
theorem dX6_isNumber_2 : decode cX6_isNumber 2 = .ok (.putfield 142, 3) := by decide +kernel
theorem dX6_isNumber_5 : decode cX6_isNumber 5 = .ok (.aload_n 0, 1) := by decide +kernel
theorem dX6_isNumber_6 : decode cX6_isNumber 6 = .ok (.bipush 48, 2) := by decide +kernel
theorem dX6_isNumber_8 : decode cX6_isNumber 8 = .ok (.bipush 57, 2) := by decide +kernel
theorem dX6_isNumber_10 : decode cX6_isNumber 10 = .ok (.invokevirtual 134, 3) := by decide +kernel
theorem dX6_isNumber_13 : decode cX6_isNumber 13 = .ok (.ifCond .eq 99, 3) := by decide +kernel
theorem dX6_isNumber_16 : decode cX6_isNumber 16 = .ok (.aload_n 0, 1) := by decide +kernel
theorem dX6_isNumber_17 : decode cX6_isNumber 17 = .ok (.getfield 142, 3) := by decide +kernel
theorem dX6_isNumber_20 : decode cX6_isNumber 20 = .ok (.ifCond .eq 92, 3) := by decide +kernel
theorem dX6_isNumber_23 : decode cX6_isNumber 23 = .ok (.aload_n 0, 1) := by decide +kernel
theorem dX6_isNumber_24 : decode cX6_isNumber 24 = .ok (.getfield 142, 3) := by decide +kernel
theorem dX6_isNumber_27 : decode cX6_isNumber 27 = .ok (.iconst (-1), 1) := by decide +kernel
theorem dX6_isNumber_28 : decode cX6_isNumber 28 = .ok (.if_icmp .ne 7, 3) := by decide +kernel
theorem dX6_isNumber_31 : decode cX6_isNumber 31 = .ok (.iconst 0, 1) := by decide +kernel
theorem dX6_isNumber_32 : decode cX6_isNumber 32 = .ok (.goto 10, 3) := by decide +kernel
theorem dX6_isNumber_35 : decode cX6_isNumber 35 = .ok (.bipush 10, 2) := by decide +kernel
theorem dX6_isNumber_37 : decode cX6_isNumber 37 = .ok (.aload_n 0, 1) := by decide +kernel
theorem dX6_isNumber_38 : decode cX6_isNumber 38 = .ok (.getfield 142, 3) := by decide +kernel
theorem dX6_isNumber_41 : decode cX6_isNumber 41 = .ok (.imul, 1) := by decide +kernel
theorem dX6_isNumber_42 : decode cX6_isNumber 42 = .ok (.aload_n 0, 1) := by decide +kernel
theorem dX6_isNumber_43 : decode cX6_isNumber 43 = .ok (.getfield 19, 3) := by decide +kernel
theorem dX6_isNumber_46 : decode cX6_isNumber 46 = .ok (.aload_n 0, 1) := by decide +kernel
theorem dX6_isNumber_47 : decode cX6_isNumber 47 = .ok (.getfield 127, 3) := by decide +kernel
theorem dX6_isNumber_50 : decode cX6_isNumber 50 = .ok (.iaload, 1) := by decide +kernel
theorem dX6_isNumber_51 : decode cX6_isNumber 51 = .ok (.iadd, 1) := by decide +kernel
theorem dX6_isNumber_52 : decode cX6_isNumber 52 = .ok (.bipush 48, 2) := by decide +kernel
theorem dX6_isNumber_54 : decode cX6_isNumber 54 = .ok (.isub, 1) := by decide +kernel
theorem dX6_isNumber_55 : decode cX6_isNumber 55 = .ok (.iload_n 2, 1) := by decide +kernel
theorem dX6_isNumber_56 : decode cX6_isNumber 56 = .ok (.iload_n 3, 1) := by decide +kernel
theorem dX6_isNumber_57 : decode cX6_isNumber 57 = .ok (.invokestatic 145, 3) := by decide +kernel
theorem dX6_isNumber_60 : decode cX6_isNumber 60 = .ok (.ifCond .eq 52, 3) := by decide +kernel
theorem dX6_isNumber_63 : decode cX6_isNumber 63 = .ok (.aload_n 0, 1) := by decide +kernel
theorem dX6_isNumber_64 : decode cX6_isNumber 64 = .ok (.aload_n 0, 1) := by decide +kernel
theorem dX6_isNumber_65 : decode cX6_isNumber 65 = .ok (.getfield 142, 3) := by decide +kernel
theorem dX6_isNumber_68 : decode cX6_isNumber 68 = .ok (.iconst (-1), 1) := by decide +kernel
theorem dX6_isNumber_69 : decode cX6_isNumber 69 = .ok (.if_icmp .ne 7, 3) := by decide +kernel
theorem dX6_isNumber_72 : decode cX6_isNumber 72 = .ok (.iconst 0, 1) := by decide +kernel
theorem dX6_isNumber_73 : decode cX6_isNumber 73 = .ok (.goto 10, 3) := by decide +kernel
theorem dX6_isNumber_76 : decode cX6_isNumber 76 = .ok (.bipush 10, 2) := by decide +kernel
theorem dX6_isNumber_78 : decode cX6_isNumber 78 = .ok (.aload_n 0, 1) := by decide +kernel
theorem dX6_isNumber_79 : decode cX6_isNumber 79 = .ok (.getfield 142, 3) := by decide +kernel
theorem dX6_isNumber_82 : decode cX6_isNumber 82 = .ok (.imul, 1) := by decide +kernel
theorem dX6_isNumber_83 : decode cX6_isNumber 83 = .ok (.aload_n 0, 1) := by decide +kernel
theorem dX6_isNumber_84 : decode cX6_isNumber 84 = .ok (.getfield 19, 3) := by decide +kernel
theorem dX6_isNumber_87 : decode cX6_isNumber 87 = .ok (.aload_n 0, 1) := by decide +kernel
theorem dX6_isNumber_88 : decode cX6_isNumber 88 = .ok (.getfield 127, 3) := by decide +kernel
theorem dX6_isNumber_91 : decode cX6_isNumber 91 = .ok (.iaload, 1) := by decide +kernel
theorem dX6_isNumber_92 : decode cX6_isNumber 92 = .ok (.iadd, 1) := by decide +kernel
theorem dX6_isNumber_93 : decode cX6_isNumber 93 = .ok (.bipush 48, 2) := by decide +kernel
theorem dX6_isNumber_95 : decode cX6_isNumber 95 = .ok (.isub, 1) := by decide +kernel
theorem dX6_isNumber_96 : decode cX6_isNumber 96 = .ok (.putfield 142, 3) := by decide +kernel
theorem dX6_isNumber_99 : decode cX6_isNumber 99 = .ok (.aload_n 0, 1) := by decide +kernel
theorem dX6_isNumber_100 : decode cX6_isNumber 100 = .ok (.dup, 1) := by decide +kernel
theorem dX6_isNumber_101 : decode cX6_isNumber 101 = .ok (.getfield 127, 3) := by decide +kernel
theorem dX6_isNumber_104 : decode cX6_isNumber 104 = .ok (.iconst 1, 1) := by decide +kernel
theorem dX6_isNumber_105 : decode cX6_isNumber 105 = .ok (.iadd, 1) := by decide +kernel
theorem dX6_isNumber_106 : decode cX6_isNumber 106 = .ok (.putfield 127, 3) := by decide +kernel
theorem dX6_isNumber_109 : decode cX6_isNumber 109 = .ok (.goto (-104), 3) := by decide +kernel
theorem dX6_isNumber_112 : decode cX6_isNumber 112 = .ok (.aload_n 0, 1) := by decide +kernel
theorem dX6_isNumber_113 : decode cX6_isNumber 113 = .ok (.getfield 22, 3) := by decide +kernel
theorem dX6_isNumber_116 : decode cX6_isNumber 116 = .ok (.iconst 5, 1) := by decide +kernel
theorem dX6_isNumber_117 : decode cX6_isNumber 117 = .ok (.aload_n 0, 1) := by decide +kernel
theorem dX6_isNumber_118 : decode cX6_isNumber 118 = .ok (.getfield 148, 3) := by decide +kernel
theorem dX6_isNumber_121 : decode cX6_isNumber 121 = .ok (.imul, 1) := by decide +kernel
theorem dX6_isNumber_122 : decode cX6_isNumber 122 = .ok (.iload_n 1, 1) := by decide +kernel
theorem dX6_isNumber_123 : decode cX6_isNumber 123 = .ok (.iadd, 1) := by decide +kernel
theorem dX6_isNumber_124 : decode cX6_isNumber 124 = .ok (.aload_n 0, 1) := by decide +kernel
theorem dX6_isNumber_125 : decode cX6_isNumber 125 = .ok (.getfield 142, 3) := by decide +kernel
theorem dX6_isNumber_128 : decode cX6_isNumber 128 = .ok (.iastore, 1) := by decide +kernel
theorem dX6_isNumber_129 : decode cX6_isNumber 129 = .ok (.aload_n 0, 1) := by decide +kernel
theorem dX6_isNumber_130 : decode cX6_isNumber 130 = .ok (.getfield 142, 3) := by decide +kernel
theorem dX6_isNumber_133 : decode cX6_isNumber 133 = .ok (.iload_n 2, 1) := by decide +kernel
theorem dX6_isNumber_134 : decode cX6_isNumber 134 = .ok (.iload_n 3, 1) := by decide +kernel
theorem dX6_isNumber_135 : decode cX6_isNumber 135 = .ok (.invokestatic 32, 3) := by decide +kernel
theorem dX6_isNumber_138 : decode cX6_isNumber 138 = .ok (.ifCond .ne 10, 3) := by decide +kernel
theorem dX6_isNumber_141 : decode cX6_isNumber 141 = .ok (.aload_n 0, 1) := by decide +kernel
theorem dX6_isNumber_142 : decode cX6_isNumber 142 = .ok (.invokevirtual 138, 3) := by decide +kernel
theorem dX6_isNumber_145 : decode cX6_isNumber 145 = .ok (.ifCond .eq 7, 3) := by decide +kernel
theorem dX6_isNumber_148 : decode cX6_isNumber 148 = .ok (.iconst 1, 1) := by decide +kernel
theorem dX6_isNumber_149 : decode cX6_isNumber 149 = .ok (.goto 4, 3) := by decide +kernel
theorem dX6_isNumber_152 : decode cX6_isNumber 152 = .ok (.iconst 0, 1) := by decide +kernel
theorem dX6_isNumber_153 : decode cX6_isNumber 153 = .ok (.ireturn, 1) := by decide +kernel
theorem dX6_isPart_0 : decode cX6_isPart 0 = .ok (.aload_n 0, 1) := by decide +kernel
theorem dX6_isPart_1 : decode cX6_isPart 1 = .ok (.getfield 22, 3) := by decide +kernel
theorem dX6_isPart_4 : decode cX6_isPart 4 = .ok (.iconst 5, 1) := by decide +kernel
theorem dX6_isPart_5 : decode cX6_isPart 5 = .ok (.aload_n 0, 1) := by decide +kernel
theorem dX6_isPart_6 : decode cX6_isPart 6 = .ok (.getfield 148, 3) := by decide +kernel
theorem dX6_isPart_9 : decode cX6_isPart 9 = .ok (.imul, 1) := by decide +kernel
theorem dX6_isPart_10 : decode cX6_isPart 10 = .ok (.iconst 3, 1) := by decide +kernel
theorem dX6_isPart_11 : decode cX6_isPart 11 = .ok (.iadd, 1) := by decide +kernel
theorem dX6_isPart_12 : decode cX6_isPart 12 = .ok (.bipush 10, 2) := by decide +kernel
theorem dX6_isPart_14 : decode cX6_isPart 14 = .ok (.iastore, 1) := by decide +kernel
theorem dX6_isPart_15 : decode cX6_isPart 15 = .ok (.aload_n 0, 1) := by decide +kernel
theorem dX6_isPart_16 : decode cX6_isPart 16 = .ok (.getfield 22, 3) := by decide +kernel
theorem dX6_isPart_19 : decode cX6_isPart 19 = .ok (.iconst 5, 1) := by decide +kernel
theorem dX6_isPart_20 : decode cX6_isPart 20 = .ok (.aload_n 0, 1) := by decide +kernel
theorem dX6_isPart_21 : decode cX6_isPart 21 = .ok (.getfield 148, 3) := by decide +kernel
theorem dX6_isPart_24 : decode cX6_isPart 24 = .ok (.imul, 1) := by decide +kernel
theorem dX6_isPart_25 : decode cX6_isPart 25 = .ok (.iconst 4, 1) := by decide +kernel
theorem dX6_isPart_26 : decode cX6_isPart 26 = .ok (.iadd, 1) := by decide +kernel
theorem dX6_isPart_27 : decode cX6_isPart 27 = .ok (.sipush 9999, 3) := by decide +kernel
theorem dX6_isPart_30 : decode cX6_isPart 30 = .ok (.iastore, 1) := by decide +kernel
theorem dX6_isPart_31 : decode cX6_isPart 31 = .ok (.aload_n 0, 1) := by decide +kernel
theorem dX6_isPart_32 : decode cX6_isPart 32 = .ok (.iconst 0, 1) := by decide +kernel
theorem dX6_isPart_33 : decode cX6_isPart 33 = .ok (.iconst 1, 1) := by decide +kernel
theorem dX6_isPart_34 : decode cX6_isPart 34 = .ok (.sipush 200, 3) := by decide +kernel
theorem dX6_isPart_37 : decode cX6_isPart 37 = .ok (.invokevirtual 151, 3) := by decide +kernel
theorem dX6_isPart_40 : decode cX6_isPart 40 = .ok (.ifCond .eq 34, 3) := by decide +kernel
theorem dX6_isPart_43 : decode cX6_isPart 43 = .ok (.aload_n 0, 1) := by decide +kernel
theorem dX6_isPart_44 : decode cX6_isPart 44 = .ok (.bipush 120, 2) := by decide +kernel
theorem dX6_isPart_46 : decode cX6_isPart 46 = .ok (.invokevirtual 154, 3) := by decide +kernel
theorem dX6_isPart_49 : decode cX6_isPart 49 = .ok (.ifCond .eq 25, 3) := by decide +kernel
theorem dX6_isPart_52 : decode cX6_isPart 52 = .ok (.aload_n 0, 1) := by decide +kernel
theorem dX6_isPart_53 : decode cX6_isPart 53 = .ok (.iconst 1, 1) := by decide +kernel
theorem dX6_isPart_54 : decode cX6_isPart 54 = .ok (.bipush 40, 2) := by decide +kernel
theorem dX6_isPart_56 : decode cX6_isPart 56 = .ok (.sipush 200, 3) := by decide +kernel
theorem dX6_isPart_59 : decode cX6_isPart 59 = .ok (.invokevirtual 151, 3) := by decide +kernel
theorem dX6_isPart_62 : decode cX6_isPart 62 = .ok (.ifCond .eq 12, 3) := by decide +kernel
theorem dX6_isPart_65 : decode cX6_isPart 65 = .ok (.aload_n 0, 1) := by decide +kernel
theorem dX6_isPart_66 : decode cX6_isPart 66 = .ok (.bipush 99, 2) := by decide +kernel
theorem dX6_isPart_68 : decode cX6_isPart 68 = .ok (.invokevirtual 154, 3) := by decide +kernel
theorem dX6_isPart_71 : decode cX6_isPart 71 = .ok (.ifCond .ne 5, 3) := by decide +kernel
theorem dX6_isPart_74 : decode cX6_isPart 74 = .ok (.iconst 0, 1) := by decide +kernel
theorem dX6_isPart_75 : decode cX6_isPart 75 = .ok (.ireturn, 1) := by decide +kernel
theorem dX6_isPart_76 : decode cX6_isPart 76 = .ok (.aload_n 0, 1) := by decide +kernel
theorem dX6_isPart_77 : decode cX6_isPart 77 = .ok (.bipush 48, 2) := by decide +kernel
theorem dX6_isPart_79 : decode cX6_isPart 79 = .ok (.bipush 51, 2) := by decide +kernel
theorem dX6_isPart_81 : decode cX6_isPart 81 = .ok (.invokevirtual 134, 3) := by decide +kernel
theorem dX6_isPart_84 : decode cX6_isPart 84 = .ok (.ifCond .ne 8, 3) := by decide +kernel
theorem dX6_isPart_87 : decode cX6_isPart 87 = .ok (.aload_n 0, 1) := by decide +kernel
theorem dX6_isPart_88 : decode cX6_isPart 88 = .ok (.invokevirtual 138, 3) := by decide +kernel
theorem dX6_isPart_91 : decode cX6_isPart 91 = .ok (.ireturn, 1) := by decide +kernel
theorem dX6_isPart_92 : decode cX6_isPart 92 = .ok (.aload_n 0, 1) := by decide +kernel
theorem dX6_isPart_93 : decode cX6_isPart 93 = .ok (.getfield 22, 3) := by decide +kernel
theorem dX6_isPart_96 : decode cX6_isPart 96 = .ok (.iconst 5, 1) := by decide +kernel
theorem dX6_isPart_97 : decode cX6_isPart 97 = .ok (.aload_n 0, 1) := by decide +kernel
theorem dX6_isPart_98 : decode cX6_isPart 98 = .ok (.getfield 148, 3) := by decide +kernel
theorem dX6_isPart_101 : decode cX6_isPart 101 = .ok (.imul, 1) := by decide +kernel
theorem dX6_isPart_102 : decode cX6_isPart 102 = .ok (.iconst 2, 1) := by decide +kernel
theorem dX6_isPart_103 : decode cX6_isPart 103 = .ok (.iadd, 1) := by decide +kernel
theorem dX6_isPart_104 : decode cX6_isPart 104 = .ok (.aload_n 0, 1) := by decide +kernel
theorem dX6_isPart_105 : decode cX6_isPart 105 = .ok (.getfield 19, 3) := by decide +kernel
theorem dX6_isPart_108 : decode cX6_isPart 108 = .ok (.aload_n 0, 1) := by decide +kernel
theorem dX6_isPart_109 : decode cX6_isPart 109 = .ok (.getfield 127, 3) := by decide +kernel
theorem dX6_isPart_112 : decode cX6_isPart 112 = .ok (.iaload, 1) := by decide +kernel
theorem dX6_isPart_113 : decode cX6_isPart 113 = .ok (.bipush 48, 2) := by decide +kernel
theorem dX6_isPart_115 : decode cX6_isPart 115 = .ok (.isub, 1) := by decide +kernel
theorem dX6_isPart_116 : decode cX6_isPart 116 = .ok (.iastore, 1) := by decide +kernel
theorem dX6_isPart_117 : decode cX6_isPart 117 = .ok (.aload_n 0, 1) := by decide +kernel
theorem dX6_isPart_118 : decode cX6_isPart 118 = .ok (.dup, 1) := by decide +kernel
theorem dX6_isPart_119 : decode cX6_isPart 119 = .ok (.getfield 127, 3) := by decide +kernel
theorem dX6_isPart_122 : decode cX6_isPart 122 = .ok (.iconst 1, 1) := by decide +kernel
theorem dX6_isPart_123 : decode cX6_isPart 123 = .ok (.iadd, 1) := by decide +kernel
theorem dX6_isPart_124 : decode cX6_isPart 124 = .ok (.putfield 127, 3) := by decide +kernel
theorem dX6_isPart_127 : decode cX6_isPart 127 = .ok (.aload_n 0, 1) := by decide +kernel
theorem dX6_isPart_128 : decode cX6_isPart 128 = .ok (.bipush 36, 2) := by decide +kernel
theorem dX6_isPart_130 : decode cX6_isPart 130 = .ok (.bipush 36, 2) := by decide +kernel
theorem dX6_isPart_132 : decode cX6_isPart 132 = .ok (.invokevirtual 134, 3) := by decide +kernel
theorem dX6_isPart_135 : decode cX6_isPart 135 = .ok (.ifCond .eq 26, 3) := by decide +kernel
theorem dX6_isPart_138 : decode cX6_isPart 138 = .ok (.aload_n 0, 1) := by decide +kernel
theorem dX6_isPart_139 : decode cX6_isPart 139 = .ok (.dup, 1) := by decide +kernel
theorem dX6_isPart_140 : decode cX6_isPart 140 = .ok (.getfield 127, 3) := by decide +kernel
theorem dX6_isPart_143 : decode cX6_isPart 143 = .ok (.iconst 1, 1) := by decide +kernel
theorem dX6_isPart_144 : decode cX6_isPart 144 = .ok (.iadd, 1) := by decide +kernel
theorem dX6_isPart_145 : decode cX6_isPart 145 = .ok (.putfield 127, 3) := by decide +kernel
theorem dX6_isPart_148 : decode cX6_isPart 148 = .ok (.aload_n 0, 1) := by decide +kernel
theorem dX6_isPart_149 : decode cX6_isPart 149 = .ok (.iconst 3, 1) := by decide +kernel
theorem dX6_isPart_150 : decode cX6_isPart 150 = .ok (.iconst 1, 1) := by decide +kernel
theorem dX6_isPart_151 : decode cX6_isPart 151 = .ok (.bipush 99, 2) := by decide +kernel
theorem dX6_isPart_153 : decode cX6_isPart 153 = .ok (.invokevirtual 151, 3) := by decide +kernel
theorem dX6_isPart_156 : decode cX6_isPart 156 = .ok (.ifCond .ne 5, 3) := by decide +kernel
theorem dX6_isPart_159 : decode cX6_isPart 159 = .ok (.iconst 0, 1) := by decide +kernel
theorem dX6_isPart_160 : decode cX6_isPart 160 = .ok (.ireturn, 1) := by decide +kernel
theorem dX6_isPart_161 : decode cX6_isPart 161 = .ok (.aload_n 0, 1) := by decide +kernel
theorem dX6_isPart_162 : decode cX6_isPart 162 = .ok (.bipush 64, 2) := by decide +kernel
theorem dX6_isPart_164 : decode cX6_isPart 164 = .ok (.bipush 64, 2) := by decide +kernel
theorem dX6_isPart_166 : decode cX6_isPart 166 = .ok (.invokevirtual 134, 3) := by decide +kernel
theorem dX6_isPart_169 : decode cX6_isPart 169 = .ok (.ifCond .ne 5, 3) := by decide +kernel
theorem dX6_isPart_172 : decode cX6_isPart 172 = .ok (.iconst 1, 1) := by decide +kernel
theorem dX6_isPart_173 : decode cX6_isPart 173 = .ok (.ireturn, 1) := by decide +kernel
theorem dX6_isPart_174 : decode cX6_isPart 174 = .ok (.aload_n 0, 1) := by decide +kernel
theorem dX6_isPart_175 : decode cX6_isPart 175 = .ok (.dup, 1) := by decide +kernel
theorem dX6_isPart_176 : decode cX6_isPart 176 = .ok (.getfield 127, 3) := by decide +kernel
theorem dX6_isPart_179 : decode cX6_isPart 179 = .ok (.iconst 1, 1) := by decide +kernel
theorem dX6_isPart_180 : decode cX6_isPart 180 = .ok (.iadd, 1) := by decide +kernel
theorem dX6_isPart_181 : decode cX6_isPart 181 = .ok (.putfield 127, 3) := by decide +kernel
theorem dX6_isPart_184 : decode cX6_isPart 184 = .ok (.aload_n 0, 1) := by decide +kernel
theorem dX6_isPart_185 : decode cX6_isPart 185 = .ok (.iconst 4, 1) := by decide +kernel
theorem dX6_isPart_186 : decode cX6_isPart 186 = .ok (.iconst 0, 1) := by decide +kernel
theorem dX6_isPart_187 : decode cX6_isPart 187 = .ok (.sipush 9999, 3) := by decide +kernel
theorem dX6_isPart_190 : decode cX6_isPart 190 = .ok (.invokevirtual 151, 3) := by decide +kernel
theorem dX6_isPart_193 : decode cX6_isPart 193 = .ok (.ireturn, 1) := by decide +kernel
theorem dX6_isText_0 : decode cX6_isText 0 = .ok (.aload_n 0, 1) := by decide +kernel
theorem dX6_isText_1 : decode cX6_isText 1 = .ok (.iconst 0, 1) := by decide +kernel
theorem dX6_isText_2 : decode cX6_isText 2 = .ok (.putfield 127, 3) := by decide +kernel
theorem dX6_isText_5 : decode cX6_isText 5 = .ok (.aload_n 0, 1) := by decide +kernel
theorem dX6_isText_6 : decode cX6_isText 6 = .ok (.iconst 0, 1) := by decide +kernel
theorem dX6_isText_7 : decode cX6_isText 7 = .ok (.putfield 148, 3) := by decide +kernel
theorem dX6_isText_10 : decode cX6_isText 10 = .ok (.aload_n 0, 1) := by decide +kernel
theorem dX6_isText_11 : decode cX6_isText 11 = .ok (.iconst 0, 1) := by decide +kernel
theorem dX6_isText_12 : decode cX6_isText 12 = .ok (.putfield 130, 3) := by decide +kernel
theorem dX6_isText_15 : decode cX6_isText 15 = .ok (.iconst 1, 1) := by decide +kernel
theorem dX6_isText_16 : decode cX6_isText 16 = .ok (.istore_n 1, 1) := by decide +kernel
theorem dX6_isText_17 : decode cX6_isText 17 = .ok (.iload_n 1, 1) := by decide +kernel
theorem dX6_isText_18 : decode cX6_isText 18 = .ok (.ifCond .eq 52, 3) := by decide +kernel
theorem dX6_isText_21 : decode cX6_isText 21 = .ok (.aload_n 0, 1) := by decide +kernel
theorem dX6_isText_22 : decode cX6_isText 22 = .ok (.invokevirtual 157, 3) := by decide +kernel
theorem dX6_isText_25 : decode cX6_isText 25 = .ok (.ifCond .ne 5, 3) := by decide +kernel
theorem dX6_isText_28 : decode cX6_isText 28 = .ok (.iconst 0, 1) := by decide +kernel
theorem dX6_isText_29 : decode cX6_isText 29 = .ok (.ireturn, 1) := by decide +kernel
theorem dX6_isText_30 : decode cX6_isText 30 = .ok (.aload_n 0, 1) := by decide +kernel
theorem dX6_isText_31 : decode cX6_isText 31 = .ok (.dup, 1) := by decide +kernel
theorem dX6_isText_32 : decode cX6_isText 32 = .ok (.getfield 148, 3) := by decide +kernel
theorem dX6_isText_35 : decode cX6_isText 35 = .ok (.iconst 1, 1) := by decide +kernel
theorem dX6_isText_36 : decode cX6_isText 36 = .ok (.iadd, 1) := by decide +kernel
theorem dX6_isText_37 : decode cX6_isText 37 = .ok (.putfield 148, 3) := by decide +kernel
theorem dX6_isText_40 : decode cX6_isText 40 = .ok (.aload_n 0, 1) := by decide +kernel
theorem dX6_isText_41 : decode cX6_isText 41 = .ok (.bipush 59, 2) := by decide +kernel
theorem dX6_isText_43 : decode cX6_isText 43 = .ok (.bipush 59, 2) := by decide +kernel
theorem dX6_isText_45 : decode cX6_isText 45 = .ok (.invokevirtual 134, 3) := by decide +kernel
theorem dX6_isText_48 : decode cX6_isText 48 = .ok (.istore_n 1, 1) := by decide +kernel
theorem dX6_isText_49 : decode cX6_isText 49 = .ok (.aload_n 0, 1) := by decide +kernel
theorem dX6_isText_50 : decode cX6_isText 50 = .ok (.dup, 1) := by decide +kernel
theorem dX6_isText_51 : decode cX6_isText 51 = .ok (.getfield 127, 3) := by decide +kernel
theorem dX6_isText_54 : decode cX6_isText 54 = .ok (.iload_n 1, 1) := by decide +kernel
theorem dX6_isText_55 : decode cX6_isText 55 = .ok (.ifCond .eq 7, 3) := by decide +kernel
theorem dX6_isText_58 : decode cX6_isText 58 = .ok (.iconst 1, 1) := by decide +kernel
theorem dX6_isText_59 : decode cX6_isText 59 = .ok (.goto 4, 3) := by decide +kernel
theorem dX6_isText_62 : decode cX6_isText 62 = .ok (.iconst 0, 1) := by decide +kernel
theorem dX6_isText_63 : decode cX6_isText 63 = .ok (.iadd, 1) := by decide +kernel
theorem dX6_isText_64 : decode cX6_isText 64 = .ok (.putfield 127, 3) := by decide +kernel
theorem dX6_isText_67 : decode cX6_isText 67 = .ok (.goto (-50), 3) := by decide +kernel
theorem dX6_isText_70 : decode cX6_isText 70 = .ok (.aload_n 0, 1) := by decide +kernel
theorem dX6_isText_71 : decode cX6_isText 71 = .ok (.aload_n 0, 1) := by decide +kernel
theorem dX6_isText_72 : decode cX6_isText 72 = .ok (.getfield 127, 3) := by decide +kernel
theorem dX6_isText_75 : decode cX6_isText 75 = .ok (.aload_n 0, 1) := by decide +kernel
theorem dX6_isText_76 : decode cX6_isText 76 = .ok (.getfield 124, 3) := by decide +kernel
theorem dX6_isText_79 : decode cX6_isText 79 = .ok (.if_icmp .ge 7, 3) := by decide +kernel
theorem dX6_isText_82 : decode cX6_isText 82 = .ok (.iconst 1, 1) := by decide +kernel
theorem dX6_isText_83 : decode cX6_isText 83 = .ok (.goto 4, 3) := by decide +kernel
theorem dX6_isText_86 : decode cX6_isText 86 = .ok (.iconst 0, 1) := by decide +kernel
theorem dX6_isText_87 : decode cX6_isText 87 = .ok (.putfield 130, 3) := by decide +kernel
theorem dX6_isText_90 : decode cX6_isText 90 = .ok (.aload_n 0, 1) := by decide +kernel
theorem dX6_isText_91 : decode cX6_isText 91 = .ok (.getfield 127, 3) := by decide +kernel
theorem dX6_isText_94 : decode cX6_isText 94 = .ok (.aload_n 0, 1) := by decide +kernel
theorem dX6_isText_95 : decode cX6_isText 95 = .ok (.getfield 124, 3) := by decide +kernel
theorem dX6_isText_98 : decode cX6_isText 98 = .ok (.if_icmp .ne 7, 3) := by decide +kernel
theorem dX6_isText_101 : decode cX6_isText 101 = .ok (.iconst 1, 1) := by decide +kernel
theorem dX6_isText_102 : decode cX6_isText 102 = .ok (.goto 4, 3) := by decide +kernel
theorem dX6_isText_105 : decode cX6_isText 105 = .ok (.iconst 0, 1) := by decide +kernel
theorem dX6_isText_106 : decode cX6_isText 106 = .ok (.ireturn, 1) := by decide +kernel
theorem dX6_firstError_0 : decode cX6_firstError 0 = .ok (.aload_n 0, 1) := by decide +kernel
theorem dX6_firstError_1 : decode cX6_firstError 1 = .ok (.iconst 0, 1) := by decide +kernel
theorem dX6_firstError_2 : decode cX6_firstError 2 = .ok (.putfield 28, 3) := by decide +kernel
theorem dX6_firstError_5 : decode cX6_firstError 5 = .ok (.aload_n 0, 1) := by decide +kernel
theorem dX6_firstError_6 : decode cX6_firstError 6 = .ok (.invokevirtual 160, 3) := by decide +kernel
theorem dX6_firstError_9 : decode cX6_firstError 9 = .ok (.istore_n 1, 1) := by decide +kernel
theorem dX6_firstError_10 : decode cX6_firstError 10 = .ok (.iload_n 1, 1) := by decide +kernel
theorem dX6_firstError_11 : decode cX6_firstError 11 = .ok (.ifCond .ne 17, 3) := by decide +kernel
theorem dX6_firstError_14 : decode cX6_firstError 14 = .ok (.aload_n 0, 1) := by decide +kernel
theorem dX6_firstError_15 : decode cX6_firstError 15 = .ok (.getfield 130, 3) := by decide +kernel
theorem dX6_firstError_18 : decode cX6_firstError 18 = .ok (.ifCond .eq 10, 3) := by decide +kernel
theorem dX6_firstError_21 : decode cX6_firstError 21 = .ok (.aload_n 0, 1) := by decide +kernel
theorem dX6_firstError_22 : decode cX6_firstError 22 = .ok (.getfield 127, 3) := by decide +kernel
theorem dX6_firstError_25 : decode cX6_firstError 25 = .ok (.goto 7, 3) := by decide +kernel
theorem dX6_firstError_28 : decode cX6_firstError 28 = .ok (.aload_n 0, 1) := by decide +kernel
theorem dX6_firstError_29 : decode cX6_firstError 29 = .ok (.getfield 124, 3) := by decide +kernel
theorem dX6_firstError_32 : decode cX6_firstError 32 = .ok (.ireturn, 1) := by decide +kernel
theorem dX6_takeAll_0 : decode cX6_takeAll 0 = .ok (.aload_n 0, 1) := by decide +kernel
theorem dX6_takeAll_1 : decode cX6_takeAll 1 = .ok (.iconst 0, 1) := by decide +kernel
theorem dX6_takeAll_2 : decode cX6_takeAll 2 = .ok (.putfield 28, 3) := by decide +kernel
theorem dX6_takeAll_5 : decode cX6_takeAll 5 = .ok (.aload_n 0, 1) := by decide +kernel
theorem dX6_takeAll_6 : decode cX6_takeAll 6 = .ok (.invokevirtual 160, 3) := by decide +kernel
theorem dX6_takeAll_9 : decode cX6_takeAll 9 = .ok (.ifCond .ne 9, 3) := by decide +kernel
theorem dX6_takeAll_12 : decode cX6_takeAll 12 = .ok (.aload_n 0, 1) := by decide +kernel
theorem dX6_takeAll_13 : decode cX6_takeAll 13 = .ok (.iconst 1, 1) := by decide +kernel
theorem dX6_takeAll_14 : decode cX6_takeAll 14 = .ok (.invokevirtual 39, 3) := by decide +kernel
theorem dX6_takeAll_17 : decode cX6_takeAll 17 = .ok (.ireturn, 1) := by decide +kernel
theorem dX6_takeAll_18 : decode cX6_takeAll 18 = .ok (.aload_n 0, 1) := by decide +kernel
theorem dX6_takeAll_19 : decode cX6_takeAll 19 = .ok (.getfield 7, 3) := by decide +kernel
theorem dX6_takeAll_22 : decode cX6_takeAll 22 = .ok (.iconst 5, 1) := by decide +kernel
theorem dX6_takeAll_23 : decode cX6_takeAll 23 = .ok (.iaload, 1) := by decide +kernel
theorem dX6_takeAll_24 : decode cX6_takeAll 24 = .ok (.aload_n 0, 1) := by decide +kernel
theorem dX6_takeAll_25 : decode cX6_takeAll 25 = .ok (.getfield 148, 3) := by decide +kernel
theorem dX6_takeAll_28 : decode cX6_takeAll 28 = .ok (.iadd, 1) := by decide +kernel
theorem dX6_takeAll_29 : decode cX6_takeAll 29 = .ok (.bipush 10, 2) := by decide +kernel
theorem dX6_takeAll_31 : decode cX6_takeAll 31 = .ok (.if_icmp .le 9, 3) := by decide +kernel
theorem dX6_takeAll_34 : decode cX6_takeAll 34 = .ok (.aload_n 0, 1) := by decide +kernel
theorem dX6_takeAll_35 : decode cX6_takeAll 35 = .ok (.iconst 2, 1) := by decide +kernel
theorem dX6_takeAll_36 : decode cX6_takeAll 36 = .ok (.invokevirtual 39, 3) := by decide +kernel
theorem dX6_takeAll_39 : decode cX6_takeAll 39 = .ok (.ireturn, 1) := by decide +kernel
theorem dX6_takeAll_40 : decode cX6_takeAll 40 = .ok (.aload_n 0, 1) := by decide +kernel
theorem dX6_takeAll_41 : decode cX6_takeAll 41 = .ok (.invokevirtual 107, 3) := by decide +kernel
theorem dX6_takeAll_44 : decode cX6_takeAll 44 = .ok (.aload_n 0, 1) := by decide +kernel
theorem dX6_takeAll_45 : decode cX6_takeAll 45 = .ok (.iconst 0, 1) := by decide +kernel
theorem dX6_takeAll_46 : decode cX6_takeAll 46 = .ok (.putfield 124, 3) := by decide +kernel
theorem dX6_takeAll_49 : decode cX6_takeAll 49 = .ok (.iconst 0, 1) := by decide +kernel
theorem dX6_takeAll_50 : decode cX6_takeAll 50 = .ok (.istore_n 1, 1) := by decide +kernel
theorem dX6_takeAll_51 : decode cX6_takeAll 51 = .ok (.iload_n 1, 1) := by decide +kernel
theorem dX6_takeAll_52 : decode cX6_takeAll 52 = .ok (.aload_n 0, 1) := by decide +kernel
theorem dX6_takeAll_53 : decode cX6_takeAll 53 = .ok (.getfield 148, 3) := by decide +kernel
theorem dX6_takeAll_56 : decode cX6_takeAll 56 = .ok (.if_icmp .ge 62, 3) := by decide +kernel
theorem dX6_takeAll_59 : decode cX6_takeAll 59 = .ok (.aload_n 0, 1) := by decide +kernel
theorem dX6_takeAll_60 : decode cX6_takeAll 60 = .ok (.aload_n 0, 1) := by decide +kernel
theorem dX6_takeAll_61 : decode cX6_takeAll 61 = .ok (.getfield 22, 3) := by decide +kernel
theorem dX6_takeAll_64 : decode cX6_takeAll 64 = .ok (.iconst 5, 1) := by decide +kernel
theorem dX6_takeAll_65 : decode cX6_takeAll 65 = .ok (.iload_n 1, 1) := by decide +kernel
theorem dX6_takeAll_66 : decode cX6_takeAll 66 = .ok (.imul, 1) := by decide +kernel
theorem dX6_takeAll_67 : decode cX6_takeAll 67 = .ok (.iconst 2, 1) := by decide +kernel
theorem dX6_takeAll_68 : decode cX6_takeAll 68 = .ok (.iadd, 1) := by decide +kernel
theorem dX6_takeAll_69 : decode cX6_takeAll 69 = .ok (.iaload, 1) := by decide +kernel
theorem dX6_takeAll_70 : decode cX6_takeAll 70 = .ok (.aload_n 0, 1) := by decide +kernel
theorem dX6_takeAll_71 : decode cX6_takeAll 71 = .ok (.getfield 22, 3) := by decide +kernel
theorem dX6_takeAll_74 : decode cX6_takeAll 74 = .ok (.iconst 5, 1) := by decide +kernel
theorem dX6_takeAll_75 : decode cX6_takeAll 75 = .ok (.iload_n 1, 1) := by decide +kernel
theorem dX6_takeAll_76 : decode cX6_takeAll 76 = .ok (.imul, 1) := by decide +kernel
theorem dX6_takeAll_77 : decode cX6_takeAll 77 = .ok (.iconst 1, 1) := by decide +kernel
theorem dX6_takeAll_78 : decode cX6_takeAll 78 = .ok (.iadd, 1) := by decide +kernel
theorem dX6_takeAll_79 : decode cX6_takeAll 79 = .ok (.iaload, 1) := by decide +kernel
theorem dX6_takeAll_80 : decode cX6_takeAll 80 = .ok (.aload_n 0, 1) := by decide +kernel
theorem dX6_takeAll_81 : decode cX6_takeAll 81 = .ok (.getfield 22, 3) := by decide +kernel
theorem dX6_takeAll_84 : decode cX6_takeAll 84 = .ok (.iconst 5, 1) := by decide +kernel
theorem dX6_takeAll_85 : decode cX6_takeAll 85 = .ok (.iload_n 1, 1) := by decide +kernel
theorem dX6_takeAll_86 : decode cX6_takeAll 86 = .ok (.imul, 1) := by decide +kernel
theorem dX6_takeAll_87 : decode cX6_takeAll 87 = .ok (.iaload, 1) := by decide +kernel
theorem dX6_takeAll_88 : decode cX6_takeAll 88 = .ok (.aload_n 0, 1) := by decide +kernel
theorem dX6_takeAll_89 : decode cX6_takeAll 89 = .ok (.getfield 22, 3) := by decide +kernel
theorem dX6_takeAll_92 : decode cX6_takeAll 92 = .ok (.iconst 5, 1) := by decide +kernel
theorem dX6_takeAll_93 : decode cX6_takeAll 93 = .ok (.iload_n 1, 1) := by decide +kernel
theorem dX6_takeAll_94 : decode cX6_takeAll 94 = .ok (.imul, 1) := by decide +kernel
theorem dX6_takeAll_95 : decode cX6_takeAll 95 = .ok (.iconst 3, 1) := by decide +kernel
theorem dX6_takeAll_96 : decode cX6_takeAll 96 = .ok (.iadd, 1) := by decide +kernel
theorem dX6_takeAll_97 : decode cX6_takeAll 97 = .ok (.iaload, 1) := by decide +kernel
theorem dX6_takeAll_98 : decode cX6_takeAll 98 = .ok (.aload_n 0, 1) := by decide +kernel
theorem dX6_takeAll_99 : decode cX6_takeAll 99 = .ok (.getfield 22, 3) := by decide +kernel
theorem dX6_takeAll_102 : decode cX6_takeAll 102 = .ok (.iconst 5, 1) := by decide +kernel
theorem dX6_takeAll_103 : decode cX6_takeAll 103 = .ok (.iload_n 1, 1) := by decide +kernel
theorem dX6_takeAll_104 : decode cX6_takeAll 104 = .ok (.imul, 1) := by decide +kernel
theorem dX6_takeAll_105 : decode cX6_takeAll 105 = .ok (.iconst 4, 1) := by decide +kernel
theorem dX6_takeAll_106 : decode cX6_takeAll 106 = .ok (.iadd, 1) := by decide +kernel
theorem dX6_takeAll_107 : decode cX6_takeAll 107 = .ok (.iaload, 1) := by decide +kernel
theorem dX6_takeAll_108 : decode cX6_takeAll 108 = .ok (.invokevirtual 114, 3) := by decide +kernel
theorem dX6_takeAll_111 : decode cX6_takeAll 111 = .ok (.pop, 1) := by decide +kernel
theorem dX6_takeAll_112 : decode cX6_takeAll 112 = .ok (.iinc 1 1, 3) := by decide +kernel
theorem dX6_takeAll_115 : decode cX6_takeAll 115 = .ok (.goto (-64), 3) := by decide +kernel
theorem dX6_takeAll_118 : decode cX6_takeAll 118 = .ok (.aload_n 0, 1) := by decide +kernel
theorem dX6_takeAll_119 : decode cX6_takeAll 119 = .ok (.getfield 7, 3) := by decide +kernel
theorem dX6_takeAll_122 : decode cX6_takeAll 122 = .ok (.iconst 5, 1) := by decide +kernel
theorem dX6_takeAll_123 : decode cX6_takeAll 123 = .ok (.iaload, 1) := by decide +kernel
theorem dX6_takeAll_124 : decode cX6_takeAll 124 = .ok (.ireturn, 1) := by decide +kernel
theorem dX6_weaver_0 : decode cX6_weaver 0 = .ok (.aload_n 0, 1) := by decide +kernel
theorem dX6_weaver_1 : decode cX6_weaver 1 = .ok (.iconst 0, 1) := by decide +kernel
theorem dX6_weaver_2 : decode cX6_weaver 2 = .ok (.putfield 28, 3) := by decide +kernel
theorem dX6_weaver_5 : decode cX6_weaver 5 = .ok (.iload_n 1, 1) := by decide +kernel
theorem dX6_weaver_6 : decode cX6_weaver 6 = .ok (.invokestatic 103, 3) := by decide +kernel
theorem dX6_weaver_9 : decode cX6_weaver 9 = .ok (.ifCond .ne 9, 3) := by decide +kernel
theorem dX6_weaver_12 : decode cX6_weaver 12 = .ok (.aload_n 0, 1) := by decide +kernel
theorem dX6_weaver_13 : decode cX6_weaver 13 = .ok (.iconst 1, 1) := by decide +kernel
theorem dX6_weaver_14 : decode cX6_weaver 14 = .ok (.invokevirtual 39, 3) := by decide +kernel
theorem dX6_weaver_17 : decode cX6_weaver 17 = .ok (.ireturn, 1) := by decide +kernel
theorem dX6_weaver_18 : decode cX6_weaver 18 = .ok (.iload_n 2, 1) := by decide +kernel
theorem dX6_weaver_19 : decode cX6_weaver 19 = .ok (.iconst 0, 1) := by decide +kernel
theorem dX6_weaver_20 : decode cX6_weaver 20 = .ok (.bipush 7, 2) := by decide +kernel
theorem dX6_weaver_22 : decode cX6_weaver 22 = .ok (.invokestatic 32, 3) := by decide +kernel
theorem dX6_weaver_25 : decode cX6_weaver 25 = .ok (.ifCond .eq 15, 3) := by decide +kernel
theorem dX6_weaver_28 : decode cX6_weaver 28 = .ok (.aload_n 0, 1) := by decide +kernel
theorem dX6_weaver_29 : decode cX6_weaver 29 = .ok (.getfield 7, 3) := by decide +kernel
theorem dX6_weaver_32 : decode cX6_weaver 32 = .ok (.iload_n 1, 1) := by decide +kernel
theorem dX6_weaver_33 : decode cX6_weaver 33 = .ok (.iload_n 2, 1) := by decide +kernel
theorem dX6_weaver_34 : decode cX6_weaver 34 = .ok (.invokestatic 47, 3) := by decide +kernel
theorem dX6_weaver_37 : decode cX6_weaver 37 = .ok (.goto 8, 3) := by decide +kernel
theorem dX6_weaver_40 : decode cX6_weaver 40 = .ok (.aload_n 0, 1) := by decide +kernel
theorem dX6_weaver_41 : decode cX6_weaver 41 = .ok (.iconst 2, 1) := by decide +kernel
theorem dX6_weaver_42 : decode cX6_weaver 42 = .ok (.invokevirtual 39, 3) := by decide +kernel
theorem dX6_weaver_45 : decode cX6_weaver 45 = .ok (.ireturn, 1) := by decide +kernel
theorem dX6_share_0 : decode cX6_share 0 = .ok (.aload_n 0, 1) := by decide +kernel
theorem dX6_share_1 : decode cX6_share 1 = .ok (.iconst 0, 1) := by decide +kernel
theorem dX6_share_2 : decode cX6_share 2 = .ok (.putfield 28, 3) := by decide +kernel
theorem dX6_share_5 : decode cX6_share 5 = .ok (.iload_n 1, 1) := by decide +kernel
theorem dX6_share_6 : decode cX6_share 6 = .ok (.iconst (-1), 1) := by decide +kernel
theorem dX6_share_7 : decode cX6_share 7 = .ok (.if_icmp .eq 10, 3) := by decide +kernel
theorem dX6_share_10 : decode cX6_share 10 = .ok (.iload_n 1, 1) := by decide +kernel
theorem dX6_share_11 : decode cX6_share 11 = .ok (.invokestatic 103, 3) := by decide +kernel
theorem dX6_share_14 : decode cX6_share 14 = .ok (.ifCond .eq 10, 3) := by decide +kernel
theorem dX6_share_17 : decode cX6_share 17 = .ok (.iload_n 2, 1) := by decide +kernel
theorem dX6_share_18 : decode cX6_share 18 = .ok (.invokestatic 110, 3) := by decide +kernel
theorem dX6_share_21 : decode cX6_share 21 = .ok (.ifCond .ne 9, 3) := by decide +kernel
theorem dX6_share_24 : decode cX6_share 24 = .ok (.aload_n 0, 1) := by decide +kernel
theorem dX6_share_25 : decode cX6_share 25 = .ok (.iconst 1, 1) := by decide +kernel
theorem dX6_share_26 : decode cX6_share 26 = .ok (.invokevirtual 39, 3) := by decide +kernel
theorem dX6_share_29 : decode cX6_share 29 = .ok (.ireturn, 1) := by decide +kernel
theorem dX6_share_30 : decode cX6_share 30 = .ok (.iload_n 1, 1) := by decide +kernel
theorem dX6_share_31 : decode cX6_share 31 = .ok (.iconst (-1), 1) := by decide +kernel
theorem dX6_share_32 : decode cX6_share 32 = .ok (.if_icmp .ne 15, 3) := by decide +kernel
theorem dX6_share_35 : decode cX6_share 35 = .ok (.aload_n 0, 1) := by decide +kernel
theorem dX6_share_36 : decode cX6_share 36 = .ok (.getfield 7, 3) := by decide +kernel
theorem dX6_share_39 : decode cX6_share 39 = .ok (.bipush 14, 2) := by decide +kernel
theorem dX6_share_41 : decode cX6_share 41 = .ok (.iload_n 2, 1) := by decide +kernel
theorem dX6_share_42 : decode cX6_share 42 = .ok (.iadd, 1) := by decide +kernel
theorem dX6_share_43 : decode cX6_share 43 = .ok (.iaload, 1) := by decide +kernel
theorem dX6_share_44 : decode cX6_share 44 = .ok (.goto 15, 3) := by decide +kernel
theorem dX6_share_47 : decode cX6_share 47 = .ok (.aload_n 0, 1) := by decide +kernel
theorem dX6_share_48 : decode cX6_share 48 = .ok (.getfield 7, 3) := by decide +kernel
theorem dX6_share_51 : decode cX6_share 51 = .ok (.iload_n 1, 1) := by decide +kernel
theorem dX6_share_52 : decode cX6_share 52 = .ok (.bipush 8, 2) := by decide +kernel
theorem dX6_share_54 : decode cX6_share 54 = .ok (.iload_n 2, 1) := by decide +kernel
theorem dX6_share_55 : decode cX6_share 55 = .ok (.iadd, 1) := by decide +kernel
theorem dX6_share_56 : decode cX6_share 56 = .ok (.invokestatic 47, 3) := by decide +kernel
theorem dX6_share_59 : decode cX6_share 59 = .ok (.ireturn, 1) := by decide +kernel
theorem dX6_ofOrder_0 : decode cX6_ofOrder 0 = .ok (.iload_n 2, 1) := by decide +kernel
theorem dX6_ofOrder_1 : decode cX6_ofOrder 1 = .ok (.bipush 7, 2) := by decide +kernel
theorem dX6_ofOrder_3 : decode cX6_ofOrder 3 = .ok (.if_icmp .ge 30, 3) := by decide +kernel
theorem dX6_ofOrder_6 : decode cX6_ofOrder 6 = .ok (.iload_n 2, 1) := by decide +kernel
theorem dX6_ofOrder_7 : decode cX6_ofOrder 7 = .ok (.bipush 6, 2) := by decide +kernel
theorem dX6_ofOrder_9 : decode cX6_ofOrder 9 = .ok (.if_icmp .ge 15, 3) := by decide +kernel
theorem dX6_ofOrder_12 : decode cX6_ofOrder 12 = .ok (.aload_n 0, 1) := by decide +kernel
theorem dX6_ofOrder_13 : decode cX6_ofOrder 13 = .ok (.getfield 7, 3) := by decide +kernel
theorem dX6_ofOrder_16 : decode cX6_ofOrder 16 = .ok (.iload_n 1, 1) := by decide +kernel
theorem dX6_ofOrder_17 : decode cX6_ofOrder 17 = .ok (.iload_n 2, 1) := by decide +kernel
theorem dX6_ofOrder_18 : decode cX6_ofOrder 18 = .ok (.invokestatic 43, 3) := by decide +kernel
theorem dX6_ofOrder_21 : decode cX6_ofOrder 21 = .ok (.goto 11, 3) := by decide +kernel
theorem dX6_ofOrder_24 : decode cX6_ofOrder 24 = .ok (.aload_n 0, 1) := by decide +kernel
theorem dX6_ofOrder_25 : decode cX6_ofOrder 25 = .ok (.getfield 7, 3) := by decide +kernel
theorem dX6_ofOrder_28 : decode cX6_ofOrder 28 = .ok (.iload_n 1, 1) := by decide +kernel
theorem dX6_ofOrder_29 : decode cX6_ofOrder 29 = .ok (.invokestatic 90, 3) := by decide +kernel
theorem dX6_ofOrder_32 : decode cX6_ofOrder 32 = .ok (.ireturn, 1) := by decide +kernel
theorem dX6_ofOrder_33 : decode cX6_ofOrder 33 = .ok (.iload_n 2, 1) := by decide +kernel
theorem dX6_ofOrder_34 : decode cX6_ofOrder 34 = .ok (.bipush 7, 2) := by decide +kernel
theorem dX6_ofOrder_36 : decode cX6_ofOrder 36 = .ok (.if_icmp .ne 31, 3) := by decide +kernel
theorem dX6_ofOrder_39 : decode cX6_ofOrder 39 = .ok (.aload_n 0, 1) := by decide +kernel
theorem dX6_ofOrder_40 : decode cX6_ofOrder 40 = .ok (.getfield 7, 3) := by decide +kernel
theorem dX6_ofOrder_43 : decode cX6_ofOrder 43 = .ok (.iload_n 1, 1) := by decide +kernel
theorem dX6_ofOrder_44 : decode cX6_ofOrder 44 = .ok (.iconst 3, 1) := by decide +kernel
theorem dX6_ofOrder_45 : decode cX6_ofOrder 45 = .ok (.invokestatic 43, 3) := by decide +kernel
theorem dX6_ofOrder_48 : decode cX6_ofOrder 48 = .ok (.aload_n 0, 1) := by decide +kernel
theorem dX6_ofOrder_49 : decode cX6_ofOrder 49 = .ok (.getfield 7, 3) := by decide +kernel
theorem dX6_ofOrder_52 : decode cX6_ofOrder 52 = .ok (.iload_n 1, 1) := by decide +kernel
theorem dX6_ofOrder_53 : decode cX6_ofOrder 53 = .ok (.invokestatic 90, 3) := by decide +kernel
theorem dX6_ofOrder_56 : decode cX6_ofOrder 56 = .ok (.isub, 1) := by decide +kernel
theorem dX6_ofOrder_57 : decode cX6_ofOrder 57 = .ok (.aload_n 0, 1) := by decide +kernel
theorem dX6_ofOrder_58 : decode cX6_ofOrder 58 = .ok (.getfield 7, 3) := by decide +kernel
theorem dX6_ofOrder_61 : decode cX6_ofOrder 61 = .ok (.iload_n 1, 1) := by decide +kernel
theorem dX6_ofOrder_62 : decode cX6_ofOrder 62 = .ok (.invokestatic 73, 3) := by decide +kernel
theorem dX6_ofOrder_65 : decode cX6_ofOrder 65 = .ok (.imul, 1) := by decide +kernel
theorem dX6_ofOrder_66 : decode cX6_ofOrder 66 = .ok (.ireturn, 1) := by decide +kernel
theorem dX6_ofOrder_67 : decode cX6_ofOrder 67 = .ok (.iconst 0, 1) := by decide +kernel
theorem dX6_ofOrder_68 : decode cX6_ofOrder 68 = .ok (.istore_n 3, 1) := by decide +kernel
theorem dX6_ofOrder_69 : decode cX6_ofOrder 69 = .ok (.iconst 0, 1) := by decide +kernel
theorem dX6_ofOrder_70 : decode cX6_ofOrder 70 = .ok (.istore 4, 2) := by decide +kernel
theorem dX6_ofOrder_72 : decode cX6_ofOrder 72 = .ok (.iload 4, 2) := by decide +kernel
theorem dX6_ofOrder_74 : decode cX6_ofOrder 74 = .ok (.bipush 6, 2) := by decide +kernel
theorem dX6_ofOrder_76 : decode cX6_ofOrder 76 = .ok (.if_icmp .ge 39, 3) := by decide +kernel
theorem dX6_ofOrder_79 : decode cX6_ofOrder 79 = .ok (.iload_n 3, 1) := by decide +kernel
theorem dX6_ofOrder_80 : decode cX6_ofOrder 80 = .ok (.aload_n 0, 1) := by decide +kernel
theorem dX6_ofOrder_81 : decode cX6_ofOrder 81 = .ok (.getfield 7, 3) := by decide +kernel
theorem dX6_ofOrder_84 : decode cX6_ofOrder 84 = .ok (.iload 4, 2) := by decide +kernel
theorem dX6_ofOrder_86 : decode cX6_ofOrder 86 = .ok (.iconst 0, 1) := by decide +kernel
theorem dX6_ofOrder_87 : decode cX6_ofOrder 87 = .ok (.invokestatic 47, 3) := by decide +kernel
theorem dX6_ofOrder_90 : decode cX6_ofOrder 90 = .ok (.aload_n 0, 1) := by decide +kernel
theorem dX6_ofOrder_91 : decode cX6_ofOrder 91 = .ok (.getfield 7, 3) := by decide +kernel
theorem dX6_ofOrder_94 : decode cX6_ofOrder 94 = .ok (.iload_n 1, 1) := by decide +kernel
theorem dX6_ofOrder_95 : decode cX6_ofOrder 95 = .ok (.iconst 2, 1) := by decide +kernel
theorem dX6_ofOrder_96 : decode cX6_ofOrder 96 = .ok (.invokestatic 43, 3) := by decide +kernel
theorem dX6_ofOrder_99 : decode cX6_ofOrder 99 = .ok (.if_icmp .lt 7, 3) := by decide +kernel
theorem dX6_ofOrder_102 : decode cX6_ofOrder 102 = .ok (.iconst 1, 1) := by decide +kernel
theorem dX6_ofOrder_103 : decode cX6_ofOrder 103 = .ok (.goto 4, 3) := by decide +kernel
theorem dX6_ofOrder_106 : decode cX6_ofOrder 106 = .ok (.iconst 0, 1) := by decide +kernel
theorem dX6_ofOrder_107 : decode cX6_ofOrder 107 = .ok (.iadd, 1) := by decide +kernel
theorem dX6_ofOrder_108 : decode cX6_ofOrder 108 = .ok (.istore_n 3, 1) := by decide +kernel
theorem dX6_ofOrder_109 : decode cX6_ofOrder 109 = .ok (.iinc 4 1, 3) := by decide +kernel
theorem dX6_ofOrder_112 : decode cX6_ofOrder 112 = .ok (.goto (-40), 3) := by decide +kernel
theorem dX6_ofOrder_115 : decode cX6_ofOrder 115 = .ok (.iload_n 3, 1) := by decide +kernel
theorem dX6_ofOrder_116 : decode cX6_ofOrder 116 = .ok (.ireturn, 1) := by decide +kernel
theorem dX6_orderOf_0 : decode cX6_orderOf 0 = .ok (.aload_n 0, 1) := by decide +kernel
theorem dX6_orderOf_1 : decode cX6_orderOf 1 = .ok (.iconst 0, 1) := by decide +kernel
theorem dX6_orderOf_2 : decode cX6_orderOf 2 = .ok (.putfield 28, 3) := by decide +kernel
theorem dX6_orderOf_5 : decode cX6_orderOf 5 = .ok (.iload_n 1, 1) := by decide +kernel
theorem dX6_orderOf_6 : decode cX6_orderOf 6 = .ok (.ifCond .lt 13, 3) := by decide +kernel
theorem dX6_orderOf_9 : decode cX6_orderOf 9 = .ok (.iload_n 2, 1) := by decide +kernel
theorem dX6_orderOf_10 : decode cX6_orderOf 10 = .ok (.iconst 0, 1) := by decide +kernel
theorem dX6_orderOf_11 : decode cX6_orderOf 11 = .ok (.bipush 8, 2) := by decide +kernel
theorem dX6_orderOf_13 : decode cX6_orderOf 13 = .ok (.invokestatic 32, 3) := by decide +kernel
theorem dX6_orderOf_16 : decode cX6_orderOf 16 = .ok (.ifCond .ne 9, 3) := by decide +kernel
theorem dX6_orderOf_19 : decode cX6_orderOf 19 = .ok (.aload_n 0, 1) := by decide +kernel
theorem dX6_orderOf_20 : decode cX6_orderOf 20 = .ok (.iconst 1, 1) := by decide +kernel
theorem dX6_orderOf_21 : decode cX6_orderOf 21 = .ok (.invokevirtual 39, 3) := by decide +kernel
theorem dX6_orderOf_24 : decode cX6_orderOf 24 = .ok (.ireturn, 1) := by decide +kernel
theorem dX6_orderOf_25 : decode cX6_orderOf 25 = .ok (.iload_n 1, 1) := by decide +kernel
theorem dX6_orderOf_26 : decode cX6_orderOf 26 = .ok (.aload_n 0, 1) := by decide +kernel
theorem dX6_orderOf_27 : decode cX6_orderOf 27 = .ok (.getfield 7, 3) := by decide +kernel
theorem dX6_orderOf_30 : decode cX6_orderOf 30 = .ok (.iconst 5, 1) := by decide +kernel
theorem dX6_orderOf_31 : decode cX6_orderOf 31 = .ok (.iaload, 1) := by decide +kernel
theorem dX6_orderOf_32 : decode cX6_orderOf 32 = .ok (.if_icmp .ge 12, 3) := by decide +kernel
theorem dX6_orderOf_35 : decode cX6_orderOf 35 = .ok (.aload_n 0, 1) := by decide +kernel
theorem dX6_orderOf_36 : decode cX6_orderOf 36 = .ok (.iload_n 1, 1) := by decide +kernel
theorem dX6_orderOf_37 : decode cX6_orderOf 37 = .ok (.iload_n 2, 1) := by decide +kernel
theorem dX6_orderOf_38 : decode cX6_orderOf 38 = .ok (.invokevirtual 163, 3) := by decide +kernel
theorem dX6_orderOf_41 : decode cX6_orderOf 41 = .ok (.goto 4, 3) := by decide +kernel
theorem dX6_orderOf_44 : decode cX6_orderOf 44 = .ok (.iconst (-1), 1) := by decide +kernel
theorem dX6_orderOf_45 : decode cX6_orderOf 45 = .ok (.ireturn, 1) := by decide +kernel
theorem dX6_wovenBy_0 : decode cX6_wovenBy 0 = .ok (.aload_n 0, 1) := by decide +kernel
theorem dX6_wovenBy_1 : decode cX6_wovenBy 1 = .ok (.iconst 0, 1) := by decide +kernel
theorem dX6_wovenBy_2 : decode cX6_wovenBy 2 = .ok (.putfield 28, 3) := by decide +kernel
theorem dX6_wovenBy_5 : decode cX6_wovenBy 5 = .ok (.iload_n 1, 1) := by decide +kernel
theorem dX6_wovenBy_6 : decode cX6_wovenBy 6 = .ok (.ifCond .ge 9, 3) := by decide +kernel
theorem dX6_wovenBy_9 : decode cX6_wovenBy 9 = .ok (.aload_n 0, 1) := by decide +kernel
theorem dX6_wovenBy_10 : decode cX6_wovenBy 10 = .ok (.iconst 1, 1) := by decide +kernel
theorem dX6_wovenBy_11 : decode cX6_wovenBy 11 = .ok (.invokevirtual 39, 3) := by decide +kernel
theorem dX6_wovenBy_14 : decode cX6_wovenBy 14 = .ok (.ireturn, 1) := by decide +kernel
theorem dX6_wovenBy_15 : decode cX6_wovenBy 15 = .ok (.iload_n 2, 1) := by decide +kernel
theorem dX6_wovenBy_16 : decode cX6_wovenBy 16 = .ok (.invokestatic 103, 3) := by decide +kernel
theorem dX6_wovenBy_19 : decode cX6_wovenBy 19 = .ok (.ifCond .ne 9, 3) := by decide +kernel
theorem dX6_wovenBy_22 : decode cX6_wovenBy 22 = .ok (.aload_n 0, 1) := by decide +kernel
theorem dX6_wovenBy_23 : decode cX6_wovenBy 23 = .ok (.iconst 2, 1) := by decide +kernel
theorem dX6_wovenBy_24 : decode cX6_wovenBy 24 = .ok (.invokevirtual 39, 3) := by decide +kernel
theorem dX6_wovenBy_27 : decode cX6_wovenBy 27 = .ok (.ireturn, 1) := by decide +kernel
theorem dX6_wovenBy_28 : decode cX6_wovenBy 28 = .ok (.iload_n 1, 1) := by decide +kernel
theorem dX6_wovenBy_29 : decode cX6_wovenBy 29 = .ok (.aload_n 0, 1) := by decide +kernel
theorem dX6_wovenBy_30 : decode cX6_wovenBy 30 = .ok (.getfield 7, 3) := by decide +kernel
theorem dX6_wovenBy_33 : decode cX6_wovenBy 33 = .ok (.iconst 5, 1) := by decide +kernel
theorem dX6_wovenBy_34 : decode cX6_wovenBy 34 = .ok (.iaload, 1) := by decide +kernel
theorem dX6_wovenBy_35 : decode cX6_wovenBy 35 = .ok (.if_icmp .ge 18, 3) := by decide +kernel
theorem dX6_wovenBy_38 : decode cX6_wovenBy 38 = .ok (.aload_n 0, 1) := by decide +kernel
theorem dX6_wovenBy_39 : decode cX6_wovenBy 39 = .ok (.getfield 7, 3) := by decide +kernel
theorem dX6_wovenBy_42 : decode cX6_wovenBy 42 = .ok (.iload_n 1, 1) := by decide +kernel
theorem dX6_wovenBy_43 : decode cX6_wovenBy 43 = .ok (.bipush 6, 2) := by decide +kernel
theorem dX6_wovenBy_45 : decode cX6_wovenBy 45 = .ok (.iload_n 2, 1) := by decide +kernel
theorem dX6_wovenBy_46 : decode cX6_wovenBy 46 = .ok (.iadd, 1) := by decide +kernel
theorem dX6_wovenBy_47 : decode cX6_wovenBy 47 = .ok (.invokestatic 43, 3) := by decide +kernel
theorem dX6_wovenBy_50 : decode cX6_wovenBy 50 = .ok (.goto 4, 3) := by decide +kernel
theorem dX6_wovenBy_53 : decode cX6_wovenBy 53 = .ok (.iconst (-1), 1) := by decide +kernel
theorem dX6_wovenBy_54 : decode cX6_wovenBy 54 = .ok (.ireturn, 1) := by decide +kernel
theorem dX6_ofNext_0 : decode cX6_ofNext 0 = .ok (.aload_n 0, 1) := by decide +kernel
theorem dX6_ofNext_1 : decode cX6_ofNext 1 = .ok (.getfield 7, 3) := by decide +kernel
theorem dX6_ofNext_4 : decode cX6_ofNext 4 = .ok (.iload_n 1, 1) := by decide +kernel
theorem dX6_ofNext_5 : decode cX6_ofNext 5 = .ok (.iconst 0, 1) := by decide +kernel
theorem dX6_ofNext_6 : decode cX6_ofNext 6 = .ok (.invokestatic 47, 3) := by decide +kernel
theorem dX6_ofNext_9 : decode cX6_ofNext 9 = .ok (.ifCond .ne 7, 3) := by decide +kernel
theorem dX6_ofNext_12 : decode cX6_ofNext 12 = .ok (.iconst (-1), 1) := by decide +kernel
theorem dX6_ofNext_13 : decode cX6_ofNext 13 = .ok (.goto 11, 3) := by decide +kernel
theorem dX6_ofNext_16 : decode cX6_ofNext 16 = .ok (.aload_n 0, 1) := by decide +kernel
theorem dX6_ofNext_17 : decode cX6_ofNext 17 = .ok (.getfield 7, 3) := by decide +kernel
theorem dX6_ofNext_20 : decode cX6_ofNext 20 = .ok (.iload_n 1, 1) := by decide +kernel
theorem dX6_ofNext_21 : decode cX6_ofNext 21 = .ok (.invokestatic 80, 3) := by decide +kernel
theorem dX6_ofNext_24 : decode cX6_ofNext 24 = .ok (.istore_n 3, 1) := by decide +kernel
theorem dX6_ofNext_25 : decode cX6_ofNext 25 = .ok (.iload_n 2, 1) := by decide +kernel
theorem dX6_ofNext_26 : decode cX6_ofNext 26 = .ok (.ifCond .eq 8, 3) := by decide +kernel
theorem dX6_ofNext_29 : decode cX6_ofNext 29 = .ok (.iload_n 3, 1) := by decide +kernel
theorem dX6_ofNext_30 : decode cX6_ofNext 30 = .ok (.iconst (-1), 1) := by decide +kernel
theorem dX6_ofNext_31 : decode cX6_ofNext 31 = .ok (.if_icmp .ne 46, 3) := by decide +kernel
theorem dX6_ofNext_34 : decode cX6_ofNext 34 = .ok (.iload_n 2, 1) := by decide +kernel
theorem dX6_ofNext_35 : decode cX6_ofNext 35 = .ok (.ifCond .ne 24, 3) := by decide +kernel
theorem dX6_ofNext_38 : decode cX6_ofNext 38 = .ok (.iload_n 3, 1) := by decide +kernel
theorem dX6_ofNext_39 : decode cX6_ofNext 39 = .ok (.iconst (-1), 1) := by decide +kernel
theorem dX6_ofNext_40 : decode cX6_ofNext 40 = .ok (.if_icmp .ne 7, 3) := by decide +kernel
theorem dX6_ofNext_43 : decode cX6_ofNext 43 = .ok (.iconst (-1), 1) := by decide +kernel
theorem dX6_ofNext_44 : decode cX6_ofNext 44 = .ok (.goto 32, 3) := by decide +kernel
theorem dX6_ofNext_47 : decode cX6_ofNext 47 = .ok (.aload_n 0, 1) := by decide +kernel
theorem dX6_ofNext_48 : decode cX6_ofNext 48 = .ok (.getfield 7, 3) := by decide +kernel
theorem dX6_ofNext_51 : decode cX6_ofNext 51 = .ok (.iload_n 3, 1) := by decide +kernel
theorem dX6_ofNext_52 : decode cX6_ofNext 52 = .ok (.iconst 0, 1) := by decide +kernel
theorem dX6_ofNext_53 : decode cX6_ofNext 53 = .ok (.invokestatic 43, 3) := by decide +kernel
theorem dX6_ofNext_56 : decode cX6_ofNext 56 = .ok (.goto 20, 3) := by decide +kernel
theorem dX6_ofNext_59 : decode cX6_ofNext 59 = .ok (.aload_n 0, 1) := by decide +kernel
theorem dX6_ofNext_60 : decode cX6_ofNext 60 = .ok (.getfield 7, 3) := by decide +kernel
theorem dX6_ofNext_63 : decode cX6_ofNext 63 = .ok (.iload_n 1, 1) := by decide +kernel
theorem dX6_ofNext_64 : decode cX6_ofNext 64 = .ok (.iconst 0, 1) := by decide +kernel
theorem dX6_ofNext_65 : decode cX6_ofNext 65 = .ok (.invokestatic 47, 3) := by decide +kernel
theorem dX6_ofNext_68 : decode cX6_ofNext 68 = .ok (.ifCond .ne 7, 3) := by decide +kernel
theorem dX6_ofNext_71 : decode cX6_ofNext 71 = .ok (.iconst 1, 1) := by decide +kernel
theorem dX6_ofNext_72 : decode cX6_ofNext 72 = .ok (.goto 4, 3) := by decide +kernel
theorem dX6_ofNext_75 : decode cX6_ofNext 75 = .ok (.iconst 2, 1) := by decide +kernel
theorem dX6_ofNext_76 : decode cX6_ofNext 76 = .ok (.ireturn, 1) := by decide +kernel
theorem dX6_ofNext_77 : decode cX6_ofNext 77 = .ok (.aload_n 0, 1) := by decide +kernel
theorem dX6_ofNext_78 : decode cX6_ofNext 78 = .ok (.getfield 7, 3) := by decide +kernel
theorem dX6_ofNext_81 : decode cX6_ofNext 81 = .ok (.iload_n 3, 1) := by decide +kernel
theorem dX6_ofNext_82 : decode cX6_ofNext 82 = .ok (.iconst 1, 1) := by decide +kernel
theorem dX6_ofNext_83 : decode cX6_ofNext 83 = .ok (.invokestatic 43, 3) := by decide +kernel
theorem dX6_ofNext_86 : decode cX6_ofNext 86 = .ok (.istore 4, 2) := by decide +kernel
theorem dX6_ofNext_88 : decode cX6_ofNext 88 = .ok (.aload_n 0, 1) := by decide +kernel
theorem dX6_ofNext_89 : decode cX6_ofNext 89 = .ok (.getfield 7, 3) := by decide +kernel
theorem dX6_ofNext_92 : decode cX6_ofNext 92 = .ok (.iload_n 1, 1) := by decide +kernel
theorem dX6_ofNext_93 : decode cX6_ofNext 93 = .ok (.bipush 8, 2) := by decide +kernel
theorem dX6_ofNext_95 : decode cX6_ofNext 95 = .ok (.iload 4, 2) := by decide +kernel
theorem dX6_ofNext_97 : decode cX6_ofNext 97 = .ok (.iadd, 1) := by decide +kernel
theorem dX6_ofNext_98 : decode cX6_ofNext 98 = .ok (.invokestatic 47, 3) := by decide +kernel
theorem dX6_ofNext_101 : decode cX6_ofNext 101 = .ok (.aload_n 0, 1) := by decide +kernel
theorem dX6_ofNext_102 : decode cX6_ofNext 102 = .ok (.getfield 7, 3) := by decide +kernel
theorem dX6_ofNext_105 : decode cX6_ofNext 105 = .ok (.iload_n 3, 1) := by decide +kernel
theorem dX6_ofNext_106 : decode cX6_ofNext 106 = .ok (.invokestatic 73, 3) := by decide +kernel
theorem dX6_ofNext_109 : decode cX6_ofNext 109 = .ok (.if_icmp .ge 23, 3) := by decide +kernel
theorem dX6_ofNext_112 : decode cX6_ofNext 112 = .ok (.aload_n 0, 1) := by decide +kernel
theorem dX6_ofNext_113 : decode cX6_ofNext 113 = .ok (.getfield 7, 3) := by decide +kernel
theorem dX6_ofNext_116 : decode cX6_ofNext 116 = .ok (.iload 4, 2) := by decide +kernel
theorem dX6_ofNext_118 : decode cX6_ofNext 118 = .ok (.aload_n 0, 1) := by decide +kernel
theorem dX6_ofNext_119 : decode cX6_ofNext 119 = .ok (.getfield 7, 3) := by decide +kernel
theorem dX6_ofNext_122 : decode cX6_ofNext 122 = .ok (.iload_n 3, 1) := by decide +kernel
theorem dX6_ofNext_123 : decode cX6_ofNext 123 = .ok (.invokestatic 73, 3) := by decide +kernel
theorem dX6_ofNext_126 : decode cX6_ofNext 126 = .ok (.invokestatic 76, 3) := by decide +kernel
theorem dX6_ofNext_129 : decode cX6_ofNext 129 = .ok (.ifCond .eq 7, 3) := by decide +kernel
theorem dX6_ofNext_132 : decode cX6_ofNext 132 = .ok (.iconst 0, 1) := by decide +kernel
theorem dX6_ofNext_133 : decode cX6_ofNext 133 = .ok (.goto 4, 3) := by decide +kernel
theorem dX6_ofNext_136 : decode cX6_ofNext 136 = .ok (.iconst 3, 1) := by decide +kernel
theorem dX6_ofNext_137 : decode cX6_ofNext 137 = .ok (.ireturn, 1) := by decide +kernel
theorem dX6_next_0 : decode cX6_next 0 = .ok (.aload_n 0, 1) := by decide +kernel
theorem dX6_next_1 : decode cX6_next 1 = .ok (.iconst 0, 1) := by decide +kernel
theorem dX6_next_2 : decode cX6_next 2 = .ok (.putfield 28, 3) := by decide +kernel
theorem dX6_next_5 : decode cX6_next 5 = .ok (.iload_n 1, 1) := by decide +kernel
theorem dX6_next_6 : decode cX6_next 6 = .ok (.invokestatic 103, 3) := by decide +kernel
theorem dX6_next_9 : decode cX6_next 9 = .ok (.ifCond .ne 9, 3) := by decide +kernel
theorem dX6_next_12 : decode cX6_next 12 = .ok (.aload_n 0, 1) := by decide +kernel
theorem dX6_next_13 : decode cX6_next 13 = .ok (.iconst 1, 1) := by decide +kernel
theorem dX6_next_14 : decode cX6_next 14 = .ok (.invokevirtual 39, 3) := by decide +kernel
theorem dX6_next_17 : decode cX6_next 17 = .ok (.ireturn, 1) := by decide +kernel
theorem dX6_next_18 : decode cX6_next 18 = .ok (.iload_n 2, 1) := by decide +kernel
theorem dX6_next_19 : decode cX6_next 19 = .ok (.iconst 0, 1) := by decide +kernel
theorem dX6_next_20 : decode cX6_next 20 = .ok (.iconst 1, 1) := by decide +kernel
theorem dX6_next_21 : decode cX6_next 21 = .ok (.invokestatic 32, 3) := by decide +kernel
theorem dX6_next_24 : decode cX6_next 24 = .ok (.ifCond .eq 12, 3) := by decide +kernel
theorem dX6_next_27 : decode cX6_next 27 = .ok (.aload_n 0, 1) := by decide +kernel
theorem dX6_next_28 : decode cX6_next 28 = .ok (.iload_n 1, 1) := by decide +kernel
theorem dX6_next_29 : decode cX6_next 29 = .ok (.iload_n 2, 1) := by decide +kernel
theorem dX6_next_30 : decode cX6_next 30 = .ok (.invokevirtual 167, 3) := by decide +kernel
theorem dX6_next_33 : decode cX6_next 33 = .ok (.goto 8, 3) := by decide +kernel
theorem dX6_next_36 : decode cX6_next 36 = .ok (.aload_n 0, 1) := by decide +kernel
theorem dX6_next_37 : decode cX6_next 37 = .ok (.iconst 2, 1) := by decide +kernel
theorem dX6_next_38 : decode cX6_next 38 = .ok (.invokevirtual 39, 3) := by decide +kernel
theorem dX6_next_41 : decode cX6_next 41 = .ok (.ireturn, 1) := by decide +kernel
theorem dX6_debts_0 : decode cX6_debts 0 = .ok (.iconst 0, 1) := by decide +kernel
theorem dX6_debts_1 : decode cX6_debts 1 = .ok (.istore_n 1, 1) := by decide +kernel
theorem dX6_debts_2 : decode cX6_debts 2 = .ok (.iconst 0, 1) := by decide +kernel
theorem dX6_debts_3 : decode cX6_debts 3 = .ok (.istore_n 2, 1) := by decide +kernel
theorem dX6_debts_4 : decode cX6_debts 4 = .ok (.iload_n 2, 1) := by decide +kernel
theorem dX6_debts_5 : decode cX6_debts 5 = .ok (.bipush 6, 2) := by decide +kernel
theorem dX6_debts_7 : decode cX6_debts 7 = .ok (.if_icmp .ge 18, 3) := by decide +kernel
theorem dX6_debts_10 : decode cX6_debts 10 = .ok (.iload_n 1, 1) := by decide +kernel
theorem dX6_debts_11 : decode cX6_debts 11 = .ok (.aload_n 0, 1) := by decide +kernel
theorem dX6_debts_12 : decode cX6_debts 12 = .ok (.iload_n 2, 1) := by decide +kernel
theorem dX6_debts_13 : decode cX6_debts 13 = .ok (.iconst 3, 1) := by decide +kernel
theorem dX6_debts_14 : decode cX6_debts 14 = .ok (.invokestatic 47, 3) := by decide +kernel
theorem dX6_debts_17 : decode cX6_debts 17 = .ok (.iadd, 1) := by decide +kernel
theorem dX6_debts_18 : decode cX6_debts 18 = .ok (.istore_n 1, 1) := by decide +kernel
theorem dX6_debts_19 : decode cX6_debts 19 = .ok (.iinc 2 1, 3) := by decide +kernel
theorem dX6_debts_22 : decode cX6_debts 22 = .ok (.goto (-18), 3) := by decide +kernel
theorem dX6_debts_25 : decode cX6_debts 25 = .ok (.iload_n 1, 1) := by decide +kernel
theorem dX6_debts_26 : decode cX6_debts 26 = .ok (.ireturn, 1) := by decide +kernel
theorem dX6_looms_0 : decode cX6_looms 0 = .ok (.iconst 0, 1) := by decide +kernel
theorem dX6_looms_1 : decode cX6_looms 1 = .ok (.istore_n 1, 1) := by decide +kernel
theorem dX6_looms_2 : decode cX6_looms 2 = .ok (.iconst 0, 1) := by decide +kernel
theorem dX6_looms_3 : decode cX6_looms 3 = .ok (.istore_n 2, 1) := by decide +kernel
theorem dX6_looms_4 : decode cX6_looms 4 = .ok (.iload_n 2, 1) := by decide +kernel
theorem dX6_looms_5 : decode cX6_looms 5 = .ok (.bipush 6, 2) := by decide +kernel
theorem dX6_looms_7 : decode cX6_looms 7 = .ok (.if_icmp .ge 29, 3) := by decide +kernel
theorem dX6_looms_10 : decode cX6_looms 10 = .ok (.iload_n 1, 1) := by decide +kernel
theorem dX6_looms_11 : decode cX6_looms 11 = .ok (.aload_n 0, 1) := by decide +kernel
theorem dX6_looms_12 : decode cX6_looms 12 = .ok (.getfield 7, 3) := by decide +kernel
theorem dX6_looms_15 : decode cX6_looms 15 = .ok (.iload_n 2, 1) := by decide +kernel
theorem dX6_looms_16 : decode cX6_looms 16 = .ok (.iconst 0, 1) := by decide +kernel
theorem dX6_looms_17 : decode cX6_looms 17 = .ok (.invokestatic 47, 3) := by decide +kernel
theorem dX6_looms_20 : decode cX6_looms 20 = .ok (.ifCond .le 7, 3) := by decide +kernel
theorem dX6_looms_23 : decode cX6_looms 23 = .ok (.iconst 1, 1) := by decide +kernel
theorem dX6_looms_24 : decode cX6_looms 24 = .ok (.goto 4, 3) := by decide +kernel
theorem dX6_looms_27 : decode cX6_looms 27 = .ok (.iconst 0, 1) := by decide +kernel
theorem dX6_looms_28 : decode cX6_looms 28 = .ok (.iadd, 1) := by decide +kernel
theorem dX6_looms_29 : decode cX6_looms 29 = .ok (.istore_n 1, 1) := by decide +kernel
theorem dX6_looms_30 : decode cX6_looms 30 = .ok (.iinc 2 1, 3) := by decide +kernel
theorem dX6_looms_33 : decode cX6_looms 33 = .ok (.goto (-29), 3) := by decide +kernel
theorem dX6_looms_36 : decode cX6_looms 36 = .ok (.iload_n 1, 1) := by decide +kernel
theorem dX6_looms_37 : decode cX6_looms 37 = .ok (.ireturn, 1) := by decide +kernel
theorem dX6_counted_0 : decode cX6_counted 0 = .ok (.iload_n 1, 1) := by decide +kernel
theorem dX6_counted_1 : decode cX6_counted 1 = .ok (.iconst 2, 1) := by decide +kernel
theorem dX6_counted_2 : decode cX6_counted 2 = .ok (.if_icmp .ge 12, 3) := by decide +kernel
theorem dX6_counted_5 : decode cX6_counted 5 = .ok (.aload_n 0, 1) := by decide +kernel
theorem dX6_counted_6 : decode cX6_counted 6 = .ok (.getfield 7, 3) := by decide +kernel
theorem dX6_counted_9 : decode cX6_counted 9 = .ok (.iconst 4, 1) := by decide +kernel
theorem dX6_counted_10 : decode cX6_counted 10 = .ok (.iload_n 1, 1) := by decide +kernel
theorem dX6_counted_11 : decode cX6_counted 11 = .ok (.iadd, 1) := by decide +kernel
theorem dX6_counted_12 : decode cX6_counted 12 = .ok (.iaload, 1) := by decide +kernel
theorem dX6_counted_13 : decode cX6_counted 13 = .ok (.ireturn, 1) := by decide +kernel
theorem dX6_counted_14 : decode cX6_counted 14 = .ok (.iload_n 1, 1) := by decide +kernel
theorem dX6_counted_15 : decode cX6_counted 15 = .ok (.bipush 8, 2) := by decide +kernel
theorem dX6_counted_17 : decode cX6_counted 17 = .ok (.if_icmp .ge 15, 3) := by decide +kernel
theorem dX6_counted_20 : decode cX6_counted 20 = .ok (.aload_n 0, 1) := by decide +kernel
theorem dX6_counted_21 : decode cX6_counted 21 = .ok (.getfield 7, 3) := by decide +kernel
theorem dX6_counted_24 : decode cX6_counted 24 = .ok (.bipush 7, 2) := by decide +kernel
theorem dX6_counted_26 : decode cX6_counted 26 = .ok (.iload_n 1, 1) := by decide +kernel
theorem dX6_counted_27 : decode cX6_counted 27 = .ok (.iadd, 1) := by decide +kernel
theorem dX6_counted_28 : decode cX6_counted 28 = .ok (.iconst 2, 1) := by decide +kernel
theorem dX6_counted_29 : decode cX6_counted 29 = .ok (.isub, 1) := by decide +kernel
theorem dX6_counted_30 : decode cX6_counted 30 = .ok (.iaload, 1) := by decide +kernel
theorem dX6_counted_31 : decode cX6_counted 31 = .ok (.ireturn, 1) := by decide +kernel
theorem dX6_counted_32 : decode cX6_counted 32 = .ok (.iload_n 1, 1) := by decide +kernel
theorem dX6_counted_33 : decode cX6_counted 33 = .ok (.bipush 8, 2) := by decide +kernel
theorem dX6_counted_35 : decode cX6_counted 35 = .ok (.if_icmp .ne 13, 3) := by decide +kernel
theorem dX6_counted_38 : decode cX6_counted 38 = .ok (.aload_n 0, 1) := by decide +kernel
theorem dX6_counted_39 : decode cX6_counted 39 = .ok (.getfield 7, 3) := by decide +kernel
theorem dX6_counted_42 : decode cX6_counted 42 = .ok (.invokestatic 170, 3) := by decide +kernel
theorem dX6_counted_45 : decode cX6_counted 45 = .ok (.goto 36, 3) := by decide +kernel
theorem dX6_counted_48 : decode cX6_counted 48 = .ok (.iload_n 1, 1) := by decide +kernel
theorem dX6_counted_49 : decode cX6_counted 49 = .ok (.bipush 9, 2) := by decide +kernel
theorem dX6_counted_51 : decode cX6_counted 51 = .ok (.if_icmp .ne 10, 3) := by decide +kernel
theorem dX6_counted_54 : decode cX6_counted 54 = .ok (.aload_n 0, 1) := by decide +kernel
theorem dX6_counted_55 : decode cX6_counted 55 = .ok (.invokevirtual 174, 3) := by decide +kernel
theorem dX6_counted_58 : decode cX6_counted 58 = .ok (.goto 23, 3) := by decide +kernel
theorem dX6_counted_61 : decode cX6_counted 61 = .ok (.iload_n 1, 1) := by decide +kernel
theorem dX6_counted_62 : decode cX6_counted 62 = .ok (.bipush 10, 2) := by decide +kernel
theorem dX6_counted_64 : decode cX6_counted 64 = .ok (.if_icmp .ne 13, 3) := by decide +kernel
theorem dX6_counted_67 : decode cX6_counted 67 = .ok (.aload_n 0, 1) := by decide +kernel
theorem dX6_counted_68 : decode cX6_counted 68 = .ok (.getfield 7, 3) := by decide +kernel
theorem dX6_counted_71 : decode cX6_counted 71 = .ok (.bipush 13, 2) := by decide +kernel
theorem dX6_counted_73 : decode cX6_counted 73 = .ok (.iaload, 1) := by decide +kernel
theorem dX6_counted_74 : decode cX6_counted 74 = .ok (.goto 7, 3) := by decide +kernel
theorem dX6_counted_77 : decode cX6_counted 77 = .ok (.aload_n 0, 1) := by decide +kernel
theorem dX6_counted_78 : decode cX6_counted 78 = .ok (.getfield 36, 3) := by decide +kernel
theorem dX6_counted_81 : decode cX6_counted 81 = .ok (.ireturn, 1) := by decide +kernel
theorem dX6_count_0 : decode cX6_count 0 = .ok (.aload_n 0, 1) := by decide +kernel
theorem dX6_count_1 : decode cX6_count 1 = .ok (.iconst 0, 1) := by decide +kernel
theorem dX6_count_2 : decode cX6_count 2 = .ok (.putfield 28, 3) := by decide +kernel
theorem dX6_count_5 : decode cX6_count 5 = .ok (.iload_n 1, 1) := by decide +kernel
theorem dX6_count_6 : decode cX6_count 6 = .ok (.iconst 0, 1) := by decide +kernel
theorem dX6_count_7 : decode cX6_count 7 = .ok (.bipush 11, 2) := by decide +kernel
theorem dX6_count_9 : decode cX6_count 9 = .ok (.invokestatic 32, 3) := by decide +kernel
theorem dX6_count_12 : decode cX6_count 12 = .ok (.ifCond .eq 11, 3) := by decide +kernel
theorem dX6_count_15 : decode cX6_count 15 = .ok (.aload_n 0, 1) := by decide +kernel
theorem dX6_count_16 : decode cX6_count 16 = .ok (.iload_n 1, 1) := by decide +kernel
theorem dX6_count_17 : decode cX6_count 17 = .ok (.invokevirtual 178, 3) := by decide +kernel
theorem dX6_count_20 : decode cX6_count 20 = .ok (.goto 8, 3) := by decide +kernel
theorem dX6_count_23 : decode cX6_count 23 = .ok (.aload_n 0, 1) := by decide +kernel
theorem dX6_count_24 : decode cX6_count 24 = .ok (.iconst 1, 1) := by decide +kernel
theorem dX6_count_25 : decode cX6_count 25 = .ok (.invokevirtual 39, 3) := by decide +kernel
theorem dX6_count_28 : decode cX6_count 28 = .ok (.ireturn, 1) := by decide +kernel
theorem dX6_setting_0 : decode cX6_setting 0 = .ok (.aload_n 0, 1) := by decide +kernel
theorem dX6_setting_1 : decode cX6_setting 1 = .ok (.iconst 0, 1) := by decide +kernel
theorem dX6_setting_2 : decode cX6_setting 2 = .ok (.putfield 28, 3) := by decide +kernel
theorem dX6_setting_5 : decode cX6_setting 5 = .ok (.iload_n 1, 1) := by decide +kernel
theorem dX6_setting_6 : decode cX6_setting 6 = .ok (.iconst 0, 1) := by decide +kernel
theorem dX6_setting_7 : decode cX6_setting 7 = .ok (.iconst 3, 1) := by decide +kernel
theorem dX6_setting_8 : decode cX6_setting 8 = .ok (.invokestatic 32, 3) := by decide +kernel
theorem dX6_setting_11 : decode cX6_setting 11 = .ok (.ifCond .eq 12, 3) := by decide +kernel
theorem dX6_setting_14 : decode cX6_setting 14 = .ok (.aload_n 0, 1) := by decide +kernel
theorem dX6_setting_15 : decode cX6_setting 15 = .ok (.getfield 7, 3) := by decide +kernel
theorem dX6_setting_18 : decode cX6_setting 18 = .ok (.iload_n 1, 1) := by decide +kernel
theorem dX6_setting_19 : decode cX6_setting 19 = .ok (.iaload, 1) := by decide +kernel
theorem dX6_setting_20 : decode cX6_setting 20 = .ok (.goto 8, 3) := by decide +kernel
theorem dX6_setting_23 : decode cX6_setting 23 = .ok (.aload_n 0, 1) := by decide +kernel
theorem dX6_setting_24 : decode cX6_setting 24 = .ok (.iconst 1, 1) := by decide +kernel
theorem dX6_setting_25 : decode cX6_setting 25 = .ok (.invokevirtual 39, 3) := by decide +kernel
theorem dX6_setting_28 : decode cX6_setting 28 = .ok (.ireturn, 1) := by decide +kernel
theorem dX6_byHours_0 : decode cX6_byHours 0 = .ok (.aload_n 0, 1) := by decide +kernel
theorem dX6_byHours_1 : decode cX6_byHours 1 = .ok (.invokevirtual 181, 3) := by decide +kernel
theorem dX6_byHours_4 : decode cX6_byHours 4 = .ok (.aload_n 0, 1) := by decide +kernel
theorem dX6_byHours_5 : decode cX6_byHours 5 = .ok (.aload_n 0, 1) := by decide +kernel
theorem dX6_byHours_6 : decode cX6_byHours 6 = .ok (.getfield 13, 3) := by decide +kernel
theorem dX6_byHours_9 : decode cX6_byHours 9 = .ok (.iload_n 1, 1) := by decide +kernel
theorem dX6_byHours_10 : decode cX6_byHours 10 = .ok (.invokevirtual 121, 3) := by decide +kernel
theorem dX6_byHours_13 : decode cX6_byHours 13 = .ok (.iload_n 2, 1) := by decide +kernel
theorem dX6_byHours_14 : decode cX6_byHours 14 = .ok (.iconst 3, 1) := by decide +kernel
theorem dX6_byHours_15 : decode cX6_byHours 15 = .ok (.if_icmp .ne 11, 3) := by decide +kernel
theorem dX6_byHours_18 : decode cX6_byHours 18 = .ok (.aload_n 0, 1) := by decide +kernel
theorem dX6_byHours_19 : decode cX6_byHours 19 = .ok (.getfield 13, 3) := by decide +kernel
theorem dX6_byHours_22 : decode cX6_byHours 22 = .ok (.invokestatic 170, 3) := by decide +kernel
theorem dX6_byHours_25 : decode cX6_byHours 25 = .ok (.ireturn, 1) := by decide +kernel
theorem dX6_byHours_26 : decode cX6_byHours 26 = .ok (.iload_n 2, 1) := by decide +kernel
theorem dX6_byHours_27 : decode cX6_byHours 27 = .ok (.ifCond .ne 8, 3) := by decide +kernel
theorem dX6_byHours_30 : decode cX6_byHours 30 = .ok (.bipush 7, 2) := by decide +kernel
theorem dX6_byHours_32 : decode cX6_byHours 32 = .ok (.goto 25, 3) := by decide +kernel
theorem dX6_byHours_35 : decode cX6_byHours 35 = .ok (.iload_n 2, 1) := by decide +kernel
theorem dX6_byHours_36 : decode cX6_byHours 36 = .ok (.iconst 1, 1) := by decide +kernel
theorem dX6_byHours_37 : decode cX6_byHours 37 = .ok (.if_icmp .ne 8, 3) := by decide +kernel
theorem dX6_byHours_40 : decode cX6_byHours 40 = .ok (.bipush 9, 2) := by decide +kernel
theorem dX6_byHours_42 : decode cX6_byHours 42 = .ok (.goto 15, 3) := by decide +kernel
theorem dX6_byHours_45 : decode cX6_byHours 45 = .ok (.iload_n 2, 1) := by decide +kernel
theorem dX6_byHours_46 : decode cX6_byHours 46 = .ok (.iconst 2, 1) := by decide +kernel
theorem dX6_byHours_47 : decode cX6_byHours 47 = .ok (.if_icmp .ne 8, 3) := by decide +kernel
theorem dX6_byHours_50 : decode cX6_byHours 50 = .ok (.bipush 11, 2) := by decide +kernel
theorem dX6_byHours_52 : decode cX6_byHours 52 = .ok (.goto 5, 3) := by decide +kernel
theorem dX6_byHours_55 : decode cX6_byHours 55 = .ok (.bipush 8, 2) := by decide +kernel
theorem dX6_byHours_57 : decode cX6_byHours 57 = .ok (.istore_n 3, 1) := by decide +kernel
theorem dX6_byHours_58 : decode cX6_byHours 58 = .ok (.aload_n 0, 1) := by decide +kernel
theorem dX6_byHours_59 : decode cX6_byHours 59 = .ok (.getfield 13, 3) := by decide +kernel
theorem dX6_byHours_62 : decode cX6_byHours 62 = .ok (.iload_n 3, 1) := by decide +kernel
theorem dX6_byHours_63 : decode cX6_byHours 63 = .ok (.iaload, 1) := by decide +kernel
theorem dX6_byHours_64 : decode cX6_byHours 64 = .ok (.aload_n 0, 1) := by decide +kernel
theorem dX6_byHours_65 : decode cX6_byHours 65 = .ok (.getfield 7, 3) := by decide +kernel
theorem dX6_byHours_68 : decode cX6_byHours 68 = .ok (.iload_n 3, 1) := by decide +kernel
theorem dX6_byHours_69 : decode cX6_byHours 69 = .ok (.iaload, 1) := by decide +kernel
theorem dX6_byHours_70 : decode cX6_byHours 70 = .ok (.isub, 1) := by decide +kernel
theorem dX6_byHours_71 : decode cX6_byHours 71 = .ok (.ireturn, 1) := by decide +kernel
theorem dX6_ifPassed_0 : decode cX6_ifPassed 0 = .ok (.aload_n 0, 1) := by decide +kernel
theorem dX6_ifPassed_1 : decode cX6_ifPassed 1 = .ok (.iconst 0, 1) := by decide +kernel
theorem dX6_ifPassed_2 : decode cX6_ifPassed 2 = .ok (.putfield 28, 3) := by decide +kernel
theorem dX6_ifPassed_5 : decode cX6_ifPassed 5 = .ok (.iload_n 1, 1) := by decide +kernel
theorem dX6_ifPassed_6 : decode cX6_ifPassed 6 = .ok (.iconst 1, 1) := by decide +kernel
theorem dX6_ifPassed_7 : decode cX6_ifPassed 7 = .ok (.sipush 200, 3) := by decide +kernel
theorem dX6_ifPassed_10 : decode cX6_ifPassed 10 = .ok (.invokestatic 32, 3) := by decide +kernel
theorem dX6_ifPassed_13 : decode cX6_ifPassed 13 = .ok (.ifCond .eq 21, 3) := by decide +kernel
theorem dX6_ifPassed_16 : decode cX6_ifPassed 16 = .ok (.iload_n 2, 1) := by decide +kernel
theorem dX6_ifPassed_17 : decode cX6_ifPassed 17 = .ok (.iconst 0, 1) := by decide +kernel
theorem dX6_ifPassed_18 : decode cX6_ifPassed 18 = .ok (.iconst 4, 1) := by decide +kernel
theorem dX6_ifPassed_19 : decode cX6_ifPassed 19 = .ok (.invokestatic 32, 3) := by decide +kernel
theorem dX6_ifPassed_22 : decode cX6_ifPassed 22 = .ok (.ifCond .eq 12, 3) := by decide +kernel
theorem dX6_ifPassed_25 : decode cX6_ifPassed 25 = .ok (.aload_n 0, 1) := by decide +kernel
theorem dX6_ifPassed_26 : decode cX6_ifPassed 26 = .ok (.iload_n 1, 1) := by decide +kernel
theorem dX6_ifPassed_27 : decode cX6_ifPassed 27 = .ok (.iload_n 2, 1) := by decide +kernel
theorem dX6_ifPassed_28 : decode cX6_ifPassed 28 = .ok (.invokevirtual 184, 3) := by decide +kernel
theorem dX6_ifPassed_31 : decode cX6_ifPassed 31 = .ok (.goto 8, 3) := by decide +kernel
theorem dX6_ifPassed_34 : decode cX6_ifPassed 34 = .ok (.aload_n 0, 1) := by decide +kernel
theorem dX6_ifPassed_35 : decode cX6_ifPassed 35 = .ok (.iconst 1, 1) := by decide +kernel
theorem dX6_ifPassed_36 : decode cX6_ifPassed 36 = .ok (.invokevirtual 39, 3) := by decide +kernel
theorem dX6_ifPassed_39 : decode cX6_ifPassed 39 = .ok (.ireturn, 1) := by decide +kernel
theorem dX6_behind_0 : decode cX6_behind 0 = .ok (.aload_n 0, 1) := by decide +kernel
theorem dX6_behind_1 : decode cX6_behind 1 = .ok (.invokevirtual 181, 3) := by decide +kernel
theorem dX6_behind_4 : decode cX6_behind 4 = .ok (.iconst 1, 1) := by decide +kernel
theorem dX6_behind_5 : decode cX6_behind 5 = .ok (.istore_n 2, 1) := by decide +kernel
theorem dX6_behind_6 : decode cX6_behind 6 = .ok (.iload_n 2, 1) := by decide +kernel
theorem dX6_behind_7 : decode cX6_behind 7 = .ok (.sipush 200, 3) := by decide +kernel
theorem dX6_behind_10 : decode cX6_behind 10 = .ok (.if_icmp .gt 31, 3) := by decide +kernel
theorem dX6_behind_13 : decode cX6_behind 13 = .ok (.aload_n 0, 1) := by decide +kernel
theorem dX6_behind_14 : decode cX6_behind 14 = .ok (.aload_n 0, 1) := by decide +kernel
theorem dX6_behind_15 : decode cX6_behind 15 = .ok (.getfield 13, 3) := by decide +kernel
theorem dX6_behind_18 : decode cX6_behind 18 = .ok (.invokevirtual 99, 3) := by decide +kernel
theorem dX6_behind_21 : decode cX6_behind 21 = .ok (.aload_n 0, 1) := by decide +kernel
theorem dX6_behind_22 : decode cX6_behind 22 = .ok (.getfield 13, 3) := by decide +kernel
theorem dX6_behind_25 : decode cX6_behind 25 = .ok (.iload_n 1, 1) := by decide +kernel
theorem dX6_behind_26 : decode cX6_behind 26 = .ok (.invokestatic 118, 3) := by decide +kernel
theorem dX6_behind_29 : decode cX6_behind 29 = .ok (.iconst (-1), 1) := by decide +kernel
theorem dX6_behind_30 : decode cX6_behind 30 = .ok (.if_icmp .ne 5, 3) := by decide +kernel
theorem dX6_behind_33 : decode cX6_behind 33 = .ok (.iload_n 2, 1) := by decide +kernel
theorem dX6_behind_34 : decode cX6_behind 34 = .ok (.ireturn, 1) := by decide +kernel
theorem dX6_behind_35 : decode cX6_behind 35 = .ok (.iinc 2 1, 3) := by decide +kernel
theorem dX6_behind_38 : decode cX6_behind 38 = .ok (.goto (-32), 3) := by decide +kernel
theorem dX6_behind_41 : decode cX6_behind 41 = .ok (.iconst (-1), 1) := by decide +kernel
theorem dX6_behind_42 : decode cX6_behind 42 = .ok (.ireturn, 1) := by decide +kernel
theorem dX6_doneIn_0 : decode cX6_doneIn 0 = .ok (.aload_n 0, 1) := by decide +kernel
theorem dX6_doneIn_1 : decode cX6_doneIn 1 = .ok (.iconst 0, 1) := by decide +kernel
theorem dX6_doneIn_2 : decode cX6_doneIn 2 = .ok (.putfield 28, 3) := by decide +kernel
theorem dX6_doneIn_5 : decode cX6_doneIn 5 = .ok (.aload_n 0, 1) := by decide +kernel
theorem dX6_doneIn_6 : decode cX6_doneIn 6 = .ok (.getfield 7, 3) := by decide +kernel
theorem dX6_doneIn_9 : decode cX6_doneIn 9 = .ok (.iload_n 1, 1) := by decide +kernel
theorem dX6_doneIn_10 : decode cX6_doneIn 10 = .ok (.invokestatic 118, 3) := by decide +kernel
theorem dX6_doneIn_13 : decode cX6_doneIn 13 = .ok (.iconst (-1), 1) := by decide +kernel
theorem dX6_doneIn_14 : decode cX6_doneIn 14 = .ok (.if_icmp .eq 11, 3) := by decide +kernel
theorem dX6_doneIn_17 : decode cX6_doneIn 17 = .ok (.aload_n 0, 1) := by decide +kernel
theorem dX6_doneIn_18 : decode cX6_doneIn 18 = .ok (.iload_n 1, 1) := by decide +kernel
theorem dX6_doneIn_19 : decode cX6_doneIn 19 = .ok (.invokevirtual 187, 3) := by decide +kernel
theorem dX6_doneIn_22 : decode cX6_doneIn 22 = .ok (.goto 8, 3) := by decide +kernel
theorem dX6_doneIn_25 : decode cX6_doneIn 25 = .ok (.aload_n 0, 1) := by decide +kernel
theorem dX6_doneIn_26 : decode cX6_doneIn 26 = .ok (.iconst 1, 1) := by decide +kernel
theorem dX6_doneIn_27 : decode cX6_doneIn 27 = .ok (.invokevirtual 39, 3) := by decide +kernel
theorem dX6_doneIn_30 : decode cX6_doneIn 30 = .ok (.ireturn, 1) := by decide +kernel
theorem dX6_best_0 : decode cX6_best 0 = .ok (.iconst (-1), 1) := by decide +kernel
theorem dX6_best_1 : decode cX6_best 1 = .ok (.istore_n 2, 1) := by decide +kernel
theorem dX6_best_2 : decode cX6_best 2 = .ok (.iconst 0, 1) := by decide +kernel
theorem dX6_best_3 : decode cX6_best 3 = .ok (.istore_n 3, 1) := by decide +kernel
theorem dX6_best_4 : decode cX6_best 4 = .ok (.iconst 0, 1) := by decide +kernel
theorem dX6_best_5 : decode cX6_best 5 = .ok (.istore 4, 2) := by decide +kernel
theorem dX6_best_7 : decode cX6_best 7 = .ok (.iconst 0, 1) := by decide +kernel
theorem dX6_best_8 : decode cX6_best 8 = .ok (.istore 5, 2) := by decide +kernel
theorem dX6_best_10 : decode cX6_best 10 = .ok (.iload 5, 2) := by decide +kernel
theorem dX6_best_12 : decode cX6_best 12 = .ok (.iconst 3, 1) := by decide +kernel
theorem dX6_best_13 : decode cX6_best 13 = .ok (.if_icmp .ge 124, 3) := by decide +kernel
theorem dX6_best_16 : decode cX6_best 16 = .ok (.aload_n 0, 1) := by decide +kernel
theorem dX6_best_17 : decode cX6_best 17 = .ok (.invokevirtual 181, 3) := by decide +kernel
theorem dX6_best_20 : decode cX6_best 20 = .ok (.aload_n 0, 1) := by decide +kernel
theorem dX6_best_21 : decode cX6_best 21 = .ok (.getfield 13, 3) := by decide +kernel
theorem dX6_best_24 : decode cX6_best 24 = .ok (.iconst 0, 1) := by decide +kernel
theorem dX6_best_25 : decode cX6_best 25 = .ok (.iload 5, 2) := by decide +kernel
theorem dX6_best_27 : decode cX6_best 27 = .ok (.iastore, 1) := by decide +kernel
theorem dX6_best_28 : decode cX6_best 28 = .ok (.aload_n 0, 1) := by decide +kernel
theorem dX6_best_29 : decode cX6_best 29 = .ok (.aload_n 0, 1) := by decide +kernel
theorem dX6_best_30 : decode cX6_best 30 = .ok (.getfield 13, 3) := by decide +kernel
theorem dX6_best_33 : decode cX6_best 33 = .ok (.iload_n 1, 1) := by decide +kernel
theorem dX6_best_34 : decode cX6_best 34 = .ok (.invokevirtual 121, 3) := by decide +kernel
theorem dX6_best_37 : decode cX6_best 37 = .ok (.iload_n 2, 1) := by decide +kernel
theorem dX6_best_38 : decode cX6_best 38 = .ok (.iconst (-1), 1) := by decide +kernel
theorem dX6_best_39 : decode cX6_best 39 = .ok (.if_icmp .eq 37, 3) := by decide +kernel
theorem dX6_best_42 : decode cX6_best 42 = .ok (.aload_n 0, 1) := by decide +kernel
theorem dX6_best_43 : decode cX6_best 43 = .ok (.getfield 13, 3) := by decide +kernel
theorem dX6_best_46 : decode cX6_best 46 = .ok (.bipush 9, 2) := by decide +kernel
theorem dX6_best_48 : decode cX6_best 48 = .ok (.iaload, 1) := by decide +kernel
theorem dX6_best_49 : decode cX6_best 49 = .ok (.iload_n 3, 1) := by decide +kernel
theorem dX6_best_50 : decode cX6_best 50 = .ok (.if_icmp .gt 26, 3) := by decide +kernel
theorem dX6_best_53 : decode cX6_best 53 = .ok (.aload_n 0, 1) := by decide +kernel
theorem dX6_best_54 : decode cX6_best 54 = .ok (.getfield 13, 3) := by decide +kernel
theorem dX6_best_57 : decode cX6_best 57 = .ok (.bipush 9, 2) := by decide +kernel
theorem dX6_best_59 : decode cX6_best 59 = .ok (.iaload, 1) := by decide +kernel
theorem dX6_best_60 : decode cX6_best 60 = .ok (.iload_n 3, 1) := by decide +kernel
theorem dX6_best_61 : decode cX6_best 61 = .ok (.if_icmp .ne 19, 3) := by decide +kernel
theorem dX6_best_64 : decode cX6_best 64 = .ok (.aload_n 0, 1) := by decide +kernel
theorem dX6_best_65 : decode cX6_best 65 = .ok (.getfield 13, 3) := by decide +kernel
theorem dX6_best_68 : decode cX6_best 68 = .ok (.bipush 8, 2) := by decide +kernel
theorem dX6_best_70 : decode cX6_best 70 = .ok (.iaload, 1) := by decide +kernel
theorem dX6_best_71 : decode cX6_best 71 = .ok (.iload 4, 2) := by decide +kernel
theorem dX6_best_73 : decode cX6_best 73 = .ok (.if_icmp .ge 7, 3) := by decide +kernel
theorem dX6_best_76 : decode cX6_best 76 = .ok (.iconst 1, 1) := by decide +kernel
theorem dX6_best_77 : decode cX6_best 77 = .ok (.goto 4, 3) := by decide +kernel
theorem dX6_best_80 : decode cX6_best 80 = .ok (.iconst 0, 1) := by decide +kernel
theorem dX6_best_81 : decode cX6_best 81 = .ok (.istore 6, 2) := by decide +kernel
theorem dX6_best_83 : decode cX6_best 83 = .ok (.iload 6, 2) := by decide +kernel
theorem dX6_best_85 : decode cX6_best 85 = .ok (.ifCond .eq 8, 3) := by decide +kernel
theorem dX6_best_88 : decode cX6_best 88 = .ok (.iload 5, 2) := by decide +kernel
theorem dX6_best_90 : decode cX6_best 90 = .ok (.goto 4, 3) := by decide +kernel
theorem dX6_best_93 : decode cX6_best 93 = .ok (.iload_n 2, 1) := by decide +kernel
theorem dX6_best_94 : decode cX6_best 94 = .ok (.istore_n 2, 1) := by decide +kernel
theorem dX6_best_95 : decode cX6_best 95 = .ok (.iload 6, 2) := by decide +kernel
theorem dX6_best_97 : decode cX6_best 97 = .ok (.ifCond .eq 13, 3) := by decide +kernel
theorem dX6_best_100 : decode cX6_best 100 = .ok (.aload_n 0, 1) := by decide +kernel
theorem dX6_best_101 : decode cX6_best 101 = .ok (.getfield 13, 3) := by decide +kernel
theorem dX6_best_104 : decode cX6_best 104 = .ok (.bipush 9, 2) := by decide +kernel
theorem dX6_best_106 : decode cX6_best 106 = .ok (.iaload, 1) := by decide +kernel
theorem dX6_best_107 : decode cX6_best 107 = .ok (.goto 4, 3) := by decide +kernel
theorem dX6_best_110 : decode cX6_best 110 = .ok (.iload_n 3, 1) := by decide +kernel
theorem dX6_best_111 : decode cX6_best 111 = .ok (.istore_n 3, 1) := by decide +kernel
theorem dX6_best_112 : decode cX6_best 112 = .ok (.iload 6, 2) := by decide +kernel
theorem dX6_best_114 : decode cX6_best 114 = .ok (.ifCond .eq 13, 3) := by decide +kernel
theorem dX6_best_117 : decode cX6_best 117 = .ok (.aload_n 0, 1) := by decide +kernel
theorem dX6_best_118 : decode cX6_best 118 = .ok (.getfield 13, 3) := by decide +kernel
theorem dX6_best_121 : decode cX6_best 121 = .ok (.bipush 8, 2) := by decide +kernel
theorem dX6_best_123 : decode cX6_best 123 = .ok (.iaload, 1) := by decide +kernel
theorem dX6_best_124 : decode cX6_best 124 = .ok (.goto 5, 3) := by decide +kernel
theorem dX6_best_127 : decode cX6_best 127 = .ok (.iload 4, 2) := by decide +kernel
theorem dX6_best_129 : decode cX6_best 129 = .ok (.istore 4, 2) := by decide +kernel
theorem dX6_best_131 : decode cX6_best 131 = .ok (.iinc 5 1, 3) := by decide +kernel
theorem dX6_best_134 : decode cX6_best 134 = .ok (.goto (-124), 3) := by decide +kernel
theorem dX6_best_137 : decode cX6_best 137 = .ok (.iload_n 2, 1) := by decide +kernel
theorem dX6_best_138 : decode cX6_best 138 = .ok (.ireturn, 1) := by decide +kernel
theorem dX6_bestRule_0 : decode cX6_bestRule 0 = .ok (.aload_n 0, 1) := by decide +kernel
theorem dX6_bestRule_1 : decode cX6_bestRule 1 = .ok (.iconst 0, 1) := by decide +kernel
theorem dX6_bestRule_2 : decode cX6_bestRule 2 = .ok (.putfield 28, 3) := by decide +kernel
theorem dX6_bestRule_5 : decode cX6_bestRule 5 = .ok (.iload_n 1, 1) := by decide +kernel
theorem dX6_bestRule_6 : decode cX6_bestRule 6 = .ok (.iconst 1, 1) := by decide +kernel
theorem dX6_bestRule_7 : decode cX6_bestRule 7 = .ok (.bipush 99, 2) := by decide +kernel
theorem dX6_bestRule_9 : decode cX6_bestRule 9 = .ok (.invokestatic 32, 3) := by decide +kernel
theorem dX6_bestRule_12 : decode cX6_bestRule 12 = .ok (.ifCond .eq 11, 3) := by decide +kernel
theorem dX6_bestRule_15 : decode cX6_bestRule 15 = .ok (.aload_n 0, 1) := by decide +kernel
theorem dX6_bestRule_16 : decode cX6_bestRule 16 = .ok (.iload_n 1, 1) := by decide +kernel
theorem dX6_bestRule_17 : decode cX6_bestRule 17 = .ok (.invokevirtual 190, 3) := by decide +kernel
theorem dX6_bestRule_20 : decode cX6_bestRule 20 = .ok (.goto 8, 3) := by decide +kernel
theorem dX6_bestRule_23 : decode cX6_bestRule 23 = .ok (.aload_n 0, 1) := by decide +kernel
theorem dX6_bestRule_24 : decode cX6_bestRule 24 = .ok (.iconst 1, 1) := by decide +kernel
theorem dX6_bestRule_25 : decode cX6_bestRule 25 = .ok (.invokevirtual 39, 3) := by decide +kernel
theorem dX6_bestRule_28 : decode cX6_bestRule 28 = .ok (.ireturn, 1) := by decide +kernel
theorem dX6_due_0 : decode cX6_due 0 = .ok (.aload_n 0, 1) := by decide +kernel
theorem dX6_due_1 : decode cX6_due 1 = .ok (.getfield 7, 3) := by decide +kernel
theorem dX6_due_4 : decode cX6_due 4 = .ok (.iload_n 1, 1) := by decide +kernel
theorem dX6_due_5 : decode cX6_due 5 = .ok (.invokestatic 90, 3) := by decide +kernel
theorem dX6_due_8 : decode cX6_due 8 = .ok (.istore_n 3, 1) := by decide +kernel
theorem dX6_due_9 : decode cX6_due 9 = .ok (.aload_n 0, 1) := by decide +kernel
theorem dX6_due_10 : decode cX6_due 10 = .ok (.aload_n 0, 1) := by decide +kernel
theorem dX6_due_11 : decode cX6_due 11 = .ok (.getfield 7, 3) := by decide +kernel
theorem dX6_due_14 : decode cX6_due 14 = .ok (.iload_n 1, 1) := by decide +kernel
theorem dX6_due_15 : decode cX6_due 15 = .ok (.aload_n 0, 1) := by decide +kernel
theorem dX6_due_16 : decode cX6_due 16 = .ok (.getfield 7, 3) := by decide +kernel
theorem dX6_due_19 : decode cX6_due 19 = .ok (.iload_n 1, 1) := by decide +kernel
theorem dX6_due_20 : decode cX6_due 20 = .ok (.iload_n 3, 1) := by decide +kernel
theorem dX6_due_21 : decode cX6_due 21 = .ok (.invokestatic 59, 3) := by decide +kernel
theorem dX6_due_24 : decode cX6_due 24 = .ok (.iload_n 3, 1) := by decide +kernel
theorem dX6_due_25 : decode cX6_due 25 = .ok (.invokevirtual 62, 3) := by decide +kernel
theorem dX6_due_28 : decode cX6_due 28 = .ok (.aload_n 0, 1) := by decide +kernel
theorem dX6_due_29 : decode cX6_due 29 = .ok (.getfield 25, 3) := by decide +kernel
theorem dX6_due_32 : decode cX6_due 32 = .ok (.iload_n 2, 1) := by decide +kernel
theorem dX6_due_33 : decode cX6_due 33 = .ok (.iaload, 1) := by decide +kernel
theorem dX6_due_34 : decode cX6_due 34 = .ok (.ireturn, 1) := by decide +kernel
theorem dX6_dueNow_0 : decode cX6_dueNow 0 = .ok (.aload_n 0, 1) := by decide +kernel
theorem dX6_dueNow_1 : decode cX6_dueNow 1 = .ok (.iconst 0, 1) := by decide +kernel
theorem dX6_dueNow_2 : decode cX6_dueNow 2 = .ok (.putfield 28, 3) := by decide +kernel
theorem dX6_dueNow_5 : decode cX6_dueNow 5 = .ok (.aload_n 0, 1) := by decide +kernel
theorem dX6_dueNow_6 : decode cX6_dueNow 6 = .ok (.getfield 7, 3) := by decide +kernel
theorem dX6_dueNow_9 : decode cX6_dueNow 9 = .ok (.iload_n 1, 1) := by decide +kernel
theorem dX6_dueNow_10 : decode cX6_dueNow 10 = .ok (.invokestatic 118, 3) := by decide +kernel
theorem dX6_dueNow_13 : decode cX6_dueNow 13 = .ok (.istore_n 3, 1) := by decide +kernel
theorem dX6_dueNow_14 : decode cX6_dueNow 14 = .ok (.iload_n 3, 1) := by decide +kernel
theorem dX6_dueNow_15 : decode cX6_dueNow 15 = .ok (.iconst (-1), 1) := by decide +kernel
theorem dX6_dueNow_16 : decode cX6_dueNow 16 = .ok (.if_icmp .eq 19, 3) := by decide +kernel
theorem dX6_dueNow_19 : decode cX6_dueNow 19 = .ok (.iload_n 2, 1) := by decide +kernel
theorem dX6_dueNow_20 : decode cX6_dueNow 20 = .ok (.invokestatic 103, 3) := by decide +kernel
theorem dX6_dueNow_23 : decode cX6_dueNow 23 = .ok (.ifCond .eq 12, 3) := by decide +kernel
theorem dX6_dueNow_26 : decode cX6_dueNow 26 = .ok (.aload_n 0, 1) := by decide +kernel
theorem dX6_dueNow_27 : decode cX6_dueNow 27 = .ok (.iload_n 3, 1) := by decide +kernel
theorem dX6_dueNow_28 : decode cX6_dueNow 28 = .ok (.iload_n 2, 1) := by decide +kernel
theorem dX6_dueNow_29 : decode cX6_dueNow 29 = .ok (.invokevirtual 193, 3) := by decide +kernel
theorem dX6_dueNow_32 : decode cX6_dueNow 32 = .ok (.goto 8, 3) := by decide +kernel
theorem dX6_dueNow_35 : decode cX6_dueNow 35 = .ok (.aload_n 0, 1) := by decide +kernel
theorem dX6_dueNow_36 : decode cX6_dueNow 36 = .ok (.iconst 1, 1) := by decide +kernel
theorem dX6_dueNow_37 : decode cX6_dueNow 37 = .ok (.invokevirtual 39, 3) := by decide +kernel
theorem dX6_dueNow_40 : decode cX6_dueNow 40 = .ok (.ireturn, 1) := by decide +kernel
theorem dX6_even_0 : decode cX6_even 0 = .ok (.iconst (-1), 1) := by decide +kernel
theorem dX6_even_1 : decode cX6_even 1 = .ok (.istore_n 1, 1) := by decide +kernel
theorem dX6_even_2 : decode cX6_even 2 = .ok (.iconst 0, 1) := by decide +kernel
theorem dX6_even_3 : decode cX6_even 3 = .ok (.istore_n 2, 1) := by decide +kernel
theorem dX6_even_4 : decode cX6_even 4 = .ok (.iconst 0, 1) := by decide +kernel
theorem dX6_even_5 : decode cX6_even 5 = .ok (.istore_n 3, 1) := by decide +kernel
theorem dX6_even_6 : decode cX6_even 6 = .ok (.iload_n 3, 1) := by decide +kernel
theorem dX6_even_7 : decode cX6_even 7 = .ok (.bipush 6, 2) := by decide +kernel
theorem dX6_even_9 : decode cX6_even 9 = .ok (.if_icmp .ge 63, 3) := by decide +kernel
theorem dX6_even_12 : decode cX6_even 12 = .ok (.aload_n 0, 1) := by decide +kernel
theorem dX6_even_13 : decode cX6_even 13 = .ok (.getfield 7, 3) := by decide +kernel
theorem dX6_even_16 : decode cX6_even 16 = .ok (.iload_n 3, 1) := by decide +kernel
theorem dX6_even_17 : decode cX6_even 17 = .ok (.iconst 0, 1) := by decide +kernel
theorem dX6_even_18 : decode cX6_even 18 = .ok (.invokestatic 47, 3) := by decide +kernel
theorem dX6_even_21 : decode cX6_even 21 = .ok (.ifCond .le 45, 3) := by decide +kernel
theorem dX6_even_24 : decode cX6_even 24 = .ok (.aload_n 0, 1) := by decide +kernel
theorem dX6_even_25 : decode cX6_even 25 = .ok (.getfield 7, 3) := by decide +kernel
theorem dX6_even_28 : decode cX6_even 28 = .ok (.iload_n 3, 1) := by decide +kernel
theorem dX6_even_29 : decode cX6_even 29 = .ok (.iconst 4, 1) := by decide +kernel
theorem dX6_even_30 : decode cX6_even 30 = .ok (.invokestatic 47, 3) := by decide +kernel
theorem dX6_even_33 : decode cX6_even 33 = .ok (.istore 4, 2) := by decide +kernel
theorem dX6_even_35 : decode cX6_even 35 = .ok (.iload_n 1, 1) := by decide +kernel
theorem dX6_even_36 : decode cX6_even 36 = .ok (.iconst (-1), 1) := by decide +kernel
theorem dX6_even_37 : decode cX6_even 37 = .ok (.if_icmp .eq 9, 3) := by decide +kernel
theorem dX6_even_40 : decode cX6_even 40 = .ok (.iload 4, 2) := by decide +kernel
theorem dX6_even_42 : decode cX6_even 42 = .ok (.iload_n 1, 1) := by decide +kernel
theorem dX6_even_43 : decode cX6_even 43 = .ok (.if_icmp .ge 8, 3) := by decide +kernel
theorem dX6_even_46 : decode cX6_even 46 = .ok (.iload 4, 2) := by decide +kernel
theorem dX6_even_48 : decode cX6_even 48 = .ok (.goto 4, 3) := by decide +kernel
theorem dX6_even_51 : decode cX6_even 51 = .ok (.iload_n 1, 1) := by decide +kernel
theorem dX6_even_52 : decode cX6_even 52 = .ok (.istore_n 1, 1) := by decide +kernel
theorem dX6_even_53 : decode cX6_even 53 = .ok (.iload 4, 2) := by decide +kernel
theorem dX6_even_55 : decode cX6_even 55 = .ok (.iload_n 2, 1) := by decide +kernel
theorem dX6_even_56 : decode cX6_even 56 = .ok (.if_icmp .le 8, 3) := by decide +kernel
theorem dX6_even_59 : decode cX6_even 59 = .ok (.iload 4, 2) := by decide +kernel
theorem dX6_even_61 : decode cX6_even 61 = .ok (.goto 4, 3) := by decide +kernel
theorem dX6_even_64 : decode cX6_even 64 = .ok (.iload_n 2, 1) := by decide +kernel
theorem dX6_even_65 : decode cX6_even 65 = .ok (.istore_n 2, 1) := by decide +kernel
theorem dX6_even_66 : decode cX6_even 66 = .ok (.iinc 3 1, 3) := by decide +kernel
theorem dX6_even_69 : decode cX6_even 69 = .ok (.goto (-63), 3) := by decide +kernel
theorem dX6_even_72 : decode cX6_even 72 = .ok (.iload_n 2, 1) := by decide +kernel
theorem dX6_even_73 : decode cX6_even 73 = .ok (.ifCond .ne 7, 3) := by decide +kernel
theorem dX6_even_76 : decode cX6_even 76 = .ok (.dconst 1, 1) := by decide +kernel
theorem dX6_even_77 : decode cX6_even 77 = .ok (.goto 8, 3) := by decide +kernel
theorem dX6_even_80 : decode cX6_even 80 = .ok (.iload_n 1, 1) := by decide +kernel
theorem dX6_even_81 : decode cX6_even 81 = .ok (.i2d, 1) := by decide +kernel
theorem dX6_even_82 : decode cX6_even 82 = .ok (.iload_n 2, 1) := by decide +kernel
theorem dX6_even_83 : decode cX6_even 83 = .ok (.i2d, 1) := by decide +kernel
theorem dX6_even_84 : decode cX6_even 84 = .ok (.ddiv, 1) := by decide +kernel
theorem dX6_even_85 : decode cX6_even 85 = .ok (.dreturn, 1) := by decide +kernel
theorem dX6_evenness_0 : decode cX6_evenness 0 = .ok (.aload_n 0, 1) := by decide +kernel
theorem dX6_evenness_1 : decode cX6_evenness 1 = .ok (.iconst 0, 1) := by decide +kernel
theorem dX6_evenness_2 : decode cX6_evenness 2 = .ok (.putfield 28, 3) := by decide +kernel
theorem dX6_evenness_5 : decode cX6_evenness 5 = .ok (.aload_n 0, 1) := by decide +kernel
theorem dX6_evenness_6 : decode cX6_evenness 6 = .ok (.invokevirtual 196, 3) := by decide +kernel
theorem dX6_evenness_9 : decode cX6_evenness 9 = .ok (.dreturn, 1) := by decide +kernel
theorem dX6_digest_0 : decode cX6_digest 0 = .ok (.aload_n 0, 1) := by decide +kernel
theorem dX6_digest_1 : decode cX6_digest 1 = .ok (.iconst 0, 1) := by decide +kernel
theorem dX6_digest_2 : decode cX6_digest 2 = .ok (.putfield 28, 3) := by decide +kernel
theorem dX6_digest_5 : decode cX6_digest 5 = .ok (.ldc2_w 200, 3) := by decide +kernel
theorem dX6_digest_8 : decode cX6_digest 8 = .ok (.lstore_n 1, 1) := by decide +kernel
theorem dX6_digest_9 : decode cX6_digest 9 = .ok (.iconst 0, 1) := by decide +kernel
theorem dX6_digest_10 : decode cX6_digest 10 = .ok (.istore_n 3, 1) := by decide +kernel
theorem dX6_digest_11 : decode cX6_digest 11 = .ok (.iload_n 3, 1) := by decide +kernel
theorem dX6_digest_12 : decode cX6_digest 12 = .ok (.bipush 12, 2) := by decide +kernel
theorem dX6_digest_14 : decode cX6_digest 14 = .ok (.if_icmp .ge 22, 3) := by decide +kernel
theorem dX6_digest_17 : decode cX6_digest 17 = .ok (.ldc2_w 202, 3) := by decide +kernel
theorem dX6_digest_20 : decode cX6_digest 20 = .ok (.lload_n 1, 1) := by decide +kernel
theorem dX6_digest_21 : decode cX6_digest 21 = .ok (.lmul, 1) := by decide +kernel
theorem dX6_digest_22 : decode cX6_digest 22 = .ok (.aload_n 0, 1) := by decide +kernel
theorem dX6_digest_23 : decode cX6_digest 23 = .ok (.iload_n 3, 1) := by decide +kernel
theorem dX6_digest_24 : decode cX6_digest 24 = .ok (.invokevirtual 178, 3) := by decide +kernel
theorem dX6_digest_27 : decode cX6_digest 27 = .ok (.i2l, 1) := by decide +kernel
theorem dX6_digest_28 : decode cX6_digest 28 = .ok (.ladd, 1) := by decide +kernel
theorem dX6_digest_29 : decode cX6_digest 29 = .ok (.lstore_n 1, 1) := by decide +kernel
theorem dX6_digest_30 : decode cX6_digest 30 = .ok (.iinc 3 1, 3) := by decide +kernel
theorem dX6_digest_33 : decode cX6_digest 33 = .ok (.goto (-22), 3) := by decide +kernel
theorem dX6_digest_36 : decode cX6_digest 36 = .ok (.iconst 0, 1) := by decide +kernel
theorem dX6_digest_37 : decode cX6_digest 37 = .ok (.istore_n 3, 1) := by decide +kernel
theorem dX6_digest_38 : decode cX6_digest 38 = .ok (.iload_n 3, 1) := by decide +kernel
theorem dX6_digest_39 : decode cX6_digest 39 = .ok (.iconst 4, 1) := by decide +kernel
theorem dX6_digest_40 : decode cX6_digest 40 = .ok (.if_icmp .ge 23, 3) := by decide +kernel
theorem dX6_digest_43 : decode cX6_digest 43 = .ok (.ldc2_w 202, 3) := by decide +kernel
theorem dX6_digest_46 : decode cX6_digest 46 = .ok (.lload_n 1, 1) := by decide +kernel
theorem dX6_digest_47 : decode cX6_digest 47 = .ok (.lmul, 1) := by decide +kernel
theorem dX6_digest_48 : decode cX6_digest 48 = .ok (.aload_n 0, 1) := by decide +kernel
theorem dX6_digest_49 : decode cX6_digest 49 = .ok (.getfield 7, 3) := by decide +kernel
theorem dX6_digest_52 : decode cX6_digest 52 = .ok (.iload_n 3, 1) := by decide +kernel
theorem dX6_digest_53 : decode cX6_digest 53 = .ok (.iaload, 1) := by decide +kernel
theorem dX6_digest_54 : decode cX6_digest 54 = .ok (.i2l, 1) := by decide +kernel
theorem dX6_digest_55 : decode cX6_digest 55 = .ok (.ladd, 1) := by decide +kernel
theorem dX6_digest_56 : decode cX6_digest 56 = .ok (.lstore_n 1, 1) := by decide +kernel
theorem dX6_digest_57 : decode cX6_digest 57 = .ok (.iinc 3 1, 3) := by decide +kernel
theorem dX6_digest_60 : decode cX6_digest 60 = .ok (.goto (-22), 3) := by decide +kernel
theorem dX6_digest_63 : decode cX6_digest 63 = .ok (.iconst 0, 1) := by decide +kernel
theorem dX6_digest_64 : decode cX6_digest 64 = .ok (.istore_n 3, 1) := by decide +kernel
theorem dX6_digest_65 : decode cX6_digest 65 = .ok (.iload_n 3, 1) := by decide +kernel
theorem dX6_digest_66 : decode cX6_digest 66 = .ok (.bipush 6, 2) := by decide +kernel
theorem dX6_digest_68 : decode cX6_digest 68 = .ok (.if_icmp .ge 69, 3) := by decide +kernel
theorem dX6_digest_71 : decode cX6_digest 71 = .ok (.iconst 0, 1) := by decide +kernel
theorem dX6_digest_72 : decode cX6_digest 72 = .ok (.istore 4, 2) := by decide +kernel
theorem dX6_digest_74 : decode cX6_digest 74 = .ok (.iload 4, 2) := by decide +kernel
theorem dX6_digest_76 : decode cX6_digest 76 = .ok (.bipush 12, 2) := by decide +kernel
theorem dX6_digest_78 : decode cX6_digest 78 = .ok (.if_icmp .ge 27, 3) := by decide +kernel
theorem dX6_digest_81 : decode cX6_digest 81 = .ok (.ldc2_w 202, 3) := by decide +kernel
theorem dX6_digest_84 : decode cX6_digest 84 = .ok (.lload_n 1, 1) := by decide +kernel
theorem dX6_digest_85 : decode cX6_digest 85 = .ok (.lmul, 1) := by decide +kernel
theorem dX6_digest_86 : decode cX6_digest 86 = .ok (.aload_n 0, 1) := by decide +kernel
theorem dX6_digest_87 : decode cX6_digest 87 = .ok (.getfield 7, 3) := by decide +kernel
theorem dX6_digest_90 : decode cX6_digest 90 = .ok (.iload_n 3, 1) := by decide +kernel
theorem dX6_digest_91 : decode cX6_digest 91 = .ok (.iload 4, 2) := by decide +kernel
theorem dX6_digest_93 : decode cX6_digest 93 = .ok (.invokestatic 47, 3) := by decide +kernel
theorem dX6_digest_96 : decode cX6_digest 96 = .ok (.i2l, 1) := by decide +kernel
theorem dX6_digest_97 : decode cX6_digest 97 = .ok (.ladd, 1) := by decide +kernel
theorem dX6_digest_98 : decode cX6_digest 98 = .ok (.lstore_n 1, 1) := by decide +kernel
theorem dX6_digest_99 : decode cX6_digest 99 = .ok (.iinc 4 1, 3) := by decide +kernel
theorem dX6_digest_102 : decode cX6_digest 102 = .ok (.goto (-28), 3) := by decide +kernel
theorem dX6_digest_105 : decode cX6_digest 105 = .ok (.ldc2_w 202, 3) := by decide +kernel
theorem dX6_digest_108 : decode cX6_digest 108 = .ok (.ldc2_w 202, 3) := by decide +kernel
theorem dX6_digest_111 : decode cX6_digest 111 = .ok (.lload_n 1, 1) := by decide +kernel
theorem dX6_digest_112 : decode cX6_digest 112 = .ok (.lmul, 1) := by decide +kernel
theorem dX6_digest_113 : decode cX6_digest 113 = .ok (.aload_n 0, 1) := by decide +kernel
theorem dX6_digest_114 : decode cX6_digest 114 = .ok (.iload_n 3, 1) := by decide +kernel
theorem dX6_digest_115 : decode cX6_digest 115 = .ok (.iconst 0, 1) := by decide +kernel
theorem dX6_digest_116 : decode cX6_digest 116 = .ok (.invokevirtual 167, 3) := by decide +kernel
theorem dX6_digest_119 : decode cX6_digest 119 = .ok (.i2l, 1) := by decide +kernel
theorem dX6_digest_120 : decode cX6_digest 120 = .ok (.ladd, 1) := by decide +kernel
theorem dX6_digest_121 : decode cX6_digest 121 = .ok (.lmul, 1) := by decide +kernel
theorem dX6_digest_122 : decode cX6_digest 122 = .ok (.aload_n 0, 1) := by decide +kernel
theorem dX6_digest_123 : decode cX6_digest 123 = .ok (.iload_n 3, 1) := by decide +kernel
theorem dX6_digest_124 : decode cX6_digest 124 = .ok (.iconst 1, 1) := by decide +kernel
theorem dX6_digest_125 : decode cX6_digest 125 = .ok (.invokevirtual 167, 3) := by decide +kernel
theorem dX6_digest_128 : decode cX6_digest 128 = .ok (.i2l, 1) := by decide +kernel
theorem dX6_digest_129 : decode cX6_digest 129 = .ok (.ladd, 1) := by decide +kernel
theorem dX6_digest_130 : decode cX6_digest 130 = .ok (.lstore_n 1, 1) := by decide +kernel
theorem dX6_digest_131 : decode cX6_digest 131 = .ok (.iinc 3 1, 3) := by decide +kernel
theorem dX6_digest_134 : decode cX6_digest 134 = .ok (.goto (-69), 3) := by decide +kernel
theorem dX6_digest_137 : decode cX6_digest 137 = .ok (.iconst 0, 1) := by decide +kernel
theorem dX6_digest_138 : decode cX6_digest 138 = .ok (.istore_n 3, 1) := by decide +kernel
theorem dX6_digest_139 : decode cX6_digest 139 = .ok (.iload_n 3, 1) := by decide +kernel
theorem dX6_digest_140 : decode cX6_digest 140 = .ok (.iconst 4, 1) := by decide +kernel
theorem dX6_digest_141 : decode cX6_digest 141 = .ok (.if_icmp .ge 26, 3) := by decide +kernel
theorem dX6_digest_144 : decode cX6_digest 144 = .ok (.ldc2_w 202, 3) := by decide +kernel
theorem dX6_digest_147 : decode cX6_digest 147 = .ok (.lload_n 1, 1) := by decide +kernel
theorem dX6_digest_148 : decode cX6_digest 148 = .ok (.lmul, 1) := by decide +kernel
theorem dX6_digest_149 : decode cX6_digest 149 = .ok (.aload_n 0, 1) := by decide +kernel
theorem dX6_digest_150 : decode cX6_digest 150 = .ok (.getfield 7, 3) := by decide +kernel
theorem dX6_digest_153 : decode cX6_digest 153 = .ok (.bipush 14, 2) := by decide +kernel
theorem dX6_digest_155 : decode cX6_digest 155 = .ok (.iload_n 3, 1) := by decide +kernel
theorem dX6_digest_156 : decode cX6_digest 156 = .ok (.iadd, 1) := by decide +kernel
theorem dX6_digest_157 : decode cX6_digest 157 = .ok (.iaload, 1) := by decide +kernel
theorem dX6_digest_158 : decode cX6_digest 158 = .ok (.i2l, 1) := by decide +kernel
theorem dX6_digest_159 : decode cX6_digest 159 = .ok (.ladd, 1) := by decide +kernel
theorem dX6_digest_160 : decode cX6_digest 160 = .ok (.lstore_n 1, 1) := by decide +kernel
theorem dX6_digest_161 : decode cX6_digest 161 = .ok (.iinc 3 1, 3) := by decide +kernel
theorem dX6_digest_164 : decode cX6_digest 164 = .ok (.goto (-25), 3) := by decide +kernel
theorem dX6_digest_167 : decode cX6_digest 167 = .ok (.iconst 0, 1) := by decide +kernel
theorem dX6_digest_168 : decode cX6_digest 168 = .ok (.istore_n 3, 1) := by decide +kernel
theorem dX6_digest_169 : decode cX6_digest 169 = .ok (.iload_n 3, 1) := by decide +kernel
theorem dX6_digest_170 : decode cX6_digest 170 = .ok (.aload_n 0, 1) := by decide +kernel
theorem dX6_digest_171 : decode cX6_digest 171 = .ok (.getfield 7, 3) := by decide +kernel
theorem dX6_digest_174 : decode cX6_digest 174 = .ok (.iconst 5, 1) := by decide +kernel
theorem dX6_digest_175 : decode cX6_digest 175 = .ok (.iaload, 1) := by decide +kernel
theorem dX6_digest_176 : decode cX6_digest 176 = .ok (.if_icmp .ge 110, 3) := by decide +kernel
theorem dX6_digest_179 : decode cX6_digest 179 = .ok (.iconst 0, 1) := by decide +kernel
theorem dX6_digest_180 : decode cX6_digest 180 = .ok (.istore 4, 2) := by decide +kernel
theorem dX6_digest_182 : decode cX6_digest 182 = .ok (.iload 4, 2) := by decide +kernel
theorem dX6_digest_184 : decode cX6_digest 184 = .ok (.bipush 9, 2) := by decide +kernel
theorem dX6_digest_186 : decode cX6_digest 186 = .ok (.if_icmp .ge 24, 3) := by decide +kernel
theorem dX6_digest_189 : decode cX6_digest 189 = .ok (.ldc2_w 202, 3) := by decide +kernel
theorem dX6_digest_192 : decode cX6_digest 192 = .ok (.lload_n 1, 1) := by decide +kernel
theorem dX6_digest_193 : decode cX6_digest 193 = .ok (.lmul, 1) := by decide +kernel
theorem dX6_digest_194 : decode cX6_digest 194 = .ok (.aload_n 0, 1) := by decide +kernel
theorem dX6_digest_195 : decode cX6_digest 195 = .ok (.iload_n 3, 1) := by decide +kernel
theorem dX6_digest_196 : decode cX6_digest 196 = .ok (.iload 4, 2) := by decide +kernel
theorem dX6_digest_198 : decode cX6_digest 198 = .ok (.invokevirtual 163, 3) := by decide +kernel
theorem dX6_digest_201 : decode cX6_digest 201 = .ok (.i2l, 1) := by decide +kernel
theorem dX6_digest_202 : decode cX6_digest 202 = .ok (.ladd, 1) := by decide +kernel
theorem dX6_digest_203 : decode cX6_digest 203 = .ok (.lstore_n 1, 1) := by decide +kernel
theorem dX6_digest_204 : decode cX6_digest 204 = .ok (.iinc 4 1, 3) := by decide +kernel
theorem dX6_digest_207 : decode cX6_digest 207 = .ok (.goto (-25), 3) := by decide +kernel
theorem dX6_digest_210 : decode cX6_digest 210 = .ok (.iconst 0, 1) := by decide +kernel
theorem dX6_digest_211 : decode cX6_digest 211 = .ok (.istore 4, 2) := by decide +kernel
theorem dX6_digest_213 : decode cX6_digest 213 = .ok (.iload 4, 2) := by decide +kernel
theorem dX6_digest_215 : decode cX6_digest 215 = .ok (.bipush 6, 2) := by decide +kernel
theorem dX6_digest_217 : decode cX6_digest 217 = .ok (.if_icmp .ge 30, 3) := by decide +kernel
theorem dX6_digest_220 : decode cX6_digest 220 = .ok (.ldc2_w 202, 3) := by decide +kernel
theorem dX6_digest_223 : decode cX6_digest 223 = .ok (.lload_n 1, 1) := by decide +kernel
theorem dX6_digest_224 : decode cX6_digest 224 = .ok (.lmul, 1) := by decide +kernel
theorem dX6_digest_225 : decode cX6_digest 225 = .ok (.aload_n 0, 1) := by decide +kernel
theorem dX6_digest_226 : decode cX6_digest 226 = .ok (.getfield 7, 3) := by decide +kernel
theorem dX6_digest_229 : decode cX6_digest 229 = .ok (.iload_n 3, 1) := by decide +kernel
theorem dX6_digest_230 : decode cX6_digest 230 = .ok (.bipush 6, 2) := by decide +kernel
theorem dX6_digest_232 : decode cX6_digest 232 = .ok (.iload 4, 2) := by decide +kernel
theorem dX6_digest_234 : decode cX6_digest 234 = .ok (.iadd, 1) := by decide +kernel
theorem dX6_digest_235 : decode cX6_digest 235 = .ok (.invokestatic 43, 3) := by decide +kernel
theorem dX6_digest_238 : decode cX6_digest 238 = .ok (.i2l, 1) := by decide +kernel
theorem dX6_digest_239 : decode cX6_digest 239 = .ok (.ladd, 1) := by decide +kernel
theorem dX6_digest_240 : decode cX6_digest 240 = .ok (.lstore_n 1, 1) := by decide +kernel
theorem dX6_digest_241 : decode cX6_digest 241 = .ok (.iinc 4 1, 3) := by decide +kernel
theorem dX6_digest_244 : decode cX6_digest 244 = .ok (.goto (-31), 3) := by decide +kernel
theorem dX6_digest_247 : decode cX6_digest 247 = .ok (.ldc2_w 202, 3) := by decide +kernel
theorem dX6_digest_250 : decode cX6_digest 250 = .ok (.ldc2_w 202, 3) := by decide +kernel
theorem dX6_digest_253 : decode cX6_digest 253 = .ok (.lload_n 1, 1) := by decide +kernel
theorem dX6_digest_254 : decode cX6_digest 254 = .ok (.lmul, 1) := by decide +kernel
theorem dX6_digest_255 : decode cX6_digest 255 = .ok (.aload_n 0, 1) := by decide +kernel
theorem dX6_digest_256 : decode cX6_digest 256 = .ok (.aload_n 0, 1) := by decide +kernel
theorem dX6_digest_257 : decode cX6_digest 257 = .ok (.getfield 7, 3) := by decide +kernel
theorem dX6_digest_260 : decode cX6_digest 260 = .ok (.iload_n 3, 1) := by decide +kernel
theorem dX6_digest_261 : decode cX6_digest 261 = .ok (.iconst 0, 1) := by decide +kernel
theorem dX6_digest_262 : decode cX6_digest 262 = .ok (.invokestatic 43, 3) := by decide +kernel
theorem dX6_digest_265 : decode cX6_digest 265 = .ok (.invokevirtual 187, 3) := by decide +kernel
theorem dX6_digest_268 : decode cX6_digest 268 = .ok (.i2l, 1) := by decide +kernel
theorem dX6_digest_269 : decode cX6_digest 269 = .ok (.ladd, 1) := by decide +kernel
theorem dX6_digest_270 : decode cX6_digest 270 = .ok (.lmul, 1) := by decide +kernel
theorem dX6_digest_271 : decode cX6_digest 271 = .ok (.aload_n 0, 1) := by decide +kernel
theorem dX6_digest_272 : decode cX6_digest 272 = .ok (.iload_n 3, 1) := by decide +kernel
theorem dX6_digest_273 : decode cX6_digest 273 = .ok (.iconst 0, 1) := by decide +kernel
theorem dX6_digest_274 : decode cX6_digest 274 = .ok (.invokevirtual 193, 3) := by decide +kernel
theorem dX6_digest_277 : decode cX6_digest 277 = .ok (.i2l, 1) := by decide +kernel
theorem dX6_digest_278 : decode cX6_digest 278 = .ok (.ladd, 1) := by decide +kernel
theorem dX6_digest_279 : decode cX6_digest 279 = .ok (.lstore_n 1, 1) := by decide +kernel
theorem dX6_digest_280 : decode cX6_digest 280 = .ok (.iinc 3 1, 3) := by decide +kernel
theorem dX6_digest_283 : decode cX6_digest 283 = .ok (.goto (-114), 3) := by decide +kernel
theorem dX6_digest_286 : decode cX6_digest 286 = .ok (.iconst 0, 1) := by decide +kernel
theorem dX6_digest_287 : decode cX6_digest 287 = .ok (.istore_n 3, 1) := by decide +kernel
theorem dX6_digest_288 : decode cX6_digest 288 = .ok (.iload_n 3, 1) := by decide +kernel
theorem dX6_digest_289 : decode cX6_digest 289 = .ok (.iconst 5, 1) := by decide +kernel
theorem dX6_digest_290 : decode cX6_digest 290 = .ok (.if_icmp .ge 24, 3) := by decide +kernel
theorem dX6_digest_293 : decode cX6_digest 293 = .ok (.ldc2_w 202, 3) := by decide +kernel
theorem dX6_digest_296 : decode cX6_digest 296 = .ok (.lload_n 1, 1) := by decide +kernel
theorem dX6_digest_297 : decode cX6_digest 297 = .ok (.lmul, 1) := by decide +kernel
theorem dX6_digest_298 : decode cX6_digest 298 = .ok (.aload_n 0, 1) := by decide +kernel
theorem dX6_digest_299 : decode cX6_digest 299 = .ok (.bipush 20, 2) := by decide +kernel
theorem dX6_digest_301 : decode cX6_digest 301 = .ok (.iload_n 3, 1) := by decide +kernel
theorem dX6_digest_302 : decode cX6_digest 302 = .ok (.invokevirtual 184, 3) := by decide +kernel
theorem dX6_digest_305 : decode cX6_digest 305 = .ok (.i2l, 1) := by decide +kernel
theorem dX6_digest_306 : decode cX6_digest 306 = .ok (.ladd, 1) := by decide +kernel
theorem dX6_digest_307 : decode cX6_digest 307 = .ok (.lstore_n 1, 1) := by decide +kernel
theorem dX6_digest_308 : decode cX6_digest 308 = .ok (.iinc 3 1, 3) := by decide +kernel
theorem dX6_digest_311 : decode cX6_digest 311 = .ok (.goto (-23), 3) := by decide +kernel
theorem dX6_digest_314 : decode cX6_digest 314 = .ok (.ldc2_w 202, 3) := by decide +kernel
theorem dX6_digest_317 : decode cX6_digest 317 = .ok (.lload_n 1, 1) := by decide +kernel
theorem dX6_digest_318 : decode cX6_digest 318 = .ok (.lmul, 1) := by decide +kernel
theorem dX6_digest_319 : decode cX6_digest 319 = .ok (.aload_n 0, 1) := by decide +kernel
theorem dX6_digest_320 : decode cX6_digest 320 = .ok (.bipush 12, 2) := by decide +kernel
theorem dX6_digest_322 : decode cX6_digest 322 = .ok (.invokevirtual 190, 3) := by decide +kernel
theorem dX6_digest_325 : decode cX6_digest 325 = .ok (.i2l, 1) := by decide +kernel
theorem dX6_digest_326 : decode cX6_digest 326 = .ok (.ladd, 1) := by decide +kernel
theorem dX6_digest_327 : decode cX6_digest 327 = .ok (.lstore_n 1, 1) := by decide +kernel
theorem dX6_digest_328 : decode cX6_digest 328 = .ok (.ldc2_w 202, 3) := by decide +kernel
theorem dX6_digest_331 : decode cX6_digest 331 = .ok (.ldc2_w 202, 3) := by decide +kernel
theorem dX6_digest_334 : decode cX6_digest 334 = .ok (.lload_n 1, 1) := by decide +kernel
theorem dX6_digest_335 : decode cX6_digest 335 = .ok (.lmul, 1) := by decide +kernel
theorem dX6_digest_336 : decode cX6_digest 336 = .ok (.aload_n 0, 1) := by decide +kernel
theorem dX6_digest_337 : decode cX6_digest 337 = .ok (.invokevirtual 196, 3) := by decide +kernel
theorem dX6_digest_340 : decode cX6_digest 340 = .ok (.invokestatic 204, 3) := by decide +kernel
theorem dX6_digest_343 : decode cX6_digest 343 = .ok (.ladd, 1) := by decide +kernel
theorem dX6_digest_344 : decode cX6_digest 344 = .ok (.lmul, 1) := by decide +kernel
theorem dX6_digest_345 : decode cX6_digest 345 = .ok (.aload_n 0, 1) := by decide +kernel
theorem dX6_digest_346 : decode cX6_digest 346 = .ok (.getfield 124, 3) := by decide +kernel
theorem dX6_digest_349 : decode cX6_digest 349 = .ok (.i2l, 1) := by decide +kernel
theorem dX6_digest_350 : decode cX6_digest 350 = .ok (.ladd, 1) := by decide +kernel
theorem dX6_digest_351 : decode cX6_digest 351 = .ok (.lstore_n 1, 1) := by decide +kernel
theorem dX6_digest_352 : decode cX6_digest 352 = .ok (.iconst 0, 1) := by decide +kernel
theorem dX6_digest_353 : decode cX6_digest 353 = .ok (.istore_n 3, 1) := by decide +kernel
theorem dX6_digest_354 : decode cX6_digest 354 = .ok (.iload_n 3, 1) := by decide +kernel
theorem dX6_digest_355 : decode cX6_digest 355 = .ok (.aload_n 0, 1) := by decide +kernel
theorem dX6_digest_356 : decode cX6_digest 356 = .ok (.getfield 124, 3) := by decide +kernel
theorem dX6_digest_359 : decode cX6_digest 359 = .ok (.if_icmp .ge 23, 3) := by decide +kernel
theorem dX6_digest_362 : decode cX6_digest 362 = .ok (.ldc2_w 202, 3) := by decide +kernel
theorem dX6_digest_365 : decode cX6_digest 365 = .ok (.lload_n 1, 1) := by decide +kernel
theorem dX6_digest_366 : decode cX6_digest 366 = .ok (.lmul, 1) := by decide +kernel
theorem dX6_digest_367 : decode cX6_digest 367 = .ok (.aload_n 0, 1) := by decide +kernel
theorem dX6_digest_368 : decode cX6_digest 368 = .ok (.getfield 19, 3) := by decide +kernel
theorem dX6_digest_371 : decode cX6_digest 371 = .ok (.iload_n 3, 1) := by decide +kernel
theorem dX6_digest_372 : decode cX6_digest 372 = .ok (.iaload, 1) := by decide +kernel
theorem dX6_digest_373 : decode cX6_digest 373 = .ok (.i2l, 1) := by decide +kernel
theorem dX6_digest_374 : decode cX6_digest 374 = .ok (.ladd, 1) := by decide +kernel
theorem dX6_digest_375 : decode cX6_digest 375 = .ok (.lstore_n 1, 1) := by decide +kernel
theorem dX6_digest_376 : decode cX6_digest 376 = .ok (.iinc 3 1, 3) := by decide +kernel
theorem dX6_digest_379 : decode cX6_digest 379 = .ok (.goto (-25), 3) := by decide +kernel
theorem dX6_digest_382 : decode cX6_digest 382 = .ok (.lload_n 1, 1) := by decide +kernel
theorem dX6_digest_383 : decode cX6_digest 383 = .ok (.lreturn, 1) := by decide +kernel
theorem dJxe99ae_isNaN_b9ae7_0 : decode cJxe99ae_isNaN_b9ae7 0 = .ok (.dload_n 0, 1) := by decide +kernel
theorem dJxe99ae_isNaN_b9ae7_1 : decode cJxe99ae_isNaN_b9ae7 1 = .ok (.dload_n 0, 1) := by decide +kernel
theorem dJxe99ae_isNaN_b9ae7_2 : decode cJxe99ae_isNaN_b9ae7 2 = .ok (.dcmp .l, 1) := by decide +kernel
theorem dJxe99ae_isNaN_b9ae7_3 : decode cJxe99ae_isNaN_b9ae7 3 = .ok (.ifCond .eq 7, 3) := by decide +kernel
theorem dJxe99ae_isNaN_b9ae7_6 : decode cJxe99ae_isNaN_b9ae7 6 = .ok (.iconst 1, 1) := by decide +kernel
theorem dJxe99ae_isNaN_b9ae7_7 : decode cJxe99ae_isNaN_b9ae7 7 = .ok (.goto 4, 3) := by decide +kernel
theorem dJxe99ae_isNaN_b9ae7_10 : decode cJxe99ae_isNaN_b9ae7 10 = .ok (.iconst 0, 1) := by decide +kernel
theorem dJxe99ae_isNaN_b9ae7_11 : decode cJxe99ae_isNaN_b9ae7 11 = .ok (.ireturn, 1) := by decide +kernel
theorem dJxe99ae_doubleToLongBits_ccdee_0 : decode cJxe99ae_doubleToLongBits_ccdee 0 = .ok (.dload_n 0, 1) := by decide +kernel
theorem dJxe99ae_doubleToLongBits_ccdee_1 : decode cJxe99ae_doubleToLongBits_ccdee 1 = .ok (.invokestatic 122, 3) := by decide +kernel
theorem dJxe99ae_doubleToLongBits_ccdee_4 : decode cJxe99ae_doubleToLongBits_ccdee 4 = .ok (.ifCond .ne 8, 3) := by decide +kernel
theorem dJxe99ae_doubleToLongBits_ccdee_7 : decode cJxe99ae_doubleToLongBits_ccdee 7 = .ok (.dload_n 0, 1) := by decide +kernel
theorem dJxe99ae_doubleToLongBits_ccdee_8 : decode cJxe99ae_doubleToLongBits_ccdee 8 = .ok (.invokestatic 134, 3) := by decide +kernel
theorem dJxe99ae_doubleToLongBits_ccdee_11 : decode cJxe99ae_doubleToLongBits_ccdee 11 = .ok (.lreturn, 1) := by decide +kernel
theorem dJxe99ae_doubleToLongBits_ccdee_12 : decode cJxe99ae_doubleToLongBits_ccdee 12 = .ok (.ldc2_w 137, 3) := by decide +kernel
theorem dJxe99ae_doubleToLongBits_ccdee_15 : decode cJxe99ae_doubleToLongBits_ccdee 15 = .ok (.lreturn, 1) := by decide +kernel
theorem dJ9_max_7cf53_0 : decode cJ9_max_7cf53 0 = .ok (.iload_n 0, 1) := by decide +kernel
theorem dJ9_max_7cf53_1 : decode cJ9_max_7cf53 1 = .ok (.iload_n 1, 1) := by decide +kernel
theorem dJ9_max_7cf53_2 : decode cJ9_max_7cf53 2 = .ok (.if_icmp .lt 7, 3) := by decide +kernel
theorem dJ9_max_7cf53_5 : decode cJ9_max_7cf53 5 = .ok (.iload_n 0, 1) := by decide +kernel
theorem dJ9_max_7cf53_6 : decode cJ9_max_7cf53 6 = .ok (.goto 4, 3) := by decide +kernel
theorem dJ9_max_7cf53_9 : decode cJ9_max_7cf53 9 = .ok (.iload_n 1, 1) := by decide +kernel
theorem dJ9_max_7cf53_10 : decode cJ9_max_7cf53 10 = .ok (.ireturn, 1) := by decide +kernel
theorem dJ9_min_7cf53_0 : decode cJ9_min_7cf53 0 = .ok (.iload_n 0, 1) := by decide +kernel
theorem dJ9_min_7cf53_1 : decode cJ9_min_7cf53 1 = .ok (.iload_n 1, 1) := by decide +kernel
theorem dJ9_min_7cf53_2 : decode cJ9_min_7cf53 2 = .ok (.if_icmp .gt 7, 3) := by decide +kernel
theorem dJ9_min_7cf53_5 : decode cJ9_min_7cf53 5 = .ok (.iload_n 0, 1) := by decide +kernel
theorem dJ9_min_7cf53_6 : decode cJ9_min_7cf53 6 = .ok (.goto 4, 3) := by decide +kernel
theorem dJ9_min_7cf53_9 : decode cJ9_min_7cf53 9 = .ok (.iload_n 1, 1) := by decide +kernel
theorem dJ9_min_7cf53_10 : decode cJ9_min_7cf53 10 = .ok (.ireturn, 1) := by decide +kernel
theorem dL_loom_0 : decode cL_loom 0 = .ok (.aload 5, 2) := by decide +kernel
theorem dL_loom_2 : decode cL_loom 2 = .ok (.iconst 0, 1) := by decide +kernel
theorem dL_loom_3 : decode cL_loom 3 = .ok (.aload_n 0, 1) := by decide +kernel
theorem dL_loom_4 : decode cL_loom 4 = .ok (.iload_n 1, 1) := by decide +kernel
theorem dL_loom_5 : decode cL_loom 5 = .ok (.iload_n 2, 1) := by decide +kernel
theorem dL_loom_6 : decode cL_loom 6 = .ok (.iload_n 3, 1) := by decide +kernel
theorem dL_loom_7 : decode cL_loom 7 = .ok (.iload 4, 2) := by decide +kernel
theorem dL_loom_9 : decode cL_loom 9 = .ok (.invokevirtual 7, 3) := by decide +kernel
theorem dL_loom_12 : decode cL_loom 12 = .ok (.i2l, 1) := by decide +kernel
theorem dL_loom_13 : decode cL_loom 13 = .ok (.lastore, 1) := by decide +kernel
theorem dL_loom_14 : decode cL_loom 14 = .ok (.goto 11, 3) := by decide +kernel
theorem dL_loom_17 : decode cL_loom 17 = .ok (.astore 6, 2) := by decide +kernel
theorem dL_loom_19 : decode cL_loom 19 = .ok (.iconst 1, 1) := by decide +kernel
theorem dL_loom_20 : decode cL_loom 20 = .ok (.ireturn, 1) := by decide +kernel
theorem dL_loom_21 : decode cL_loom 21 = .ok (.astore 6, 2) := by decide +kernel
theorem dL_loom_23 : decode cL_loom 23 = .ok (.iconst 2, 1) := by decide +kernel
theorem dL_loom_24 : decode cL_loom 24 = .ok (.ireturn, 1) := by decide +kernel
theorem dL_loom_25 : decode cL_loom 25 = .ok (.iconst 0, 1) := by decide +kernel
theorem dL_loom_26 : decode cL_loom 26 = .ok (.ireturn, 1) := by decide +kernel
theorem dL_yarn_0 : decode cL_yarn 0 = .ok (.aload 4, 2) := by decide +kernel
theorem dL_yarn_2 : decode cL_yarn 2 = .ok (.iconst 0, 1) := by decide +kernel
theorem dL_yarn_3 : decode cL_yarn 3 = .ok (.aload_n 0, 1) := by decide +kernel
theorem dL_yarn_4 : decode cL_yarn 4 = .ok (.iload_n 1, 1) := by decide +kernel
theorem dL_yarn_5 : decode cL_yarn 5 = .ok (.iload_n 2, 1) := by decide +kernel
theorem dL_yarn_6 : decode cL_yarn 6 = .ok (.iload_n 3, 1) := by decide +kernel
theorem dL_yarn_7 : decode cL_yarn 7 = .ok (.invokevirtual 17, 3) := by decide +kernel
theorem dL_yarn_10 : decode cL_yarn 10 = .ok (.i2l, 1) := by decide +kernel
theorem dL_yarn_11 : decode cL_yarn 11 = .ok (.lastore, 1) := by decide +kernel
theorem dL_yarn_12 : decode cL_yarn 12 = .ok (.goto 15, 3) := by decide +kernel
theorem dL_yarn_15 : decode cL_yarn 15 = .ok (.astore 5, 2) := by decide +kernel
theorem dL_yarn_17 : decode cL_yarn 17 = .ok (.iconst 1, 1) := by decide +kernel
theorem dL_yarn_18 : decode cL_yarn 18 = .ok (.ireturn, 1) := by decide +kernel
theorem dL_yarn_19 : decode cL_yarn 19 = .ok (.astore 5, 2) := by decide +kernel
theorem dL_yarn_21 : decode cL_yarn 21 = .ok (.iconst 2, 1) := by decide +kernel
theorem dL_yarn_22 : decode cL_yarn 22 = .ok (.ireturn, 1) := by decide +kernel
theorem dL_yarn_23 : decode cL_yarn 23 = .ok (.astore 5, 2) := by decide +kernel
theorem dL_yarn_25 : decode cL_yarn 25 = .ok (.iconst 3, 1) := by decide +kernel
theorem dL_yarn_26 : decode cL_yarn 26 = .ok (.ireturn, 1) := by decide +kernel
theorem dL_yarn_27 : decode cL_yarn 27 = .ok (.iconst 0, 1) := by decide +kernel
theorem dL_yarn_28 : decode cL_yarn 28 = .ok (.ireturn, 1) := by decide +kernel
theorem dL_store_0 : decode cL_store 0 = .ok (.aload_n 3, 1) := by decide +kernel
theorem dL_store_1 : decode cL_store 1 = .ok (.iconst 0, 1) := by decide +kernel
theorem dL_store_2 : decode cL_store 2 = .ok (.aload_n 0, 1) := by decide +kernel
theorem dL_store_3 : decode cL_store 3 = .ok (.iload_n 1, 1) := by decide +kernel
theorem dL_store_4 : decode cL_store 4 = .ok (.iload_n 2, 1) := by decide +kernel
theorem dL_store_5 : decode cL_store 5 = .ok (.invokevirtual 23, 3) := by decide +kernel
theorem dL_store_8 : decode cL_store 8 = .ok (.i2l, 1) := by decide +kernel
theorem dL_store_9 : decode cL_store 9 = .ok (.lastore, 1) := by decide +kernel
theorem dL_store_10 : decode cL_store 10 = .ok (.goto 15, 3) := by decide +kernel
theorem dL_store_13 : decode cL_store 13 = .ok (.astore 4, 2) := by decide +kernel
theorem dL_store_15 : decode cL_store 15 = .ok (.iconst 1, 1) := by decide +kernel
theorem dL_store_16 : decode cL_store 16 = .ok (.ireturn, 1) := by decide +kernel
theorem dL_store_17 : decode cL_store 17 = .ok (.astore 4, 2) := by decide +kernel
theorem dL_store_19 : decode cL_store 19 = .ok (.iconst 2, 1) := by decide +kernel
theorem dL_store_20 : decode cL_store 20 = .ok (.ireturn, 1) := by decide +kernel
theorem dL_store_21 : decode cL_store 21 = .ok (.astore 4, 2) := by decide +kernel
theorem dL_store_23 : decode cL_store 23 = .ok (.iconst 3, 1) := by decide +kernel
theorem dL_store_24 : decode cL_store 24 = .ok (.ireturn, 1) := by decide +kernel
theorem dL_store_25 : decode cL_store 25 = .ok (.iconst 0, 1) := by decide +kernel
theorem dL_store_26 : decode cL_store 26 = .ok (.ireturn, 1) := by decide +kernel
theorem dL_give_0 : decode cL_give 0 = .ok (.aload 5, 2) := by decide +kernel
theorem dL_give_2 : decode cL_give 2 = .ok (.iconst 0, 1) := by decide +kernel
theorem dL_give_3 : decode cL_give 3 = .ok (.aload_n 0, 1) := by decide +kernel
theorem dL_give_4 : decode cL_give 4 = .ok (.iload_n 1, 1) := by decide +kernel
theorem dL_give_5 : decode cL_give 5 = .ok (.iload_n 2, 1) := by decide +kernel
theorem dL_give_6 : decode cL_give 6 = .ok (.iload_n 3, 1) := by decide +kernel
theorem dL_give_7 : decode cL_give 7 = .ok (.iload 4, 2) := by decide +kernel
theorem dL_give_9 : decode cL_give 9 = .ok (.invokevirtual 27, 3) := by decide +kernel
theorem dL_give_12 : decode cL_give 12 = .ok (.i2l, 1) := by decide +kernel
theorem dL_give_13 : decode cL_give 13 = .ok (.lastore, 1) := by decide +kernel
theorem dL_give_14 : decode cL_give 14 = .ok (.goto 15, 3) := by decide +kernel
theorem dL_give_17 : decode cL_give 17 = .ok (.astore 6, 2) := by decide +kernel
theorem dL_give_19 : decode cL_give 19 = .ok (.iconst 1, 1) := by decide +kernel
theorem dL_give_20 : decode cL_give 20 = .ok (.ireturn, 1) := by decide +kernel
theorem dL_give_21 : decode cL_give 21 = .ok (.astore 6, 2) := by decide +kernel
theorem dL_give_23 : decode cL_give 23 = .ok (.iconst 2, 1) := by decide +kernel
theorem dL_give_24 : decode cL_give 24 = .ok (.ireturn, 1) := by decide +kernel
theorem dL_give_25 : decode cL_give 25 = .ok (.astore 6, 2) := by decide +kernel
theorem dL_give_27 : decode cL_give 27 = .ok (.iconst 3, 1) := by decide +kernel
theorem dL_give_28 : decode cL_give 28 = .ok (.ireturn, 1) := by decide +kernel
theorem dL_give_29 : decode cL_give 29 = .ok (.iconst 0, 1) := by decide +kernel
theorem dL_give_30 : decode cL_give 30 = .ok (.ireturn, 1) := by decide +kernel
theorem dL_order_0 : decode cL_order 0 = .ok (.aload 6, 2) := by decide +kernel
theorem dL_order_2 : decode cL_order 2 = .ok (.iconst 0, 1) := by decide +kernel
theorem dL_order_3 : decode cL_order 3 = .ok (.aload_n 0, 1) := by decide +kernel
theorem dL_order_4 : decode cL_order 4 = .ok (.iload_n 1, 1) := by decide +kernel
theorem dL_order_5 : decode cL_order 5 = .ok (.iload_n 2, 1) := by decide +kernel
theorem dL_order_6 : decode cL_order 6 = .ok (.iload_n 3, 1) := by decide +kernel
theorem dL_order_7 : decode cL_order 7 = .ok (.iload 4, 2) := by decide +kernel
theorem dL_order_9 : decode cL_order 9 = .ok (.iload 5, 2) := by decide +kernel
theorem dL_order_11 : decode cL_order 11 = .ok (.invokevirtual 30, 3) := by decide +kernel
theorem dL_order_14 : decode cL_order 14 = .ok (.i2l, 1) := by decide +kernel
theorem dL_order_15 : decode cL_order 15 = .ok (.lastore, 1) := by decide +kernel
theorem dL_order_16 : decode cL_order 16 = .ok (.goto 15, 3) := by decide +kernel
theorem dL_order_19 : decode cL_order 19 = .ok (.astore 7, 2) := by decide +kernel
theorem dL_order_21 : decode cL_order 21 = .ok (.iconst 1, 1) := by decide +kernel
theorem dL_order_22 : decode cL_order 22 = .ok (.ireturn, 1) := by decide +kernel
theorem dL_order_23 : decode cL_order 23 = .ok (.astore 7, 2) := by decide +kernel
theorem dL_order_25 : decode cL_order 25 = .ok (.iconst 2, 1) := by decide +kernel
theorem dL_order_26 : decode cL_order 26 = .ok (.ireturn, 1) := by decide +kernel
theorem dL_order_27 : decode cL_order 27 = .ok (.astore 7, 2) := by decide +kernel
theorem dL_order_29 : decode cL_order 29 = .ok (.iconst 3, 1) := by decide +kernel
theorem dL_order_30 : decode cL_order 30 = .ok (.ireturn, 1) := by decide +kernel
theorem dL_order_31 : decode cL_order 31 = .ok (.iconst 0, 1) := by decide +kernel
theorem dL_order_32 : decode cL_order 32 = .ok (.ireturn, 1) := by decide +kernel
theorem dL_cancel_0 : decode cL_cancel 0 = .ok (.aload_n 2, 1) := by decide +kernel
theorem dL_cancel_1 : decode cL_cancel 1 = .ok (.iconst 0, 1) := by decide +kernel
theorem dL_cancel_2 : decode cL_cancel 2 = .ok (.aload_n 0, 1) := by decide +kernel
theorem dL_cancel_3 : decode cL_cancel 3 = .ok (.iload_n 1, 1) := by decide +kernel
theorem dL_cancel_4 : decode cL_cancel 4 = .ok (.invokevirtual 34, 3) := by decide +kernel
theorem dL_cancel_7 : decode cL_cancel 7 = .ok (.i2l, 1) := by decide +kernel
theorem dL_cancel_8 : decode cL_cancel 8 = .ok (.lastore, 1) := by decide +kernel
theorem dL_cancel_9 : decode cL_cancel 9 = .ok (.goto 6, 3) := by decide +kernel
theorem dL_cancel_12 : decode cL_cancel 12 = .ok (.astore_n 3, 1) := by decide +kernel
theorem dL_cancel_13 : decode cL_cancel 13 = .ok (.iconst 1, 1) := by decide +kernel
theorem dL_cancel_14 : decode cL_cancel 14 = .ok (.ireturn, 1) := by decide +kernel
theorem dL_cancel_15 : decode cL_cancel 15 = .ok (.iconst 0, 1) := by decide +kernel
theorem dL_cancel_16 : decode cL_cancel 16 = .ok (.ireturn, 1) := by decide +kernel
theorem dL_set_0 : decode cL_set 0 = .ok (.aload_n 3, 1) := by decide +kernel
theorem dL_set_1 : decode cL_set 1 = .ok (.iconst 0, 1) := by decide +kernel
theorem dL_set_2 : decode cL_set 2 = .ok (.aload_n 0, 1) := by decide +kernel
theorem dL_set_3 : decode cL_set 3 = .ok (.iload_n 1, 1) := by decide +kernel
theorem dL_set_4 : decode cL_set 4 = .ok (.iload_n 2, 1) := by decide +kernel
theorem dL_set_5 : decode cL_set 5 = .ok (.invokevirtual 38, 3) := by decide +kernel
theorem dL_set_8 : decode cL_set 8 = .ok (.i2l, 1) := by decide +kernel
theorem dL_set_9 : decode cL_set 9 = .ok (.lastore, 1) := by decide +kernel
theorem dL_set_10 : decode cL_set 10 = .ok (.goto 11, 3) := by decide +kernel
theorem dL_set_13 : decode cL_set 13 = .ok (.astore 4, 2) := by decide +kernel
theorem dL_set_15 : decode cL_set 15 = .ok (.iconst 1, 1) := by decide +kernel
theorem dL_set_16 : decode cL_set 16 = .ok (.ireturn, 1) := by decide +kernel
theorem dL_set_17 : decode cL_set 17 = .ok (.astore 4, 2) := by decide +kernel
theorem dL_set_19 : decode cL_set 19 = .ok (.iconst 2, 1) := by decide +kernel
theorem dL_set_20 : decode cL_set 20 = .ok (.ireturn, 1) := by decide +kernel
theorem dL_set_21 : decode cL_set 21 = .ok (.iconst 0, 1) := by decide +kernel
theorem dL_set_22 : decode cL_set 22 = .ok (.ireturn, 1) := by decide +kernel
theorem dL_pass_0 : decode cL_pass 0 = .ok (.aload_n 2, 1) := by decide +kernel
theorem dL_pass_1 : decode cL_pass 1 = .ok (.iconst 0, 1) := by decide +kernel
theorem dL_pass_2 : decode cL_pass 2 = .ok (.aload_n 0, 1) := by decide +kernel
theorem dL_pass_3 : decode cL_pass 3 = .ok (.iload_n 1, 1) := by decide +kernel
theorem dL_pass_4 : decode cL_pass 4 = .ok (.invokevirtual 41, 3) := by decide +kernel
theorem dL_pass_7 : decode cL_pass 7 = .ok (.i2l, 1) := by decide +kernel
theorem dL_pass_8 : decode cL_pass 8 = .ok (.lastore, 1) := by decide +kernel
theorem dL_pass_9 : decode cL_pass 9 = .ok (.goto 9, 3) := by decide +kernel
theorem dL_pass_12 : decode cL_pass 12 = .ok (.astore_n 3, 1) := by decide +kernel
theorem dL_pass_13 : decode cL_pass 13 = .ok (.iconst 1, 1) := by decide +kernel
theorem dL_pass_14 : decode cL_pass 14 = .ok (.ireturn, 1) := by decide +kernel
theorem dL_pass_15 : decode cL_pass 15 = .ok (.astore_n 3, 1) := by decide +kernel
theorem dL_pass_16 : decode cL_pass 16 = .ok (.iconst 2, 1) := by decide +kernel
theorem dL_pass_17 : decode cL_pass 17 = .ok (.ireturn, 1) := by decide +kernel
theorem dL_pass_18 : decode cL_pass 18 = .ok (.iconst 0, 1) := by decide +kernel
theorem dL_pass_19 : decode cL_pass 19 = .ok (.ireturn, 1) := by decide +kernel
theorem dL_append_0 : decode cL_append 0 = .ok (.aload_n 2, 1) := by decide +kernel
theorem dL_append_1 : decode cL_append 1 = .ok (.iconst 0, 1) := by decide +kernel
theorem dL_append_2 : decode cL_append 2 = .ok (.aload_n 0, 1) := by decide +kernel
theorem dL_append_3 : decode cL_append 3 = .ok (.iload_n 1, 1) := by decide +kernel
theorem dL_append_4 : decode cL_append 4 = .ok (.invokevirtual 44, 3) := by decide +kernel
theorem dL_append_7 : decode cL_append 7 = .ok (.i2l, 1) := by decide +kernel
theorem dL_append_8 : decode cL_append 8 = .ok (.lastore, 1) := by decide +kernel
theorem dL_append_9 : decode cL_append 9 = .ok (.goto 9, 3) := by decide +kernel
theorem dL_append_12 : decode cL_append 12 = .ok (.astore_n 3, 1) := by decide +kernel
theorem dL_append_13 : decode cL_append 13 = .ok (.iconst 1, 1) := by decide +kernel
theorem dL_append_14 : decode cL_append 14 = .ok (.ireturn, 1) := by decide +kernel
theorem dL_append_15 : decode cL_append 15 = .ok (.astore_n 3, 1) := by decide +kernel
theorem dL_append_16 : decode cL_append 16 = .ok (.iconst 2, 1) := by decide +kernel
theorem dL_append_17 : decode cL_append 17 = .ok (.ireturn, 1) := by decide +kernel
theorem dL_append_18 : decode cL_append 18 = .ok (.iconst 0, 1) := by decide +kernel
theorem dL_append_19 : decode cL_append 19 = .ok (.ireturn, 1) := by decide +kernel
theorem dL_takeAll_0 : decode cL_takeAll 0 = .ok (.aload_n 1, 1) := by decide +kernel
theorem dL_takeAll_1 : decode cL_takeAll 1 = .ok (.iconst 0, 1) := by decide +kernel
theorem dL_takeAll_2 : decode cL_takeAll 2 = .ok (.aload_n 0, 1) := by decide +kernel
theorem dL_takeAll_3 : decode cL_takeAll 3 = .ok (.invokevirtual 47, 3) := by decide +kernel
theorem dL_takeAll_6 : decode cL_takeAll 6 = .ok (.i2l, 1) := by decide +kernel
theorem dL_takeAll_7 : decode cL_takeAll 7 = .ok (.lastore, 1) := by decide +kernel
theorem dL_takeAll_8 : decode cL_takeAll 8 = .ok (.goto 9, 3) := by decide +kernel
theorem dL_takeAll_11 : decode cL_takeAll 11 = .ok (.astore_n 2, 1) := by decide +kernel
theorem dL_takeAll_12 : decode cL_takeAll 12 = .ok (.iconst 1, 1) := by decide +kernel
theorem dL_takeAll_13 : decode cL_takeAll 13 = .ok (.ireturn, 1) := by decide +kernel
theorem dL_takeAll_14 : decode cL_takeAll 14 = .ok (.astore_n 2, 1) := by decide +kernel
theorem dL_takeAll_15 : decode cL_takeAll 15 = .ok (.iconst 2, 1) := by decide +kernel
theorem dL_takeAll_16 : decode cL_takeAll 16 = .ok (.ireturn, 1) := by decide +kernel
theorem dL_takeAll_17 : decode cL_takeAll 17 = .ok (.iconst 0, 1) := by decide +kernel
theorem dL_takeAll_18 : decode cL_takeAll 18 = .ok (.ireturn, 1) := by decide +kernel
theorem dL_undo_0 : decode cL_undo 0 = .ok (.aload_n 1, 1) := by decide +kernel
theorem dL_undo_1 : decode cL_undo 1 = .ok (.iconst 0, 1) := by decide +kernel
theorem dL_undo_2 : decode cL_undo 2 = .ok (.aload_n 0, 1) := by decide +kernel
theorem dL_undo_3 : decode cL_undo 3 = .ok (.invokevirtual 51, 3) := by decide +kernel
theorem dL_undo_6 : decode cL_undo 6 = .ok (.i2l, 1) := by decide +kernel
theorem dL_undo_7 : decode cL_undo 7 = .ok (.lastore, 1) := by decide +kernel
theorem dL_undo_8 : decode cL_undo 8 = .ok (.goto 6, 3) := by decide +kernel
theorem dL_undo_11 : decode cL_undo 11 = .ok (.astore_n 2, 1) := by decide +kernel
theorem dL_undo_12 : decode cL_undo 12 = .ok (.iconst 1, 1) := by decide +kernel
theorem dL_undo_13 : decode cL_undo 13 = .ok (.ireturn, 1) := by decide +kernel
theorem dL_undo_14 : decode cL_undo 14 = .ok (.iconst 0, 1) := by decide +kernel
theorem dL_undo_15 : decode cL_undo 15 = .ok (.ireturn, 1) := by decide +kernel
theorem dL_weaver_0 : decode cL_weaver 0 = .ok (.aload_n 3, 1) := by decide +kernel
theorem dL_weaver_1 : decode cL_weaver 1 = .ok (.iconst 0, 1) := by decide +kernel
theorem dL_weaver_2 : decode cL_weaver 2 = .ok (.aload_n 0, 1) := by decide +kernel
theorem dL_weaver_3 : decode cL_weaver 3 = .ok (.iload_n 1, 1) := by decide +kernel
theorem dL_weaver_4 : decode cL_weaver 4 = .ok (.iload_n 2, 1) := by decide +kernel
theorem dL_weaver_5 : decode cL_weaver 5 = .ok (.invokevirtual 54, 3) := by decide +kernel
theorem dL_weaver_8 : decode cL_weaver 8 = .ok (.i2l, 1) := by decide +kernel
theorem dL_weaver_9 : decode cL_weaver 9 = .ok (.lastore, 1) := by decide +kernel
theorem dL_weaver_10 : decode cL_weaver 10 = .ok (.goto 11, 3) := by decide +kernel
theorem dL_weaver_13 : decode cL_weaver 13 = .ok (.astore 4, 2) := by decide +kernel
theorem dL_weaver_15 : decode cL_weaver 15 = .ok (.iconst 1, 1) := by decide +kernel
theorem dL_weaver_16 : decode cL_weaver 16 = .ok (.ireturn, 1) := by decide +kernel
theorem dL_weaver_17 : decode cL_weaver 17 = .ok (.astore 4, 2) := by decide +kernel
theorem dL_weaver_19 : decode cL_weaver 19 = .ok (.iconst 2, 1) := by decide +kernel
theorem dL_weaver_20 : decode cL_weaver 20 = .ok (.ireturn, 1) := by decide +kernel
theorem dL_weaver_21 : decode cL_weaver 21 = .ok (.iconst 0, 1) := by decide +kernel
theorem dL_weaver_22 : decode cL_weaver 22 = .ok (.ireturn, 1) := by decide +kernel
theorem dL_share_0 : decode cL_share 0 = .ok (.aload_n 3, 1) := by decide +kernel
theorem dL_share_1 : decode cL_share 1 = .ok (.iconst 0, 1) := by decide +kernel
theorem dL_share_2 : decode cL_share 2 = .ok (.aload_n 0, 1) := by decide +kernel
theorem dL_share_3 : decode cL_share 3 = .ok (.iload_n 1, 1) := by decide +kernel
theorem dL_share_4 : decode cL_share 4 = .ok (.iload_n 2, 1) := by decide +kernel
theorem dL_share_5 : decode cL_share 5 = .ok (.invokevirtual 57, 3) := by decide +kernel
theorem dL_share_8 : decode cL_share 8 = .ok (.i2l, 1) := by decide +kernel
theorem dL_share_9 : decode cL_share 9 = .ok (.lastore, 1) := by decide +kernel
theorem dL_share_10 : decode cL_share 10 = .ok (.goto 7, 3) := by decide +kernel
theorem dL_share_13 : decode cL_share 13 = .ok (.astore 4, 2) := by decide +kernel
theorem dL_share_15 : decode cL_share 15 = .ok (.iconst 1, 1) := by decide +kernel
theorem dL_share_16 : decode cL_share 16 = .ok (.ireturn, 1) := by decide +kernel
theorem dL_share_17 : decode cL_share 17 = .ok (.iconst 0, 1) := by decide +kernel
theorem dL_share_18 : decode cL_share 18 = .ok (.ireturn, 1) := by decide +kernel
theorem dL_orderOf_0 : decode cL_orderOf 0 = .ok (.aload_n 3, 1) := by decide +kernel
theorem dL_orderOf_1 : decode cL_orderOf 1 = .ok (.iconst 0, 1) := by decide +kernel
theorem dL_orderOf_2 : decode cL_orderOf 2 = .ok (.aload_n 0, 1) := by decide +kernel
theorem dL_orderOf_3 : decode cL_orderOf 3 = .ok (.iload_n 1, 1) := by decide +kernel
theorem dL_orderOf_4 : decode cL_orderOf 4 = .ok (.iload_n 2, 1) := by decide +kernel
theorem dL_orderOf_5 : decode cL_orderOf 5 = .ok (.invokevirtual 60, 3) := by decide +kernel
theorem dL_orderOf_8 : decode cL_orderOf 8 = .ok (.i2l, 1) := by decide +kernel
theorem dL_orderOf_9 : decode cL_orderOf 9 = .ok (.lastore, 1) := by decide +kernel
theorem dL_orderOf_10 : decode cL_orderOf 10 = .ok (.goto 7, 3) := by decide +kernel
theorem dL_orderOf_13 : decode cL_orderOf 13 = .ok (.astore 4, 2) := by decide +kernel
theorem dL_orderOf_15 : decode cL_orderOf 15 = .ok (.iconst 1, 1) := by decide +kernel
theorem dL_orderOf_16 : decode cL_orderOf 16 = .ok (.ireturn, 1) := by decide +kernel
theorem dL_orderOf_17 : decode cL_orderOf 17 = .ok (.iconst 0, 1) := by decide +kernel
theorem dL_orderOf_18 : decode cL_orderOf 18 = .ok (.ireturn, 1) := by decide +kernel
theorem dL_wovenBy_0 : decode cL_wovenBy 0 = .ok (.aload_n 3, 1) := by decide +kernel
theorem dL_wovenBy_1 : decode cL_wovenBy 1 = .ok (.iconst 0, 1) := by decide +kernel
theorem dL_wovenBy_2 : decode cL_wovenBy 2 = .ok (.aload_n 0, 1) := by decide +kernel
theorem dL_wovenBy_3 : decode cL_wovenBy 3 = .ok (.iload_n 1, 1) := by decide +kernel
theorem dL_wovenBy_4 : decode cL_wovenBy 4 = .ok (.iload_n 2, 1) := by decide +kernel
theorem dL_wovenBy_5 : decode cL_wovenBy 5 = .ok (.invokevirtual 63, 3) := by decide +kernel
theorem dL_wovenBy_8 : decode cL_wovenBy 8 = .ok (.i2l, 1) := by decide +kernel
theorem dL_wovenBy_9 : decode cL_wovenBy 9 = .ok (.lastore, 1) := by decide +kernel
theorem dL_wovenBy_10 : decode cL_wovenBy 10 = .ok (.goto 11, 3) := by decide +kernel
theorem dL_wovenBy_13 : decode cL_wovenBy 13 = .ok (.astore 4, 2) := by decide +kernel
theorem dL_wovenBy_15 : decode cL_wovenBy 15 = .ok (.iconst 1, 1) := by decide +kernel
theorem dL_wovenBy_16 : decode cL_wovenBy 16 = .ok (.ireturn, 1) := by decide +kernel
theorem dL_wovenBy_17 : decode cL_wovenBy 17 = .ok (.astore 4, 2) := by decide +kernel
theorem dL_wovenBy_19 : decode cL_wovenBy 19 = .ok (.iconst 2, 1) := by decide +kernel
theorem dL_wovenBy_20 : decode cL_wovenBy 20 = .ok (.ireturn, 1) := by decide +kernel
theorem dL_wovenBy_21 : decode cL_wovenBy 21 = .ok (.iconst 0, 1) := by decide +kernel
theorem dL_wovenBy_22 : decode cL_wovenBy 22 = .ok (.ireturn, 1) := by decide +kernel
theorem dL_next_0 : decode cL_next 0 = .ok (.aload_n 3, 1) := by decide +kernel
theorem dL_next_1 : decode cL_next 1 = .ok (.iconst 0, 1) := by decide +kernel
theorem dL_next_2 : decode cL_next 2 = .ok (.aload_n 0, 1) := by decide +kernel
theorem dL_next_3 : decode cL_next 3 = .ok (.iload_n 1, 1) := by decide +kernel
theorem dL_next_4 : decode cL_next 4 = .ok (.iload_n 2, 1) := by decide +kernel
theorem dL_next_5 : decode cL_next 5 = .ok (.invokevirtual 66, 3) := by decide +kernel
theorem dL_next_8 : decode cL_next 8 = .ok (.i2l, 1) := by decide +kernel
theorem dL_next_9 : decode cL_next 9 = .ok (.lastore, 1) := by decide +kernel
theorem dL_next_10 : decode cL_next 10 = .ok (.goto 11, 3) := by decide +kernel
theorem dL_next_13 : decode cL_next 13 = .ok (.astore 4, 2) := by decide +kernel
theorem dL_next_15 : decode cL_next 15 = .ok (.iconst 1, 1) := by decide +kernel
theorem dL_next_16 : decode cL_next 16 = .ok (.ireturn, 1) := by decide +kernel
theorem dL_next_17 : decode cL_next 17 = .ok (.astore 4, 2) := by decide +kernel
theorem dL_next_19 : decode cL_next 19 = .ok (.iconst 2, 1) := by decide +kernel
theorem dL_next_20 : decode cL_next 20 = .ok (.ireturn, 1) := by decide +kernel
theorem dL_next_21 : decode cL_next 21 = .ok (.iconst 0, 1) := by decide +kernel
theorem dL_next_22 : decode cL_next 22 = .ok (.ireturn, 1) := by decide +kernel
theorem dL_count_0 : decode cL_count 0 = .ok (.aload_n 2, 1) := by decide +kernel
theorem dL_count_1 : decode cL_count 1 = .ok (.iconst 0, 1) := by decide +kernel
theorem dL_count_2 : decode cL_count 2 = .ok (.aload_n 0, 1) := by decide +kernel
theorem dL_count_3 : decode cL_count 3 = .ok (.iload_n 1, 1) := by decide +kernel
theorem dL_count_4 : decode cL_count 4 = .ok (.invokevirtual 69, 3) := by decide +kernel
theorem dL_count_7 : decode cL_count 7 = .ok (.i2l, 1) := by decide +kernel
theorem dL_count_8 : decode cL_count 8 = .ok (.lastore, 1) := by decide +kernel
theorem dL_count_9 : decode cL_count 9 = .ok (.goto 6, 3) := by decide +kernel
theorem dL_count_12 : decode cL_count 12 = .ok (.astore_n 3, 1) := by decide +kernel
theorem dL_count_13 : decode cL_count 13 = .ok (.iconst 1, 1) := by decide +kernel
theorem dL_count_14 : decode cL_count 14 = .ok (.ireturn, 1) := by decide +kernel
theorem dL_count_15 : decode cL_count 15 = .ok (.iconst 0, 1) := by decide +kernel
theorem dL_count_16 : decode cL_count 16 = .ok (.ireturn, 1) := by decide +kernel
theorem dL_setting_0 : decode cL_setting 0 = .ok (.aload_n 2, 1) := by decide +kernel
theorem dL_setting_1 : decode cL_setting 1 = .ok (.iconst 0, 1) := by decide +kernel
theorem dL_setting_2 : decode cL_setting 2 = .ok (.aload_n 0, 1) := by decide +kernel
theorem dL_setting_3 : decode cL_setting 3 = .ok (.iload_n 1, 1) := by decide +kernel
theorem dL_setting_4 : decode cL_setting 4 = .ok (.invokevirtual 72, 3) := by decide +kernel
theorem dL_setting_7 : decode cL_setting 7 = .ok (.i2l, 1) := by decide +kernel
theorem dL_setting_8 : decode cL_setting 8 = .ok (.lastore, 1) := by decide +kernel
theorem dL_setting_9 : decode cL_setting 9 = .ok (.goto 6, 3) := by decide +kernel
theorem dL_setting_12 : decode cL_setting 12 = .ok (.astore_n 3, 1) := by decide +kernel
theorem dL_setting_13 : decode cL_setting 13 = .ok (.iconst 1, 1) := by decide +kernel
theorem dL_setting_14 : decode cL_setting 14 = .ok (.ireturn, 1) := by decide +kernel
theorem dL_setting_15 : decode cL_setting 15 = .ok (.iconst 0, 1) := by decide +kernel
theorem dL_setting_16 : decode cL_setting 16 = .ok (.ireturn, 1) := by decide +kernel
theorem dL_ifPassed_0 : decode cL_ifPassed 0 = .ok (.aload_n 3, 1) := by decide +kernel
theorem dL_ifPassed_1 : decode cL_ifPassed 1 = .ok (.iconst 0, 1) := by decide +kernel
theorem dL_ifPassed_2 : decode cL_ifPassed 2 = .ok (.aload_n 0, 1) := by decide +kernel
theorem dL_ifPassed_3 : decode cL_ifPassed 3 = .ok (.iload_n 1, 1) := by decide +kernel
theorem dL_ifPassed_4 : decode cL_ifPassed 4 = .ok (.iload_n 2, 1) := by decide +kernel
theorem dL_ifPassed_5 : decode cL_ifPassed 5 = .ok (.invokevirtual 75, 3) := by decide +kernel
theorem dL_ifPassed_8 : decode cL_ifPassed 8 = .ok (.i2l, 1) := by decide +kernel
theorem dL_ifPassed_9 : decode cL_ifPassed 9 = .ok (.lastore, 1) := by decide +kernel
theorem dL_ifPassed_10 : decode cL_ifPassed 10 = .ok (.goto 7, 3) := by decide +kernel
theorem dL_ifPassed_13 : decode cL_ifPassed 13 = .ok (.astore 4, 2) := by decide +kernel
theorem dL_ifPassed_15 : decode cL_ifPassed 15 = .ok (.iconst 1, 1) := by decide +kernel
theorem dL_ifPassed_16 : decode cL_ifPassed 16 = .ok (.ireturn, 1) := by decide +kernel
theorem dL_ifPassed_17 : decode cL_ifPassed 17 = .ok (.iconst 0, 1) := by decide +kernel
theorem dL_ifPassed_18 : decode cL_ifPassed 18 = .ok (.ireturn, 1) := by decide +kernel
theorem dL_doneIn_0 : decode cL_doneIn 0 = .ok (.aload_n 2, 1) := by decide +kernel
theorem dL_doneIn_1 : decode cL_doneIn 1 = .ok (.iconst 0, 1) := by decide +kernel
theorem dL_doneIn_2 : decode cL_doneIn 2 = .ok (.aload_n 0, 1) := by decide +kernel
theorem dL_doneIn_3 : decode cL_doneIn 3 = .ok (.iload_n 1, 1) := by decide +kernel
theorem dL_doneIn_4 : decode cL_doneIn 4 = .ok (.invokevirtual 78, 3) := by decide +kernel
theorem dL_doneIn_7 : decode cL_doneIn 7 = .ok (.i2l, 1) := by decide +kernel
theorem dL_doneIn_8 : decode cL_doneIn 8 = .ok (.lastore, 1) := by decide +kernel
theorem dL_doneIn_9 : decode cL_doneIn 9 = .ok (.goto 6, 3) := by decide +kernel
theorem dL_doneIn_12 : decode cL_doneIn 12 = .ok (.astore_n 3, 1) := by decide +kernel
theorem dL_doneIn_13 : decode cL_doneIn 13 = .ok (.iconst 1, 1) := by decide +kernel
theorem dL_doneIn_14 : decode cL_doneIn 14 = .ok (.ireturn, 1) := by decide +kernel
theorem dL_doneIn_15 : decode cL_doneIn 15 = .ok (.iconst 0, 1) := by decide +kernel
theorem dL_doneIn_16 : decode cL_doneIn 16 = .ok (.ireturn, 1) := by decide +kernel
theorem dL_bestRule_0 : decode cL_bestRule 0 = .ok (.aload_n 2, 1) := by decide +kernel
theorem dL_bestRule_1 : decode cL_bestRule 1 = .ok (.iconst 0, 1) := by decide +kernel
theorem dL_bestRule_2 : decode cL_bestRule 2 = .ok (.aload_n 0, 1) := by decide +kernel
theorem dL_bestRule_3 : decode cL_bestRule 3 = .ok (.iload_n 1, 1) := by decide +kernel
theorem dL_bestRule_4 : decode cL_bestRule 4 = .ok (.invokevirtual 81, 3) := by decide +kernel
theorem dL_bestRule_7 : decode cL_bestRule 7 = .ok (.i2l, 1) := by decide +kernel
theorem dL_bestRule_8 : decode cL_bestRule 8 = .ok (.lastore, 1) := by decide +kernel
theorem dL_bestRule_9 : decode cL_bestRule 9 = .ok (.goto 6, 3) := by decide +kernel
theorem dL_bestRule_12 : decode cL_bestRule 12 = .ok (.astore_n 3, 1) := by decide +kernel
theorem dL_bestRule_13 : decode cL_bestRule 13 = .ok (.iconst 1, 1) := by decide +kernel
theorem dL_bestRule_14 : decode cL_bestRule 14 = .ok (.ireturn, 1) := by decide +kernel
theorem dL_bestRule_15 : decode cL_bestRule 15 = .ok (.iconst 0, 1) := by decide +kernel
theorem dL_bestRule_16 : decode cL_bestRule 16 = .ok (.ireturn, 1) := by decide +kernel
theorem dL_dueNow_0 : decode cL_dueNow 0 = .ok (.aload_n 3, 1) := by decide +kernel
theorem dL_dueNow_1 : decode cL_dueNow 1 = .ok (.iconst 0, 1) := by decide +kernel
theorem dL_dueNow_2 : decode cL_dueNow 2 = .ok (.aload_n 0, 1) := by decide +kernel
theorem dL_dueNow_3 : decode cL_dueNow 3 = .ok (.iload_n 1, 1) := by decide +kernel
theorem dL_dueNow_4 : decode cL_dueNow 4 = .ok (.iload_n 2, 1) := by decide +kernel
theorem dL_dueNow_5 : decode cL_dueNow 5 = .ok (.invokevirtual 84, 3) := by decide +kernel
theorem dL_dueNow_8 : decode cL_dueNow 8 = .ok (.i2l, 1) := by decide +kernel
theorem dL_dueNow_9 : decode cL_dueNow 9 = .ok (.lastore, 1) := by decide +kernel
theorem dL_dueNow_10 : decode cL_dueNow 10 = .ok (.goto 7, 3) := by decide +kernel
theorem dL_dueNow_13 : decode cL_dueNow 13 = .ok (.astore 4, 2) := by decide +kernel
theorem dL_dueNow_15 : decode cL_dueNow 15 = .ok (.iconst 1, 1) := by decide +kernel
theorem dL_dueNow_16 : decode cL_dueNow 16 = .ok (.ireturn, 1) := by decide +kernel
theorem dL_dueNow_17 : decode cL_dueNow 17 = .ok (.iconst 0, 1) := by decide +kernel
theorem dL_dueNow_18 : decode cL_dueNow 18 = .ok (.ireturn, 1) := by decide +kernel
theorem dL_law_0 : decode cL_law 0 = .ok (.new 8, 3) := by decide +kernel
theorem dL_law_3 : decode cL_law 3 = .ok (.dup, 1) := by decide +kernel
theorem dL_law_4 : decode cL_law 4 = .ok (.invokespecial 87, 3) := by decide +kernel
theorem dL_law_7 : decode cL_law 7 = .ok (.astore_n 1, 1) := by decide +kernel
theorem dL_law_8 : decode cL_law 8 = .ok (.new 88, 3) := by decide +kernel
theorem dL_law_11 : decode cL_law 11 = .ok (.dup, 1) := by decide +kernel
theorem dL_law_12 : decode cL_law 12 = .ok (.invokespecial 90, 3) := by decide +kernel
theorem dL_law_15 : decode cL_law 15 = .ok (.astore_n 2, 1) := by decide +kernel
theorem dL_law_16 : decode cL_law 16 = .ok (.iconst 1, 1) := by decide +kernel
theorem dL_law_17 : decode cL_law 17 = .ok (.newarray .long, 2) := by decide +kernel
theorem dL_law_19 : decode cL_law 19 = .ok (.astore_n 3, 1) := by decide +kernel
theorem dL_law_20 : decode cL_law 20 = .ok (.iconst 0, 1) := by decide +kernel
theorem dL_law_21 : decode cL_law 21 = .ok (.istore 4, 2) := by decide +kernel
theorem dL_law_23 : decode cL_law 23 = .ok (.iload 4, 2) := by decide +kernel
theorem dL_law_25 : decode cL_law 25 = .ok (.aload_n 0, 1) := by decide +kernel
theorem dL_law_26 : decode cL_law 26 = .ok (.arraylength, 1) := by decide +kernel
theorem dL_law_27 : decode cL_law 27 = .ok (.bipush 6, 2) := by decide +kernel
theorem dL_law_29 : decode cL_law 29 = .ok (.isub, 1) := by decide +kernel
theorem dL_law_30 : decode cL_law 30 = .ok (.if_icmp .gt 1677, 3) := by decide +kernel
theorem dL_law_33 : decode cL_law 33 = .ok (.aload_n 0, 1) := by decide +kernel
theorem dL_law_34 : decode cL_law 34 = .ok (.iload 4, 2) := by decide +kernel
theorem dL_law_36 : decode cL_law 36 = .ok (.iaload, 1) := by decide +kernel
theorem dL_law_37 : decode cL_law 37 = .ok (.bipush 31, 2) := by decide +kernel
theorem dL_law_39 : decode cL_law 39 = .ok (.iand, 1) := by decide +kernel
theorem dL_law_40 : decode cL_law 40 = .ok (.tableswitch 1661 0 25 #[120, 212, 292, 360, 452, 556, 612, 680, 736, 792, 805, 818, 862, 906, 974, 1042, 1110, 1178, 1246, 1302, 1358, 1426, 1482, 1538, 1606, 1647], 120) := by decide +kernel
theorem dL_law_160 : decode cL_law 160 = .ok (.aload_n 1, 1) := by decide +kernel
theorem dL_law_161 : decode cL_law 161 = .ok (.aload_n 0, 1) := by decide +kernel
theorem dL_law_162 : decode cL_law 162 = .ok (.iload 4, 2) := by decide +kernel
theorem dL_law_164 : decode cL_law 164 = .ok (.iconst 1, 1) := by decide +kernel
theorem dL_law_165 : decode cL_law 165 = .ok (.iadd, 1) := by decide +kernel
theorem dL_law_166 : decode cL_law 166 = .ok (.iaload, 1) := by decide +kernel
theorem dL_law_167 : decode cL_law 167 = .ok (.aload_n 0, 1) := by decide +kernel
theorem dL_law_168 : decode cL_law 168 = .ok (.iload 4, 2) := by decide +kernel
theorem dL_law_170 : decode cL_law 170 = .ok (.iconst 2, 1) := by decide +kernel
theorem dL_law_171 : decode cL_law 171 = .ok (.iadd, 1) := by decide +kernel
theorem dL_law_172 : decode cL_law 172 = .ok (.iaload, 1) := by decide +kernel
theorem dL_law_173 : decode cL_law 173 = .ok (.aload_n 0, 1) := by decide +kernel
theorem dL_law_174 : decode cL_law 174 = .ok (.iload 4, 2) := by decide +kernel
theorem dL_law_176 : decode cL_law 176 = .ok (.iconst 3, 1) := by decide +kernel
theorem dL_law_177 : decode cL_law 177 = .ok (.iadd, 1) := by decide +kernel
theorem dL_law_178 : decode cL_law 178 = .ok (.iaload, 1) := by decide +kernel
theorem dL_law_179 : decode cL_law 179 = .ok (.aload_n 0, 1) := by decide +kernel
theorem dL_law_180 : decode cL_law 180 = .ok (.iload 4, 2) := by decide +kernel
theorem dL_law_182 : decode cL_law 182 = .ok (.iconst 4, 1) := by decide +kernel
theorem dL_law_183 : decode cL_law 183 = .ok (.iadd, 1) := by decide +kernel
theorem dL_law_184 : decode cL_law 184 = .ok (.iaload, 1) := by decide +kernel
theorem dL_law_185 : decode cL_law 185 = .ok (.aload_n 3, 1) := by decide +kernel
theorem dL_law_186 : decode cL_law 186 = .ok (.invokestatic 91, 3) := by decide +kernel
theorem dL_law_189 : decode cL_law 189 = .ok (.istore 5, 2) := by decide +kernel
theorem dL_law_191 : decode cL_law 191 = .ok (.aload_n 2, 1) := by decide +kernel
theorem dL_law_192 : decode cL_law 192 = .ok (.aload_n 0, 1) := by decide +kernel
theorem dL_law_193 : decode cL_law 193 = .ok (.iload 4, 2) := by decide +kernel
theorem dL_law_195 : decode cL_law 195 = .ok (.iconst 1, 1) := by decide +kernel
theorem dL_law_196 : decode cL_law 196 = .ok (.iadd, 1) := by decide +kernel
theorem dL_law_197 : decode cL_law 197 = .ok (.iaload, 1) := by decide +kernel
theorem dL_law_198 : decode cL_law 198 = .ok (.aload_n 0, 1) := by decide +kernel
theorem dL_law_199 : decode cL_law 199 = .ok (.iload 4, 2) := by decide +kernel
theorem dL_law_201 : decode cL_law 201 = .ok (.iconst 2, 1) := by decide +kernel
theorem dL_law_202 : decode cL_law 202 = .ok (.iadd, 1) := by decide +kernel
theorem dL_law_203 : decode cL_law 203 = .ok (.iaload, 1) := by decide +kernel
theorem dL_law_204 : decode cL_law 204 = .ok (.aload_n 0, 1) := by decide +kernel
theorem dL_law_205 : decode cL_law 205 = .ok (.iload 4, 2) := by decide +kernel
theorem dL_law_207 : decode cL_law 207 = .ok (.iconst 3, 1) := by decide +kernel
theorem dL_law_208 : decode cL_law 208 = .ok (.iadd, 1) := by decide +kernel
theorem dL_law_209 : decode cL_law 209 = .ok (.iaload, 1) := by decide +kernel
theorem dL_law_210 : decode cL_law 210 = .ok (.aload_n 0, 1) := by decide +kernel
theorem dL_law_211 : decode cL_law 211 = .ok (.iload 4, 2) := by decide +kernel
theorem dL_law_213 : decode cL_law 213 = .ok (.iconst 4, 1) := by decide +kernel
theorem dL_law_214 : decode cL_law 214 = .ok (.iadd, 1) := by decide +kernel
theorem dL_law_215 : decode cL_law 215 = .ok (.iaload, 1) := by decide +kernel
theorem dL_law_216 : decode cL_law 216 = .ok (.invokevirtual 96, 3) := by decide +kernel
theorem dL_law_219 : decode cL_law 219 = .ok (.istore 6, 2) := by decide +kernel
theorem dL_law_221 : decode cL_law 221 = .ok (.aload_n 2, 1) := by decide +kernel
theorem dL_law_222 : decode cL_law 222 = .ok (.invokevirtual 97, 3) := by decide +kernel
theorem dL_law_225 : decode cL_law 225 = .ok (.iload 5, 2) := by decide +kernel
theorem dL_law_227 : decode cL_law 227 = .ok (.if_icmp .eq 5, 3) := by decide +kernel
theorem dL_law_230 : decode cL_law 230 = .ok (.iconst 0, 1) := by decide +kernel
theorem dL_law_231 : decode cL_law 231 = .ok (.ireturn, 1) := by decide +kernel
theorem dL_law_232 : decode cL_law 232 = .ok (.iload 5, 2) := by decide +kernel
theorem dL_law_234 : decode cL_law 234 = .ok (.ifCond .ne 15, 3) := by decide +kernel
theorem dL_law_237 : decode cL_law 237 = .ok (.aload_n 3, 1) := by decide +kernel
theorem dL_law_238 : decode cL_law 238 = .ok (.iconst 0, 1) := by decide +kernel
theorem dL_law_239 : decode cL_law 239 = .ok (.laload, 1) := by decide +kernel
theorem dL_law_240 : decode cL_law 240 = .ok (.iload 6, 2) := by decide +kernel
theorem dL_law_242 : decode cL_law 242 = .ok (.i2l, 1) := by decide +kernel
theorem dL_law_243 : decode cL_law 243 = .ok (.lcmp, 1) := by decide +kernel
theorem dL_law_244 : decode cL_law 244 = .ok (.ifCond .eq 5, 3) := by decide +kernel
theorem dL_law_247 : decode cL_law 247 = .ok (.iconst 0, 1) := by decide +kernel
theorem dL_law_248 : decode cL_law 248 = .ok (.ireturn, 1) := by decide +kernel
theorem dL_law_249 : decode cL_law 249 = .ok (.goto 1452, 3) := by decide +kernel
theorem dL_law_252 : decode cL_law 252 = .ok (.aload_n 1, 1) := by decide +kernel
theorem dL_law_253 : decode cL_law 253 = .ok (.aload_n 0, 1) := by decide +kernel
theorem dL_law_254 : decode cL_law 254 = .ok (.iload 4, 2) := by decide +kernel
theorem dL_law_256 : decode cL_law 256 = .ok (.iconst 1, 1) := by decide +kernel
theorem dL_law_257 : decode cL_law 257 = .ok (.iadd, 1) := by decide +kernel
theorem dL_law_258 : decode cL_law 258 = .ok (.iaload, 1) := by decide +kernel
theorem dL_law_259 : decode cL_law 259 = .ok (.aload_n 0, 1) := by decide +kernel
theorem dL_law_260 : decode cL_law 260 = .ok (.iload 4, 2) := by decide +kernel
theorem dL_law_262 : decode cL_law 262 = .ok (.iconst 2, 1) := by decide +kernel
theorem dL_law_263 : decode cL_law 263 = .ok (.iadd, 1) := by decide +kernel
theorem dL_law_264 : decode cL_law 264 = .ok (.iaload, 1) := by decide +kernel
theorem dL_law_265 : decode cL_law 265 = .ok (.aload_n 0, 1) := by decide +kernel
theorem dL_law_266 : decode cL_law 266 = .ok (.iload 4, 2) := by decide +kernel
theorem dL_law_268 : decode cL_law 268 = .ok (.iconst 3, 1) := by decide +kernel
theorem dL_law_269 : decode cL_law 269 = .ok (.iadd, 1) := by decide +kernel
theorem dL_law_270 : decode cL_law 270 = .ok (.iaload, 1) := by decide +kernel
theorem dL_law_271 : decode cL_law 271 = .ok (.aload_n 3, 1) := by decide +kernel
theorem dL_law_272 : decode cL_law 272 = .ok (.invokestatic 100, 3) := by decide +kernel
theorem dL_law_275 : decode cL_law 275 = .ok (.istore 5, 2) := by decide +kernel
theorem dL_law_277 : decode cL_law 277 = .ok (.aload_n 2, 1) := by decide +kernel
theorem dL_law_278 : decode cL_law 278 = .ok (.aload_n 0, 1) := by decide +kernel
theorem dL_law_279 : decode cL_law 279 = .ok (.iload 4, 2) := by decide +kernel
theorem dL_law_281 : decode cL_law 281 = .ok (.iconst 1, 1) := by decide +kernel
theorem dL_law_282 : decode cL_law 282 = .ok (.iadd, 1) := by decide +kernel
theorem dL_law_283 : decode cL_law 283 = .ok (.iaload, 1) := by decide +kernel
theorem dL_law_284 : decode cL_law 284 = .ok (.aload_n 0, 1) := by decide +kernel
theorem dL_law_285 : decode cL_law 285 = .ok (.iload 4, 2) := by decide +kernel
theorem dL_law_287 : decode cL_law 287 = .ok (.iconst 2, 1) := by decide +kernel
theorem dL_law_288 : decode cL_law 288 = .ok (.iadd, 1) := by decide +kernel
theorem dL_law_289 : decode cL_law 289 = .ok (.iaload, 1) := by decide +kernel
theorem dL_law_290 : decode cL_law 290 = .ok (.aload_n 0, 1) := by decide +kernel
theorem dL_law_291 : decode cL_law 291 = .ok (.iload 4, 2) := by decide +kernel
theorem dL_law_293 : decode cL_law 293 = .ok (.iconst 3, 1) := by decide +kernel
theorem dL_law_294 : decode cL_law 294 = .ok (.iadd, 1) := by decide +kernel
theorem dL_law_295 : decode cL_law 295 = .ok (.iaload, 1) := by decide +kernel
theorem dL_law_296 : decode cL_law 296 = .ok (.invokevirtual 103, 3) := by decide +kernel
theorem dL_law_299 : decode cL_law 299 = .ok (.istore 6, 2) := by decide +kernel
theorem dL_law_301 : decode cL_law 301 = .ok (.aload_n 2, 1) := by decide +kernel
theorem dL_law_302 : decode cL_law 302 = .ok (.invokevirtual 97, 3) := by decide +kernel
theorem dL_law_305 : decode cL_law 305 = .ok (.iload 5, 2) := by decide +kernel
theorem dL_law_307 : decode cL_law 307 = .ok (.if_icmp .eq 5, 3) := by decide +kernel
theorem dL_law_310 : decode cL_law 310 = .ok (.iconst 0, 1) := by decide +kernel
theorem dL_law_311 : decode cL_law 311 = .ok (.ireturn, 1) := by decide +kernel
theorem dL_law_312 : decode cL_law 312 = .ok (.iload 5, 2) := by decide +kernel
theorem dL_law_314 : decode cL_law 314 = .ok (.ifCond .ne 15, 3) := by decide +kernel
theorem dL_law_317 : decode cL_law 317 = .ok (.aload_n 3, 1) := by decide +kernel
theorem dL_law_318 : decode cL_law 318 = .ok (.iconst 0, 1) := by decide +kernel
theorem dL_law_319 : decode cL_law 319 = .ok (.laload, 1) := by decide +kernel
theorem dL_law_320 : decode cL_law 320 = .ok (.iload 6, 2) := by decide +kernel
theorem dL_law_322 : decode cL_law 322 = .ok (.i2l, 1) := by decide +kernel
theorem dL_law_323 : decode cL_law 323 = .ok (.lcmp, 1) := by decide +kernel
theorem dL_law_324 : decode cL_law 324 = .ok (.ifCond .eq 5, 3) := by decide +kernel
theorem dL_law_327 : decode cL_law 327 = .ok (.iconst 0, 1) := by decide +kernel
theorem dL_law_328 : decode cL_law 328 = .ok (.ireturn, 1) := by decide +kernel
theorem dL_law_329 : decode cL_law 329 = .ok (.goto 1372, 3) := by decide +kernel
theorem dL_law_332 : decode cL_law 332 = .ok (.aload_n 1, 1) := by decide +kernel
theorem dL_law_333 : decode cL_law 333 = .ok (.aload_n 0, 1) := by decide +kernel
theorem dL_law_334 : decode cL_law 334 = .ok (.iload 4, 2) := by decide +kernel
theorem dL_law_336 : decode cL_law 336 = .ok (.iconst 1, 1) := by decide +kernel
theorem dL_law_337 : decode cL_law 337 = .ok (.iadd, 1) := by decide +kernel
theorem dL_law_338 : decode cL_law 338 = .ok (.iaload, 1) := by decide +kernel
theorem dL_law_339 : decode cL_law 339 = .ok (.aload_n 0, 1) := by decide +kernel
theorem dL_law_340 : decode cL_law 340 = .ok (.iload 4, 2) := by decide +kernel
theorem dL_law_342 : decode cL_law 342 = .ok (.iconst 2, 1) := by decide +kernel
theorem dL_law_343 : decode cL_law 343 = .ok (.iadd, 1) := by decide +kernel
theorem dL_law_344 : decode cL_law 344 = .ok (.iaload, 1) := by decide +kernel
theorem dL_law_345 : decode cL_law 345 = .ok (.aload_n 3, 1) := by decide +kernel
theorem dL_law_346 : decode cL_law 346 = .ok (.invokestatic 104, 3) := by decide +kernel
theorem dL_law_349 : decode cL_law 349 = .ok (.istore 5, 2) := by decide +kernel
theorem dL_law_351 : decode cL_law 351 = .ok (.aload_n 2, 1) := by decide +kernel
theorem dL_law_352 : decode cL_law 352 = .ok (.aload_n 0, 1) := by decide +kernel
theorem dL_law_353 : decode cL_law 353 = .ok (.iload 4, 2) := by decide +kernel
theorem dL_law_355 : decode cL_law 355 = .ok (.iconst 1, 1) := by decide +kernel
theorem dL_law_356 : decode cL_law 356 = .ok (.iadd, 1) := by decide +kernel
theorem dL_law_357 : decode cL_law 357 = .ok (.iaload, 1) := by decide +kernel
theorem dL_law_358 : decode cL_law 358 = .ok (.aload_n 0, 1) := by decide +kernel
theorem dL_law_359 : decode cL_law 359 = .ok (.iload 4, 2) := by decide +kernel
theorem dL_law_361 : decode cL_law 361 = .ok (.iconst 2, 1) := by decide +kernel
theorem dL_law_362 : decode cL_law 362 = .ok (.iadd, 1) := by decide +kernel
theorem dL_law_363 : decode cL_law 363 = .ok (.iaload, 1) := by decide +kernel
theorem dL_law_364 : decode cL_law 364 = .ok (.invokevirtual 107, 3) := by decide +kernel
theorem dL_law_367 : decode cL_law 367 = .ok (.istore 6, 2) := by decide +kernel
theorem dL_law_369 : decode cL_law 369 = .ok (.aload_n 2, 1) := by decide +kernel
theorem dL_law_370 : decode cL_law 370 = .ok (.invokevirtual 97, 3) := by decide +kernel
theorem dL_law_373 : decode cL_law 373 = .ok (.iload 5, 2) := by decide +kernel
theorem dL_law_375 : decode cL_law 375 = .ok (.if_icmp .eq 5, 3) := by decide +kernel
theorem dL_law_378 : decode cL_law 378 = .ok (.iconst 0, 1) := by decide +kernel
theorem dL_law_379 : decode cL_law 379 = .ok (.ireturn, 1) := by decide +kernel
theorem dL_law_380 : decode cL_law 380 = .ok (.iload 5, 2) := by decide +kernel
theorem dL_law_382 : decode cL_law 382 = .ok (.ifCond .ne 15, 3) := by decide +kernel
theorem dL_law_385 : decode cL_law 385 = .ok (.aload_n 3, 1) := by decide +kernel
theorem dL_law_386 : decode cL_law 386 = .ok (.iconst 0, 1) := by decide +kernel
theorem dL_law_387 : decode cL_law 387 = .ok (.laload, 1) := by decide +kernel
theorem dL_law_388 : decode cL_law 388 = .ok (.iload 6, 2) := by decide +kernel
theorem dL_law_390 : decode cL_law 390 = .ok (.i2l, 1) := by decide +kernel
theorem dL_law_391 : decode cL_law 391 = .ok (.lcmp, 1) := by decide +kernel
theorem dL_law_392 : decode cL_law 392 = .ok (.ifCond .eq 5, 3) := by decide +kernel
theorem dL_law_395 : decode cL_law 395 = .ok (.iconst 0, 1) := by decide +kernel
theorem dL_law_396 : decode cL_law 396 = .ok (.ireturn, 1) := by decide +kernel
theorem dL_law_397 : decode cL_law 397 = .ok (.goto 1304, 3) := by decide +kernel
theorem dL_law_400 : decode cL_law 400 = .ok (.aload_n 1, 1) := by decide +kernel
theorem dL_law_401 : decode cL_law 401 = .ok (.aload_n 0, 1) := by decide +kernel
theorem dL_law_402 : decode cL_law 402 = .ok (.iload 4, 2) := by decide +kernel
theorem dL_law_404 : decode cL_law 404 = .ok (.iconst 1, 1) := by decide +kernel
theorem dL_law_405 : decode cL_law 405 = .ok (.iadd, 1) := by decide +kernel
theorem dL_law_406 : decode cL_law 406 = .ok (.iaload, 1) := by decide +kernel
theorem dL_law_407 : decode cL_law 407 = .ok (.aload_n 0, 1) := by decide +kernel
theorem dL_law_408 : decode cL_law 408 = .ok (.iload 4, 2) := by decide +kernel
theorem dL_law_410 : decode cL_law 410 = .ok (.iconst 2, 1) := by decide +kernel
theorem dL_law_411 : decode cL_law 411 = .ok (.iadd, 1) := by decide +kernel
theorem dL_law_412 : decode cL_law 412 = .ok (.iaload, 1) := by decide +kernel
theorem dL_law_413 : decode cL_law 413 = .ok (.aload_n 0, 1) := by decide +kernel
theorem dL_law_414 : decode cL_law 414 = .ok (.iload 4, 2) := by decide +kernel
theorem dL_law_416 : decode cL_law 416 = .ok (.iconst 3, 1) := by decide +kernel
theorem dL_law_417 : decode cL_law 417 = .ok (.iadd, 1) := by decide +kernel
theorem dL_law_418 : decode cL_law 418 = .ok (.iaload, 1) := by decide +kernel
theorem dL_law_419 : decode cL_law 419 = .ok (.aload_n 0, 1) := by decide +kernel
theorem dL_law_420 : decode cL_law 420 = .ok (.iload 4, 2) := by decide +kernel
theorem dL_law_422 : decode cL_law 422 = .ok (.iconst 4, 1) := by decide +kernel
theorem dL_law_423 : decode cL_law 423 = .ok (.iadd, 1) := by decide +kernel
theorem dL_law_424 : decode cL_law 424 = .ok (.iaload, 1) := by decide +kernel
theorem dL_law_425 : decode cL_law 425 = .ok (.aload_n 3, 1) := by decide +kernel
theorem dL_law_426 : decode cL_law 426 = .ok (.invokestatic 108, 3) := by decide +kernel
theorem dL_law_429 : decode cL_law 429 = .ok (.istore 5, 2) := by decide +kernel
theorem dL_law_431 : decode cL_law 431 = .ok (.aload_n 2, 1) := by decide +kernel
theorem dL_law_432 : decode cL_law 432 = .ok (.aload_n 0, 1) := by decide +kernel
theorem dL_law_433 : decode cL_law 433 = .ok (.iload 4, 2) := by decide +kernel
theorem dL_law_435 : decode cL_law 435 = .ok (.iconst 1, 1) := by decide +kernel
theorem dL_law_436 : decode cL_law 436 = .ok (.iadd, 1) := by decide +kernel
theorem dL_law_437 : decode cL_law 437 = .ok (.iaload, 1) := by decide +kernel
theorem dL_law_438 : decode cL_law 438 = .ok (.aload_n 0, 1) := by decide +kernel
theorem dL_law_439 : decode cL_law 439 = .ok (.iload 4, 2) := by decide +kernel
theorem dL_law_441 : decode cL_law 441 = .ok (.iconst 2, 1) := by decide +kernel
theorem dL_law_442 : decode cL_law 442 = .ok (.iadd, 1) := by decide +kernel
theorem dL_law_443 : decode cL_law 443 = .ok (.iaload, 1) := by decide +kernel
theorem dL_law_444 : decode cL_law 444 = .ok (.aload_n 0, 1) := by decide +kernel
theorem dL_law_445 : decode cL_law 445 = .ok (.iload 4, 2) := by decide +kernel
theorem dL_law_447 : decode cL_law 447 = .ok (.iconst 3, 1) := by decide +kernel
theorem dL_law_448 : decode cL_law 448 = .ok (.iadd, 1) := by decide +kernel
theorem dL_law_449 : decode cL_law 449 = .ok (.iaload, 1) := by decide +kernel
theorem dL_law_450 : decode cL_law 450 = .ok (.aload_n 0, 1) := by decide +kernel
theorem dL_law_451 : decode cL_law 451 = .ok (.iload 4, 2) := by decide +kernel
theorem dL_law_453 : decode cL_law 453 = .ok (.iconst 4, 1) := by decide +kernel
theorem dL_law_454 : decode cL_law 454 = .ok (.iadd, 1) := by decide +kernel
theorem dL_law_455 : decode cL_law 455 = .ok (.iaload, 1) := by decide +kernel
theorem dL_law_456 : decode cL_law 456 = .ok (.invokevirtual 110, 3) := by decide +kernel
theorem dL_law_459 : decode cL_law 459 = .ok (.istore 6, 2) := by decide +kernel
theorem dL_law_461 : decode cL_law 461 = .ok (.aload_n 2, 1) := by decide +kernel
theorem dL_law_462 : decode cL_law 462 = .ok (.invokevirtual 97, 3) := by decide +kernel
theorem dL_law_465 : decode cL_law 465 = .ok (.iload 5, 2) := by decide +kernel
theorem dL_law_467 : decode cL_law 467 = .ok (.if_icmp .eq 5, 3) := by decide +kernel
theorem dL_law_470 : decode cL_law 470 = .ok (.iconst 0, 1) := by decide +kernel
theorem dL_law_471 : decode cL_law 471 = .ok (.ireturn, 1) := by decide +kernel
theorem dL_law_472 : decode cL_law 472 = .ok (.iload 5, 2) := by decide +kernel
theorem dL_law_474 : decode cL_law 474 = .ok (.ifCond .ne 15, 3) := by decide +kernel
theorem dL_law_477 : decode cL_law 477 = .ok (.aload_n 3, 1) := by decide +kernel
theorem dL_law_478 : decode cL_law 478 = .ok (.iconst 0, 1) := by decide +kernel
theorem dL_law_479 : decode cL_law 479 = .ok (.laload, 1) := by decide +kernel
theorem dL_law_480 : decode cL_law 480 = .ok (.iload 6, 2) := by decide +kernel
theorem dL_law_482 : decode cL_law 482 = .ok (.i2l, 1) := by decide +kernel
theorem dL_law_483 : decode cL_law 483 = .ok (.lcmp, 1) := by decide +kernel
theorem dL_law_484 : decode cL_law 484 = .ok (.ifCond .eq 5, 3) := by decide +kernel
theorem dL_law_487 : decode cL_law 487 = .ok (.iconst 0, 1) := by decide +kernel
theorem dL_law_488 : decode cL_law 488 = .ok (.ireturn, 1) := by decide +kernel
theorem dL_law_489 : decode cL_law 489 = .ok (.goto 1212, 3) := by decide +kernel
theorem dL_law_492 : decode cL_law 492 = .ok (.aload_n 1, 1) := by decide +kernel
theorem dL_law_493 : decode cL_law 493 = .ok (.aload_n 0, 1) := by decide +kernel
theorem dL_law_494 : decode cL_law 494 = .ok (.iload 4, 2) := by decide +kernel
theorem dL_law_496 : decode cL_law 496 = .ok (.iconst 1, 1) := by decide +kernel
theorem dL_law_497 : decode cL_law 497 = .ok (.iadd, 1) := by decide +kernel
theorem dL_law_498 : decode cL_law 498 = .ok (.iaload, 1) := by decide +kernel
theorem dL_law_499 : decode cL_law 499 = .ok (.aload_n 0, 1) := by decide +kernel
theorem dL_law_500 : decode cL_law 500 = .ok (.iload 4, 2) := by decide +kernel
theorem dL_law_502 : decode cL_law 502 = .ok (.iconst 2, 1) := by decide +kernel
theorem dL_law_503 : decode cL_law 503 = .ok (.iadd, 1) := by decide +kernel
theorem dL_law_504 : decode cL_law 504 = .ok (.iaload, 1) := by decide +kernel
theorem dL_law_505 : decode cL_law 505 = .ok (.aload_n 0, 1) := by decide +kernel
theorem dL_law_506 : decode cL_law 506 = .ok (.iload 4, 2) := by decide +kernel
theorem dL_law_508 : decode cL_law 508 = .ok (.iconst 3, 1) := by decide +kernel
theorem dL_law_509 : decode cL_law 509 = .ok (.iadd, 1) := by decide +kernel
theorem dL_law_510 : decode cL_law 510 = .ok (.iaload, 1) := by decide +kernel
theorem dL_law_511 : decode cL_law 511 = .ok (.aload_n 0, 1) := by decide +kernel
theorem dL_law_512 : decode cL_law 512 = .ok (.iload 4, 2) := by decide +kernel
theorem dL_law_514 : decode cL_law 514 = .ok (.iconst 4, 1) := by decide +kernel
theorem dL_law_515 : decode cL_law 515 = .ok (.iadd, 1) := by decide +kernel
theorem dL_law_516 : decode cL_law 516 = .ok (.iaload, 1) := by decide +kernel
theorem dL_law_517 : decode cL_law 517 = .ok (.aload_n 0, 1) := by decide +kernel
theorem dL_law_518 : decode cL_law 518 = .ok (.iload 4, 2) := by decide +kernel
theorem dL_law_520 : decode cL_law 520 = .ok (.iconst 5, 1) := by decide +kernel
theorem dL_law_521 : decode cL_law 521 = .ok (.iadd, 1) := by decide +kernel
theorem dL_law_522 : decode cL_law 522 = .ok (.iaload, 1) := by decide +kernel
theorem dL_law_523 : decode cL_law 523 = .ok (.aload_n 3, 1) := by decide +kernel
theorem dL_law_524 : decode cL_law 524 = .ok (.invokestatic 111, 3) := by decide +kernel
theorem dL_law_527 : decode cL_law 527 = .ok (.istore 5, 2) := by decide +kernel
theorem dL_law_529 : decode cL_law 529 = .ok (.aload_n 2, 1) := by decide +kernel
theorem dL_law_530 : decode cL_law 530 = .ok (.aload_n 0, 1) := by decide +kernel
theorem dL_law_531 : decode cL_law 531 = .ok (.iload 4, 2) := by decide +kernel
theorem dL_law_533 : decode cL_law 533 = .ok (.iconst 1, 1) := by decide +kernel
theorem dL_law_534 : decode cL_law 534 = .ok (.iadd, 1) := by decide +kernel
theorem dL_law_535 : decode cL_law 535 = .ok (.iaload, 1) := by decide +kernel
theorem dL_law_536 : decode cL_law 536 = .ok (.aload_n 0, 1) := by decide +kernel
theorem dL_law_537 : decode cL_law 537 = .ok (.iload 4, 2) := by decide +kernel
theorem dL_law_539 : decode cL_law 539 = .ok (.iconst 2, 1) := by decide +kernel
theorem dL_law_540 : decode cL_law 540 = .ok (.iadd, 1) := by decide +kernel
theorem dL_law_541 : decode cL_law 541 = .ok (.iaload, 1) := by decide +kernel
theorem dL_law_542 : decode cL_law 542 = .ok (.aload_n 0, 1) := by decide +kernel
theorem dL_law_543 : decode cL_law 543 = .ok (.iload 4, 2) := by decide +kernel
theorem dL_law_545 : decode cL_law 545 = .ok (.iconst 3, 1) := by decide +kernel
theorem dL_law_546 : decode cL_law 546 = .ok (.iadd, 1) := by decide +kernel
theorem dL_law_547 : decode cL_law 547 = .ok (.iaload, 1) := by decide +kernel
theorem dL_law_548 : decode cL_law 548 = .ok (.aload_n 0, 1) := by decide +kernel
theorem dL_law_549 : decode cL_law 549 = .ok (.iload 4, 2) := by decide +kernel
theorem dL_law_551 : decode cL_law 551 = .ok (.iconst 4, 1) := by decide +kernel
theorem dL_law_552 : decode cL_law 552 = .ok (.iadd, 1) := by decide +kernel
theorem dL_law_553 : decode cL_law 553 = .ok (.iaload, 1) := by decide +kernel
theorem dL_law_554 : decode cL_law 554 = .ok (.aload_n 0, 1) := by decide +kernel
theorem dL_law_555 : decode cL_law 555 = .ok (.iload 4, 2) := by decide +kernel
theorem dL_law_557 : decode cL_law 557 = .ok (.iconst 5, 1) := by decide +kernel
theorem dL_law_558 : decode cL_law 558 = .ok (.iadd, 1) := by decide +kernel
theorem dL_law_559 : decode cL_law 559 = .ok (.iaload, 1) := by decide +kernel
theorem dL_law_560 : decode cL_law 560 = .ok (.invokevirtual 114, 3) := by decide +kernel
theorem dL_law_563 : decode cL_law 563 = .ok (.istore 6, 2) := by decide +kernel
theorem dL_law_565 : decode cL_law 565 = .ok (.aload_n 2, 1) := by decide +kernel
theorem dL_law_566 : decode cL_law 566 = .ok (.invokevirtual 97, 3) := by decide +kernel
theorem dL_law_569 : decode cL_law 569 = .ok (.iload 5, 2) := by decide +kernel
theorem dL_law_571 : decode cL_law 571 = .ok (.if_icmp .eq 5, 3) := by decide +kernel
theorem dL_law_574 : decode cL_law 574 = .ok (.iconst 0, 1) := by decide +kernel
theorem dL_law_575 : decode cL_law 575 = .ok (.ireturn, 1) := by decide +kernel
theorem dL_law_576 : decode cL_law 576 = .ok (.iload 5, 2) := by decide +kernel
theorem dL_law_578 : decode cL_law 578 = .ok (.ifCond .ne 15, 3) := by decide +kernel
theorem dL_law_581 : decode cL_law 581 = .ok (.aload_n 3, 1) := by decide +kernel
theorem dL_law_582 : decode cL_law 582 = .ok (.iconst 0, 1) := by decide +kernel
theorem dL_law_583 : decode cL_law 583 = .ok (.laload, 1) := by decide +kernel
theorem dL_law_584 : decode cL_law 584 = .ok (.iload 6, 2) := by decide +kernel
theorem dL_law_586 : decode cL_law 586 = .ok (.i2l, 1) := by decide +kernel
theorem dL_law_587 : decode cL_law 587 = .ok (.lcmp, 1) := by decide +kernel
theorem dL_law_588 : decode cL_law 588 = .ok (.ifCond .eq 5, 3) := by decide +kernel
theorem dL_law_591 : decode cL_law 591 = .ok (.iconst 0, 1) := by decide +kernel
theorem dL_law_592 : decode cL_law 592 = .ok (.ireturn, 1) := by decide +kernel
theorem dL_law_593 : decode cL_law 593 = .ok (.goto 1108, 3) := by decide +kernel
theorem dL_law_596 : decode cL_law 596 = .ok (.aload_n 1, 1) := by decide +kernel
theorem dL_law_597 : decode cL_law 597 = .ok (.aload_n 0, 1) := by decide +kernel
theorem dL_law_598 : decode cL_law 598 = .ok (.iload 4, 2) := by decide +kernel
theorem dL_law_600 : decode cL_law 600 = .ok (.iconst 1, 1) := by decide +kernel
theorem dL_law_601 : decode cL_law 601 = .ok (.iadd, 1) := by decide +kernel
theorem dL_law_602 : decode cL_law 602 = .ok (.iaload, 1) := by decide +kernel
theorem dL_law_603 : decode cL_law 603 = .ok (.aload_n 3, 1) := by decide +kernel
theorem dL_law_604 : decode cL_law 604 = .ok (.invokestatic 115, 3) := by decide +kernel
theorem dL_law_607 : decode cL_law 607 = .ok (.istore 5, 2) := by decide +kernel
theorem dL_law_609 : decode cL_law 609 = .ok (.aload_n 2, 1) := by decide +kernel
theorem dL_law_610 : decode cL_law 610 = .ok (.aload_n 0, 1) := by decide +kernel
theorem dL_law_611 : decode cL_law 611 = .ok (.iload 4, 2) := by decide +kernel
theorem dL_law_613 : decode cL_law 613 = .ok (.iconst 1, 1) := by decide +kernel
theorem dL_law_614 : decode cL_law 614 = .ok (.iadd, 1) := by decide +kernel
theorem dL_law_615 : decode cL_law 615 = .ok (.iaload, 1) := by decide +kernel
theorem dL_law_616 : decode cL_law 616 = .ok (.invokevirtual 118, 3) := by decide +kernel
theorem dL_law_619 : decode cL_law 619 = .ok (.istore 6, 2) := by decide +kernel
theorem dL_law_621 : decode cL_law 621 = .ok (.aload_n 2, 1) := by decide +kernel
theorem dL_law_622 : decode cL_law 622 = .ok (.invokevirtual 97, 3) := by decide +kernel
theorem dL_law_625 : decode cL_law 625 = .ok (.iload 5, 2) := by decide +kernel
theorem dL_law_627 : decode cL_law 627 = .ok (.if_icmp .eq 5, 3) := by decide +kernel
theorem dL_law_630 : decode cL_law 630 = .ok (.iconst 0, 1) := by decide +kernel
theorem dL_law_631 : decode cL_law 631 = .ok (.ireturn, 1) := by decide +kernel
theorem dL_law_632 : decode cL_law 632 = .ok (.iload 5, 2) := by decide +kernel
theorem dL_law_634 : decode cL_law 634 = .ok (.ifCond .ne 15, 3) := by decide +kernel
theorem dL_law_637 : decode cL_law 637 = .ok (.aload_n 3, 1) := by decide +kernel
theorem dL_law_638 : decode cL_law 638 = .ok (.iconst 0, 1) := by decide +kernel
theorem dL_law_639 : decode cL_law 639 = .ok (.laload, 1) := by decide +kernel
theorem dL_law_640 : decode cL_law 640 = .ok (.iload 6, 2) := by decide +kernel
theorem dL_law_642 : decode cL_law 642 = .ok (.i2l, 1) := by decide +kernel
theorem dL_law_643 : decode cL_law 643 = .ok (.lcmp, 1) := by decide +kernel
theorem dL_law_644 : decode cL_law 644 = .ok (.ifCond .eq 5, 3) := by decide +kernel
theorem dL_law_647 : decode cL_law 647 = .ok (.iconst 0, 1) := by decide +kernel
theorem dL_law_648 : decode cL_law 648 = .ok (.ireturn, 1) := by decide +kernel
theorem dL_law_649 : decode cL_law 649 = .ok (.goto 1052, 3) := by decide +kernel
theorem dL_law_652 : decode cL_law 652 = .ok (.aload_n 1, 1) := by decide +kernel
theorem dL_law_653 : decode cL_law 653 = .ok (.aload_n 0, 1) := by decide +kernel
theorem dL_law_654 : decode cL_law 654 = .ok (.iload 4, 2) := by decide +kernel
theorem dL_law_656 : decode cL_law 656 = .ok (.iconst 1, 1) := by decide +kernel
theorem dL_law_657 : decode cL_law 657 = .ok (.iadd, 1) := by decide +kernel
theorem dL_law_658 : decode cL_law 658 = .ok (.iaload, 1) := by decide +kernel
theorem dL_law_659 : decode cL_law 659 = .ok (.aload_n 0, 1) := by decide +kernel
theorem dL_law_660 : decode cL_law 660 = .ok (.iload 4, 2) := by decide +kernel
theorem dL_law_662 : decode cL_law 662 = .ok (.iconst 2, 1) := by decide +kernel
theorem dL_law_663 : decode cL_law 663 = .ok (.iadd, 1) := by decide +kernel
theorem dL_law_664 : decode cL_law 664 = .ok (.iaload, 1) := by decide +kernel
theorem dL_law_665 : decode cL_law 665 = .ok (.aload_n 3, 1) := by decide +kernel
theorem dL_law_666 : decode cL_law 666 = .ok (.invokestatic 119, 3) := by decide +kernel
theorem dL_law_669 : decode cL_law 669 = .ok (.istore 5, 2) := by decide +kernel
theorem dL_law_671 : decode cL_law 671 = .ok (.aload_n 2, 1) := by decide +kernel
theorem dL_law_672 : decode cL_law 672 = .ok (.aload_n 0, 1) := by decide +kernel
theorem dL_law_673 : decode cL_law 673 = .ok (.iload 4, 2) := by decide +kernel
theorem dL_law_675 : decode cL_law 675 = .ok (.iconst 1, 1) := by decide +kernel
theorem dL_law_676 : decode cL_law 676 = .ok (.iadd, 1) := by decide +kernel
theorem dL_law_677 : decode cL_law 677 = .ok (.iaload, 1) := by decide +kernel
theorem dL_law_678 : decode cL_law 678 = .ok (.aload_n 0, 1) := by decide +kernel
theorem dL_law_679 : decode cL_law 679 = .ok (.iload 4, 2) := by decide +kernel
theorem dL_law_681 : decode cL_law 681 = .ok (.iconst 2, 1) := by decide +kernel
theorem dL_law_682 : decode cL_law 682 = .ok (.iadd, 1) := by decide +kernel
theorem dL_law_683 : decode cL_law 683 = .ok (.iaload, 1) := by decide +kernel
theorem dL_law_684 : decode cL_law 684 = .ok (.invokevirtual 121, 3) := by decide +kernel
theorem dL_law_687 : decode cL_law 687 = .ok (.istore 6, 2) := by decide +kernel
theorem dL_law_689 : decode cL_law 689 = .ok (.aload_n 2, 1) := by decide +kernel
theorem dL_law_690 : decode cL_law 690 = .ok (.invokevirtual 97, 3) := by decide +kernel
theorem dL_law_693 : decode cL_law 693 = .ok (.iload 5, 2) := by decide +kernel
theorem dL_law_695 : decode cL_law 695 = .ok (.if_icmp .eq 5, 3) := by decide +kernel
theorem dL_law_698 : decode cL_law 698 = .ok (.iconst 0, 1) := by decide +kernel
theorem dL_law_699 : decode cL_law 699 = .ok (.ireturn, 1) := by decide +kernel
theorem dL_law_700 : decode cL_law 700 = .ok (.iload 5, 2) := by decide +kernel
theorem dL_law_702 : decode cL_law 702 = .ok (.ifCond .ne 15, 3) := by decide +kernel
theorem dL_law_705 : decode cL_law 705 = .ok (.aload_n 3, 1) := by decide +kernel
theorem dL_law_706 : decode cL_law 706 = .ok (.iconst 0, 1) := by decide +kernel
theorem dL_law_707 : decode cL_law 707 = .ok (.laload, 1) := by decide +kernel
theorem dL_law_708 : decode cL_law 708 = .ok (.iload 6, 2) := by decide +kernel
theorem dL_law_710 : decode cL_law 710 = .ok (.i2l, 1) := by decide +kernel
theorem dL_law_711 : decode cL_law 711 = .ok (.lcmp, 1) := by decide +kernel
theorem dL_law_712 : decode cL_law 712 = .ok (.ifCond .eq 5, 3) := by decide +kernel
theorem dL_law_715 : decode cL_law 715 = .ok (.iconst 0, 1) := by decide +kernel
theorem dL_law_716 : decode cL_law 716 = .ok (.ireturn, 1) := by decide +kernel
theorem dL_law_717 : decode cL_law 717 = .ok (.goto 984, 3) := by decide +kernel
theorem dL_law_720 : decode cL_law 720 = .ok (.aload_n 1, 1) := by decide +kernel
theorem dL_law_721 : decode cL_law 721 = .ok (.aload_n 0, 1) := by decide +kernel
theorem dL_law_722 : decode cL_law 722 = .ok (.iload 4, 2) := by decide +kernel
theorem dL_law_724 : decode cL_law 724 = .ok (.iconst 1, 1) := by decide +kernel
theorem dL_law_725 : decode cL_law 725 = .ok (.iadd, 1) := by decide +kernel
theorem dL_law_726 : decode cL_law 726 = .ok (.iaload, 1) := by decide +kernel
theorem dL_law_727 : decode cL_law 727 = .ok (.aload_n 3, 1) := by decide +kernel
theorem dL_law_728 : decode cL_law 728 = .ok (.invokestatic 122, 3) := by decide +kernel
theorem dL_law_731 : decode cL_law 731 = .ok (.istore 5, 2) := by decide +kernel
theorem dL_law_733 : decode cL_law 733 = .ok (.aload_n 2, 1) := by decide +kernel
theorem dL_law_734 : decode cL_law 734 = .ok (.aload_n 0, 1) := by decide +kernel
theorem dL_law_735 : decode cL_law 735 = .ok (.iload 4, 2) := by decide +kernel
theorem dL_law_737 : decode cL_law 737 = .ok (.iconst 1, 1) := by decide +kernel
theorem dL_law_738 : decode cL_law 738 = .ok (.iadd, 1) := by decide +kernel
theorem dL_law_739 : decode cL_law 739 = .ok (.iaload, 1) := by decide +kernel
theorem dL_law_740 : decode cL_law 740 = .ok (.invokevirtual 124, 3) := by decide +kernel
theorem dL_law_743 : decode cL_law 743 = .ok (.istore 6, 2) := by decide +kernel
theorem dL_law_745 : decode cL_law 745 = .ok (.aload_n 2, 1) := by decide +kernel
theorem dL_law_746 : decode cL_law 746 = .ok (.invokevirtual 97, 3) := by decide +kernel
theorem dL_law_749 : decode cL_law 749 = .ok (.iload 5, 2) := by decide +kernel
theorem dL_law_751 : decode cL_law 751 = .ok (.if_icmp .eq 5, 3) := by decide +kernel
theorem dL_law_754 : decode cL_law 754 = .ok (.iconst 0, 1) := by decide +kernel
theorem dL_law_755 : decode cL_law 755 = .ok (.ireturn, 1) := by decide +kernel
theorem dL_law_756 : decode cL_law 756 = .ok (.iload 5, 2) := by decide +kernel
theorem dL_law_758 : decode cL_law 758 = .ok (.ifCond .ne 15, 3) := by decide +kernel
theorem dL_law_761 : decode cL_law 761 = .ok (.aload_n 3, 1) := by decide +kernel
theorem dL_law_762 : decode cL_law 762 = .ok (.iconst 0, 1) := by decide +kernel
theorem dL_law_763 : decode cL_law 763 = .ok (.laload, 1) := by decide +kernel
theorem dL_law_764 : decode cL_law 764 = .ok (.iload 6, 2) := by decide +kernel
theorem dL_law_766 : decode cL_law 766 = .ok (.i2l, 1) := by decide +kernel
theorem dL_law_767 : decode cL_law 767 = .ok (.lcmp, 1) := by decide +kernel
theorem dL_law_768 : decode cL_law 768 = .ok (.ifCond .eq 5, 3) := by decide +kernel
theorem dL_law_771 : decode cL_law 771 = .ok (.iconst 0, 1) := by decide +kernel
theorem dL_law_772 : decode cL_law 772 = .ok (.ireturn, 1) := by decide +kernel
theorem dL_law_773 : decode cL_law 773 = .ok (.goto 928, 3) := by decide +kernel
theorem dL_law_776 : decode cL_law 776 = .ok (.aload_n 1, 1) := by decide +kernel
theorem dL_law_777 : decode cL_law 777 = .ok (.aload_n 0, 1) := by decide +kernel
theorem dL_law_778 : decode cL_law 778 = .ok (.iload 4, 2) := by decide +kernel
theorem dL_law_780 : decode cL_law 780 = .ok (.iconst 1, 1) := by decide +kernel
theorem dL_law_781 : decode cL_law 781 = .ok (.iadd, 1) := by decide +kernel
theorem dL_law_782 : decode cL_law 782 = .ok (.iaload, 1) := by decide +kernel
theorem dL_law_783 : decode cL_law 783 = .ok (.aload_n 3, 1) := by decide +kernel
theorem dL_law_784 : decode cL_law 784 = .ok (.invokestatic 125, 3) := by decide +kernel
theorem dL_law_787 : decode cL_law 787 = .ok (.istore 5, 2) := by decide +kernel
theorem dL_law_789 : decode cL_law 789 = .ok (.aload_n 2, 1) := by decide +kernel
theorem dL_law_790 : decode cL_law 790 = .ok (.aload_n 0, 1) := by decide +kernel
theorem dL_law_791 : decode cL_law 791 = .ok (.iload 4, 2) := by decide +kernel
theorem dL_law_793 : decode cL_law 793 = .ok (.iconst 1, 1) := by decide +kernel
theorem dL_law_794 : decode cL_law 794 = .ok (.iadd, 1) := by decide +kernel
theorem dL_law_795 : decode cL_law 795 = .ok (.iaload, 1) := by decide +kernel
theorem dL_law_796 : decode cL_law 796 = .ok (.invokevirtual 127, 3) := by decide +kernel
theorem dL_law_799 : decode cL_law 799 = .ok (.istore 6, 2) := by decide +kernel
theorem dL_law_801 : decode cL_law 801 = .ok (.aload_n 2, 1) := by decide +kernel
theorem dL_law_802 : decode cL_law 802 = .ok (.invokevirtual 97, 3) := by decide +kernel
theorem dL_law_805 : decode cL_law 805 = .ok (.iload 5, 2) := by decide +kernel
theorem dL_law_807 : decode cL_law 807 = .ok (.if_icmp .eq 5, 3) := by decide +kernel
theorem dL_law_810 : decode cL_law 810 = .ok (.iconst 0, 1) := by decide +kernel
theorem dL_law_811 : decode cL_law 811 = .ok (.ireturn, 1) := by decide +kernel
theorem dL_law_812 : decode cL_law 812 = .ok (.iload 5, 2) := by decide +kernel
theorem dL_law_814 : decode cL_law 814 = .ok (.ifCond .ne 15, 3) := by decide +kernel
theorem dL_law_817 : decode cL_law 817 = .ok (.aload_n 3, 1) := by decide +kernel
theorem dL_law_818 : decode cL_law 818 = .ok (.iconst 0, 1) := by decide +kernel
theorem dL_law_819 : decode cL_law 819 = .ok (.laload, 1) := by decide +kernel
theorem dL_law_820 : decode cL_law 820 = .ok (.iload 6, 2) := by decide +kernel
theorem dL_law_822 : decode cL_law 822 = .ok (.i2l, 1) := by decide +kernel
theorem dL_law_823 : decode cL_law 823 = .ok (.lcmp, 1) := by decide +kernel
theorem dL_law_824 : decode cL_law 824 = .ok (.ifCond .eq 5, 3) := by decide +kernel
theorem dL_law_827 : decode cL_law 827 = .ok (.iconst 0, 1) := by decide +kernel
theorem dL_law_828 : decode cL_law 828 = .ok (.ireturn, 1) := by decide +kernel
theorem dL_law_829 : decode cL_law 829 = .ok (.goto 872, 3) := by decide +kernel
theorem dL_law_832 : decode cL_law 832 = .ok (.aload_n 1, 1) := by decide +kernel
theorem dL_law_833 : decode cL_law 833 = .ok (.invokevirtual 128, 3) := by decide +kernel
theorem dL_law_836 : decode cL_law 836 = .ok (.aload_n 2, 1) := by decide +kernel
theorem dL_law_837 : decode cL_law 837 = .ok (.invokevirtual 131, 3) := by decide +kernel
theorem dL_law_840 : decode cL_law 840 = .ok (.if_icmp .eq 861, 3) := by decide +kernel
theorem dL_law_843 : decode cL_law 843 = .ok (.iconst 0, 1) := by decide +kernel
theorem dL_law_844 : decode cL_law 844 = .ok (.ireturn, 1) := by decide +kernel
theorem dL_law_845 : decode cL_law 845 = .ok (.aload_n 1, 1) := by decide +kernel
theorem dL_law_846 : decode cL_law 846 = .ok (.invokevirtual 132, 3) := by decide +kernel
theorem dL_law_849 : decode cL_law 849 = .ok (.aload_n 2, 1) := by decide +kernel
theorem dL_law_850 : decode cL_law 850 = .ok (.invokevirtual 135, 3) := by decide +kernel
theorem dL_law_853 : decode cL_law 853 = .ok (.if_icmp .eq 848, 3) := by decide +kernel
theorem dL_law_856 : decode cL_law 856 = .ok (.iconst 0, 1) := by decide +kernel
theorem dL_law_857 : decode cL_law 857 = .ok (.ireturn, 1) := by decide +kernel
theorem dL_law_858 : decode cL_law 858 = .ok (.aload_n 1, 1) := by decide +kernel
theorem dL_law_859 : decode cL_law 859 = .ok (.aload_n 3, 1) := by decide +kernel
theorem dL_law_860 : decode cL_law 860 = .ok (.invokestatic 136, 3) := by decide +kernel
theorem dL_law_863 : decode cL_law 863 = .ok (.istore 5, 2) := by decide +kernel
theorem dL_law_865 : decode cL_law 865 = .ok (.aload_n 2, 1) := by decide +kernel
theorem dL_law_866 : decode cL_law 866 = .ok (.invokevirtual 139, 3) := by decide +kernel
theorem dL_law_869 : decode cL_law 869 = .ok (.istore 6, 2) := by decide +kernel
theorem dL_law_871 : decode cL_law 871 = .ok (.aload_n 2, 1) := by decide +kernel
theorem dL_law_872 : decode cL_law 872 = .ok (.invokevirtual 97, 3) := by decide +kernel
theorem dL_law_875 : decode cL_law 875 = .ok (.iload 5, 2) := by decide +kernel
theorem dL_law_877 : decode cL_law 877 = .ok (.if_icmp .eq 5, 3) := by decide +kernel
theorem dL_law_880 : decode cL_law 880 = .ok (.iconst 0, 1) := by decide +kernel
theorem dL_law_881 : decode cL_law 881 = .ok (.ireturn, 1) := by decide +kernel
theorem dL_law_882 : decode cL_law 882 = .ok (.iload 5, 2) := by decide +kernel
theorem dL_law_884 : decode cL_law 884 = .ok (.ifCond .ne 15, 3) := by decide +kernel
theorem dL_law_887 : decode cL_law 887 = .ok (.aload_n 3, 1) := by decide +kernel
theorem dL_law_888 : decode cL_law 888 = .ok (.iconst 0, 1) := by decide +kernel
theorem dL_law_889 : decode cL_law 889 = .ok (.laload, 1) := by decide +kernel
theorem dL_law_890 : decode cL_law 890 = .ok (.iload 6, 2) := by decide +kernel
theorem dL_law_892 : decode cL_law 892 = .ok (.i2l, 1) := by decide +kernel
theorem dL_law_893 : decode cL_law 893 = .ok (.lcmp, 1) := by decide +kernel
theorem dL_law_894 : decode cL_law 894 = .ok (.ifCond .eq 5, 3) := by decide +kernel
theorem dL_law_897 : decode cL_law 897 = .ok (.iconst 0, 1) := by decide +kernel
theorem dL_law_898 : decode cL_law 898 = .ok (.ireturn, 1) := by decide +kernel
theorem dL_law_899 : decode cL_law 899 = .ok (.goto 802, 3) := by decide +kernel
theorem dL_law_902 : decode cL_law 902 = .ok (.aload_n 1, 1) := by decide +kernel
theorem dL_law_903 : decode cL_law 903 = .ok (.aload_n 3, 1) := by decide +kernel
theorem dL_law_904 : decode cL_law 904 = .ok (.invokestatic 140, 3) := by decide +kernel
theorem dL_law_907 : decode cL_law 907 = .ok (.istore 5, 2) := by decide +kernel
theorem dL_law_909 : decode cL_law 909 = .ok (.aload_n 2, 1) := by decide +kernel
theorem dL_law_910 : decode cL_law 910 = .ok (.invokevirtual 142, 3) := by decide +kernel
theorem dL_law_913 : decode cL_law 913 = .ok (.istore 6, 2) := by decide +kernel
theorem dL_law_915 : decode cL_law 915 = .ok (.aload_n 2, 1) := by decide +kernel
theorem dL_law_916 : decode cL_law 916 = .ok (.invokevirtual 97, 3) := by decide +kernel
theorem dL_law_919 : decode cL_law 919 = .ok (.iload 5, 2) := by decide +kernel
theorem dL_law_921 : decode cL_law 921 = .ok (.if_icmp .eq 5, 3) := by decide +kernel
theorem dL_law_924 : decode cL_law 924 = .ok (.iconst 0, 1) := by decide +kernel
theorem dL_law_925 : decode cL_law 925 = .ok (.ireturn, 1) := by decide +kernel
theorem dL_law_926 : decode cL_law 926 = .ok (.iload 5, 2) := by decide +kernel
theorem dL_law_928 : decode cL_law 928 = .ok (.ifCond .ne 15, 3) := by decide +kernel
theorem dL_law_931 : decode cL_law 931 = .ok (.aload_n 3, 1) := by decide +kernel
theorem dL_law_932 : decode cL_law 932 = .ok (.iconst 0, 1) := by decide +kernel
theorem dL_law_933 : decode cL_law 933 = .ok (.laload, 1) := by decide +kernel
theorem dL_law_934 : decode cL_law 934 = .ok (.iload 6, 2) := by decide +kernel
theorem dL_law_936 : decode cL_law 936 = .ok (.i2l, 1) := by decide +kernel
theorem dL_law_937 : decode cL_law 937 = .ok (.lcmp, 1) := by decide +kernel
theorem dL_law_938 : decode cL_law 938 = .ok (.ifCond .eq 5, 3) := by decide +kernel
theorem dL_law_941 : decode cL_law 941 = .ok (.iconst 0, 1) := by decide +kernel
theorem dL_law_942 : decode cL_law 942 = .ok (.ireturn, 1) := by decide +kernel
theorem dL_law_943 : decode cL_law 943 = .ok (.goto 758, 3) := by decide +kernel
theorem dL_law_946 : decode cL_law 946 = .ok (.aload_n 1, 1) := by decide +kernel
theorem dL_law_947 : decode cL_law 947 = .ok (.aload_n 0, 1) := by decide +kernel
theorem dL_law_948 : decode cL_law 948 = .ok (.iload 4, 2) := by decide +kernel
theorem dL_law_950 : decode cL_law 950 = .ok (.iconst 1, 1) := by decide +kernel
theorem dL_law_951 : decode cL_law 951 = .ok (.iadd, 1) := by decide +kernel
theorem dL_law_952 : decode cL_law 952 = .ok (.iaload, 1) := by decide +kernel
theorem dL_law_953 : decode cL_law 953 = .ok (.aload_n 0, 1) := by decide +kernel
theorem dL_law_954 : decode cL_law 954 = .ok (.iload 4, 2) := by decide +kernel
theorem dL_law_956 : decode cL_law 956 = .ok (.iconst 2, 1) := by decide +kernel
theorem dL_law_957 : decode cL_law 957 = .ok (.iadd, 1) := by decide +kernel
theorem dL_law_958 : decode cL_law 958 = .ok (.iaload, 1) := by decide +kernel
theorem dL_law_959 : decode cL_law 959 = .ok (.aload_n 3, 1) := by decide +kernel
theorem dL_law_960 : decode cL_law 960 = .ok (.invokestatic 143, 3) := by decide +kernel
theorem dL_law_963 : decode cL_law 963 = .ok (.istore 5, 2) := by decide +kernel
theorem dL_law_965 : decode cL_law 965 = .ok (.aload_n 2, 1) := by decide +kernel
theorem dL_law_966 : decode cL_law 966 = .ok (.aload_n 0, 1) := by decide +kernel
theorem dL_law_967 : decode cL_law 967 = .ok (.iload 4, 2) := by decide +kernel
theorem dL_law_969 : decode cL_law 969 = .ok (.iconst 1, 1) := by decide +kernel
theorem dL_law_970 : decode cL_law 970 = .ok (.iadd, 1) := by decide +kernel
theorem dL_law_971 : decode cL_law 971 = .ok (.iaload, 1) := by decide +kernel
theorem dL_law_972 : decode cL_law 972 = .ok (.aload_n 0, 1) := by decide +kernel
theorem dL_law_973 : decode cL_law 973 = .ok (.iload 4, 2) := by decide +kernel
theorem dL_law_975 : decode cL_law 975 = .ok (.iconst 2, 1) := by decide +kernel
theorem dL_law_976 : decode cL_law 976 = .ok (.iadd, 1) := by decide +kernel
theorem dL_law_977 : decode cL_law 977 = .ok (.iaload, 1) := by decide +kernel
theorem dL_law_978 : decode cL_law 978 = .ok (.invokevirtual 145, 3) := by decide +kernel
theorem dL_law_981 : decode cL_law 981 = .ok (.istore 6, 2) := by decide +kernel
theorem dL_law_983 : decode cL_law 983 = .ok (.aload_n 2, 1) := by decide +kernel
theorem dL_law_984 : decode cL_law 984 = .ok (.invokevirtual 97, 3) := by decide +kernel
theorem dL_law_987 : decode cL_law 987 = .ok (.iload 5, 2) := by decide +kernel
theorem dL_law_989 : decode cL_law 989 = .ok (.if_icmp .eq 5, 3) := by decide +kernel
theorem dL_law_992 : decode cL_law 992 = .ok (.iconst 0, 1) := by decide +kernel
theorem dL_law_993 : decode cL_law 993 = .ok (.ireturn, 1) := by decide +kernel
theorem dL_law_994 : decode cL_law 994 = .ok (.iload 5, 2) := by decide +kernel
theorem dL_law_996 : decode cL_law 996 = .ok (.ifCond .ne 15, 3) := by decide +kernel
theorem dL_law_999 : decode cL_law 999 = .ok (.aload_n 3, 1) := by decide +kernel
theorem dL_law_1000 : decode cL_law 1000 = .ok (.iconst 0, 1) := by decide +kernel
theorem dL_law_1001 : decode cL_law 1001 = .ok (.laload, 1) := by decide +kernel
theorem dL_law_1002 : decode cL_law 1002 = .ok (.iload 6, 2) := by decide +kernel
theorem dL_law_1004 : decode cL_law 1004 = .ok (.i2l, 1) := by decide +kernel
theorem dL_law_1005 : decode cL_law 1005 = .ok (.lcmp, 1) := by decide +kernel
theorem dL_law_1006 : decode cL_law 1006 = .ok (.ifCond .eq 5, 3) := by decide +kernel
theorem dL_law_1009 : decode cL_law 1009 = .ok (.iconst 0, 1) := by decide +kernel
theorem dL_law_1010 : decode cL_law 1010 = .ok (.ireturn, 1) := by decide +kernel
theorem dL_law_1011 : decode cL_law 1011 = .ok (.goto 690, 3) := by decide +kernel
theorem dL_law_1014 : decode cL_law 1014 = .ok (.aload_n 1, 1) := by decide +kernel
theorem dL_law_1015 : decode cL_law 1015 = .ok (.aload_n 0, 1) := by decide +kernel
theorem dL_law_1016 : decode cL_law 1016 = .ok (.iload 4, 2) := by decide +kernel
theorem dL_law_1018 : decode cL_law 1018 = .ok (.iconst 1, 1) := by decide +kernel
theorem dL_law_1019 : decode cL_law 1019 = .ok (.iadd, 1) := by decide +kernel
theorem dL_law_1020 : decode cL_law 1020 = .ok (.iaload, 1) := by decide +kernel
theorem dL_law_1021 : decode cL_law 1021 = .ok (.aload_n 0, 1) := by decide +kernel
theorem dL_law_1022 : decode cL_law 1022 = .ok (.iload 4, 2) := by decide +kernel
theorem dL_law_1024 : decode cL_law 1024 = .ok (.iconst 2, 1) := by decide +kernel
theorem dL_law_1025 : decode cL_law 1025 = .ok (.iadd, 1) := by decide +kernel
theorem dL_law_1026 : decode cL_law 1026 = .ok (.iaload, 1) := by decide +kernel
theorem dL_law_1027 : decode cL_law 1027 = .ok (.aload_n 3, 1) := by decide +kernel
theorem dL_law_1028 : decode cL_law 1028 = .ok (.invokestatic 146, 3) := by decide +kernel
theorem dL_law_1031 : decode cL_law 1031 = .ok (.istore 5, 2) := by decide +kernel
theorem dL_law_1033 : decode cL_law 1033 = .ok (.aload_n 2, 1) := by decide +kernel
theorem dL_law_1034 : decode cL_law 1034 = .ok (.aload_n 0, 1) := by decide +kernel
theorem dL_law_1035 : decode cL_law 1035 = .ok (.iload 4, 2) := by decide +kernel
theorem dL_law_1037 : decode cL_law 1037 = .ok (.iconst 1, 1) := by decide +kernel
theorem dL_law_1038 : decode cL_law 1038 = .ok (.iadd, 1) := by decide +kernel
theorem dL_law_1039 : decode cL_law 1039 = .ok (.iaload, 1) := by decide +kernel
theorem dL_law_1040 : decode cL_law 1040 = .ok (.aload_n 0, 1) := by decide +kernel
theorem dL_law_1041 : decode cL_law 1041 = .ok (.iload 4, 2) := by decide +kernel
theorem dL_law_1043 : decode cL_law 1043 = .ok (.iconst 2, 1) := by decide +kernel
theorem dL_law_1044 : decode cL_law 1044 = .ok (.iadd, 1) := by decide +kernel
theorem dL_law_1045 : decode cL_law 1045 = .ok (.iaload, 1) := by decide +kernel
theorem dL_law_1046 : decode cL_law 1046 = .ok (.invokevirtual 148, 3) := by decide +kernel
theorem dL_law_1049 : decode cL_law 1049 = .ok (.istore 6, 2) := by decide +kernel
theorem dL_law_1051 : decode cL_law 1051 = .ok (.aload_n 2, 1) := by decide +kernel
theorem dL_law_1052 : decode cL_law 1052 = .ok (.invokevirtual 97, 3) := by decide +kernel
theorem dL_law_1055 : decode cL_law 1055 = .ok (.iload 5, 2) := by decide +kernel
theorem dL_law_1057 : decode cL_law 1057 = .ok (.if_icmp .eq 5, 3) := by decide +kernel
theorem dL_law_1060 : decode cL_law 1060 = .ok (.iconst 0, 1) := by decide +kernel
theorem dL_law_1061 : decode cL_law 1061 = .ok (.ireturn, 1) := by decide +kernel
theorem dL_law_1062 : decode cL_law 1062 = .ok (.iload 5, 2) := by decide +kernel
theorem dL_law_1064 : decode cL_law 1064 = .ok (.ifCond .ne 15, 3) := by decide +kernel
theorem dL_law_1067 : decode cL_law 1067 = .ok (.aload_n 3, 1) := by decide +kernel
theorem dL_law_1068 : decode cL_law 1068 = .ok (.iconst 0, 1) := by decide +kernel
theorem dL_law_1069 : decode cL_law 1069 = .ok (.laload, 1) := by decide +kernel
theorem dL_law_1070 : decode cL_law 1070 = .ok (.iload 6, 2) := by decide +kernel
theorem dL_law_1072 : decode cL_law 1072 = .ok (.i2l, 1) := by decide +kernel
theorem dL_law_1073 : decode cL_law 1073 = .ok (.lcmp, 1) := by decide +kernel
theorem dL_law_1074 : decode cL_law 1074 = .ok (.ifCond .eq 5, 3) := by decide +kernel
theorem dL_law_1077 : decode cL_law 1077 = .ok (.iconst 0, 1) := by decide +kernel
theorem dL_law_1078 : decode cL_law 1078 = .ok (.ireturn, 1) := by decide +kernel
theorem dL_law_1079 : decode cL_law 1079 = .ok (.goto 622, 3) := by decide +kernel
theorem dL_law_1082 : decode cL_law 1082 = .ok (.aload_n 1, 1) := by decide +kernel
theorem dL_law_1083 : decode cL_law 1083 = .ok (.aload_n 0, 1) := by decide +kernel
theorem dL_law_1084 : decode cL_law 1084 = .ok (.iload 4, 2) := by decide +kernel
theorem dL_law_1086 : decode cL_law 1086 = .ok (.iconst 1, 1) := by decide +kernel
theorem dL_law_1087 : decode cL_law 1087 = .ok (.iadd, 1) := by decide +kernel
theorem dL_law_1088 : decode cL_law 1088 = .ok (.iaload, 1) := by decide +kernel
theorem dL_law_1089 : decode cL_law 1089 = .ok (.aload_n 0, 1) := by decide +kernel
theorem dL_law_1090 : decode cL_law 1090 = .ok (.iload 4, 2) := by decide +kernel
theorem dL_law_1092 : decode cL_law 1092 = .ok (.iconst 2, 1) := by decide +kernel
theorem dL_law_1093 : decode cL_law 1093 = .ok (.iadd, 1) := by decide +kernel
theorem dL_law_1094 : decode cL_law 1094 = .ok (.iaload, 1) := by decide +kernel
theorem dL_law_1095 : decode cL_law 1095 = .ok (.aload_n 3, 1) := by decide +kernel
theorem dL_law_1096 : decode cL_law 1096 = .ok (.invokestatic 149, 3) := by decide +kernel
theorem dL_law_1099 : decode cL_law 1099 = .ok (.istore 5, 2) := by decide +kernel
theorem dL_law_1101 : decode cL_law 1101 = .ok (.aload_n 2, 1) := by decide +kernel
theorem dL_law_1102 : decode cL_law 1102 = .ok (.aload_n 0, 1) := by decide +kernel
theorem dL_law_1103 : decode cL_law 1103 = .ok (.iload 4, 2) := by decide +kernel
theorem dL_law_1105 : decode cL_law 1105 = .ok (.iconst 1, 1) := by decide +kernel
theorem dL_law_1106 : decode cL_law 1106 = .ok (.iadd, 1) := by decide +kernel
theorem dL_law_1107 : decode cL_law 1107 = .ok (.iaload, 1) := by decide +kernel
theorem dL_law_1108 : decode cL_law 1108 = .ok (.aload_n 0, 1) := by decide +kernel
theorem dL_law_1109 : decode cL_law 1109 = .ok (.iload 4, 2) := by decide +kernel
theorem dL_law_1111 : decode cL_law 1111 = .ok (.iconst 2, 1) := by decide +kernel
theorem dL_law_1112 : decode cL_law 1112 = .ok (.iadd, 1) := by decide +kernel
theorem dL_law_1113 : decode cL_law 1113 = .ok (.iaload, 1) := by decide +kernel
theorem dL_law_1114 : decode cL_law 1114 = .ok (.invokevirtual 151, 3) := by decide +kernel
theorem dL_law_1117 : decode cL_law 1117 = .ok (.istore 6, 2) := by decide +kernel
theorem dL_law_1119 : decode cL_law 1119 = .ok (.aload_n 2, 1) := by decide +kernel
theorem dL_law_1120 : decode cL_law 1120 = .ok (.invokevirtual 97, 3) := by decide +kernel
theorem dL_law_1123 : decode cL_law 1123 = .ok (.iload 5, 2) := by decide +kernel
theorem dL_law_1125 : decode cL_law 1125 = .ok (.if_icmp .eq 5, 3) := by decide +kernel
theorem dL_law_1128 : decode cL_law 1128 = .ok (.iconst 0, 1) := by decide +kernel
theorem dL_law_1129 : decode cL_law 1129 = .ok (.ireturn, 1) := by decide +kernel
theorem dL_law_1130 : decode cL_law 1130 = .ok (.iload 5, 2) := by decide +kernel
theorem dL_law_1132 : decode cL_law 1132 = .ok (.ifCond .ne 15, 3) := by decide +kernel
theorem dL_law_1135 : decode cL_law 1135 = .ok (.aload_n 3, 1) := by decide +kernel
theorem dL_law_1136 : decode cL_law 1136 = .ok (.iconst 0, 1) := by decide +kernel
theorem dL_law_1137 : decode cL_law 1137 = .ok (.laload, 1) := by decide +kernel
theorem dL_law_1138 : decode cL_law 1138 = .ok (.iload 6, 2) := by decide +kernel
theorem dL_law_1140 : decode cL_law 1140 = .ok (.i2l, 1) := by decide +kernel
theorem dL_law_1141 : decode cL_law 1141 = .ok (.lcmp, 1) := by decide +kernel
theorem dL_law_1142 : decode cL_law 1142 = .ok (.ifCond .eq 5, 3) := by decide +kernel
theorem dL_law_1145 : decode cL_law 1145 = .ok (.iconst 0, 1) := by decide +kernel
theorem dL_law_1146 : decode cL_law 1146 = .ok (.ireturn, 1) := by decide +kernel
theorem dL_law_1147 : decode cL_law 1147 = .ok (.goto 554, 3) := by decide +kernel
theorem dL_law_1150 : decode cL_law 1150 = .ok (.aload_n 1, 1) := by decide +kernel
theorem dL_law_1151 : decode cL_law 1151 = .ok (.aload_n 0, 1) := by decide +kernel
theorem dL_law_1152 : decode cL_law 1152 = .ok (.iload 4, 2) := by decide +kernel
theorem dL_law_1154 : decode cL_law 1154 = .ok (.iconst 1, 1) := by decide +kernel
theorem dL_law_1155 : decode cL_law 1155 = .ok (.iadd, 1) := by decide +kernel
theorem dL_law_1156 : decode cL_law 1156 = .ok (.iaload, 1) := by decide +kernel
theorem dL_law_1157 : decode cL_law 1157 = .ok (.aload_n 0, 1) := by decide +kernel
theorem dL_law_1158 : decode cL_law 1158 = .ok (.iload 4, 2) := by decide +kernel
theorem dL_law_1160 : decode cL_law 1160 = .ok (.iconst 2, 1) := by decide +kernel
theorem dL_law_1161 : decode cL_law 1161 = .ok (.iadd, 1) := by decide +kernel
theorem dL_law_1162 : decode cL_law 1162 = .ok (.iaload, 1) := by decide +kernel
theorem dL_law_1163 : decode cL_law 1163 = .ok (.aload_n 3, 1) := by decide +kernel
theorem dL_law_1164 : decode cL_law 1164 = .ok (.invokestatic 152, 3) := by decide +kernel
theorem dL_law_1167 : decode cL_law 1167 = .ok (.istore 5, 2) := by decide +kernel
theorem dL_law_1169 : decode cL_law 1169 = .ok (.aload_n 2, 1) := by decide +kernel
theorem dL_law_1170 : decode cL_law 1170 = .ok (.aload_n 0, 1) := by decide +kernel
theorem dL_law_1171 : decode cL_law 1171 = .ok (.iload 4, 2) := by decide +kernel
theorem dL_law_1173 : decode cL_law 1173 = .ok (.iconst 1, 1) := by decide +kernel
theorem dL_law_1174 : decode cL_law 1174 = .ok (.iadd, 1) := by decide +kernel
theorem dL_law_1175 : decode cL_law 1175 = .ok (.iaload, 1) := by decide +kernel
theorem dL_law_1176 : decode cL_law 1176 = .ok (.aload_n 0, 1) := by decide +kernel
theorem dL_law_1177 : decode cL_law 1177 = .ok (.iload 4, 2) := by decide +kernel
theorem dL_law_1179 : decode cL_law 1179 = .ok (.iconst 2, 1) := by decide +kernel
theorem dL_law_1180 : decode cL_law 1180 = .ok (.iadd, 1) := by decide +kernel
theorem dL_law_1181 : decode cL_law 1181 = .ok (.iaload, 1) := by decide +kernel
theorem dL_law_1182 : decode cL_law 1182 = .ok (.invokevirtual 154, 3) := by decide +kernel
theorem dL_law_1185 : decode cL_law 1185 = .ok (.istore 6, 2) := by decide +kernel
theorem dL_law_1187 : decode cL_law 1187 = .ok (.aload_n 2, 1) := by decide +kernel
theorem dL_law_1188 : decode cL_law 1188 = .ok (.invokevirtual 97, 3) := by decide +kernel
theorem dL_law_1191 : decode cL_law 1191 = .ok (.iload 5, 2) := by decide +kernel
theorem dL_law_1193 : decode cL_law 1193 = .ok (.if_icmp .eq 5, 3) := by decide +kernel
theorem dL_law_1196 : decode cL_law 1196 = .ok (.iconst 0, 1) := by decide +kernel
theorem dL_law_1197 : decode cL_law 1197 = .ok (.ireturn, 1) := by decide +kernel
theorem dL_law_1198 : decode cL_law 1198 = .ok (.iload 5, 2) := by decide +kernel
theorem dL_law_1200 : decode cL_law 1200 = .ok (.ifCond .ne 15, 3) := by decide +kernel
theorem dL_law_1203 : decode cL_law 1203 = .ok (.aload_n 3, 1) := by decide +kernel
theorem dL_law_1204 : decode cL_law 1204 = .ok (.iconst 0, 1) := by decide +kernel
theorem dL_law_1205 : decode cL_law 1205 = .ok (.laload, 1) := by decide +kernel
theorem dL_law_1206 : decode cL_law 1206 = .ok (.iload 6, 2) := by decide +kernel
theorem dL_law_1208 : decode cL_law 1208 = .ok (.i2l, 1) := by decide +kernel
theorem dL_law_1209 : decode cL_law 1209 = .ok (.lcmp, 1) := by decide +kernel
theorem dL_law_1210 : decode cL_law 1210 = .ok (.ifCond .eq 5, 3) := by decide +kernel
theorem dL_law_1213 : decode cL_law 1213 = .ok (.iconst 0, 1) := by decide +kernel
theorem dL_law_1214 : decode cL_law 1214 = .ok (.ireturn, 1) := by decide +kernel
theorem dL_law_1215 : decode cL_law 1215 = .ok (.goto 486, 3) := by decide +kernel
theorem dL_law_1218 : decode cL_law 1218 = .ok (.aload_n 1, 1) := by decide +kernel
theorem dL_law_1219 : decode cL_law 1219 = .ok (.aload_n 0, 1) := by decide +kernel
theorem dL_law_1220 : decode cL_law 1220 = .ok (.iload 4, 2) := by decide +kernel
theorem dL_law_1222 : decode cL_law 1222 = .ok (.iconst 1, 1) := by decide +kernel
theorem dL_law_1223 : decode cL_law 1223 = .ok (.iadd, 1) := by decide +kernel
theorem dL_law_1224 : decode cL_law 1224 = .ok (.iaload, 1) := by decide +kernel
theorem dL_law_1225 : decode cL_law 1225 = .ok (.aload_n 0, 1) := by decide +kernel
theorem dL_law_1226 : decode cL_law 1226 = .ok (.iload 4, 2) := by decide +kernel
theorem dL_law_1228 : decode cL_law 1228 = .ok (.iconst 2, 1) := by decide +kernel
theorem dL_law_1229 : decode cL_law 1229 = .ok (.iadd, 1) := by decide +kernel
theorem dL_law_1230 : decode cL_law 1230 = .ok (.iaload, 1) := by decide +kernel
theorem dL_law_1231 : decode cL_law 1231 = .ok (.aload_n 3, 1) := by decide +kernel
theorem dL_law_1232 : decode cL_law 1232 = .ok (.invokestatic 155, 3) := by decide +kernel
theorem dL_law_1235 : decode cL_law 1235 = .ok (.istore 5, 2) := by decide +kernel
theorem dL_law_1237 : decode cL_law 1237 = .ok (.aload_n 2, 1) := by decide +kernel
theorem dL_law_1238 : decode cL_law 1238 = .ok (.aload_n 0, 1) := by decide +kernel
theorem dL_law_1239 : decode cL_law 1239 = .ok (.iload 4, 2) := by decide +kernel
theorem dL_law_1241 : decode cL_law 1241 = .ok (.iconst 1, 1) := by decide +kernel
theorem dL_law_1242 : decode cL_law 1242 = .ok (.iadd, 1) := by decide +kernel
theorem dL_law_1243 : decode cL_law 1243 = .ok (.iaload, 1) := by decide +kernel
theorem dL_law_1244 : decode cL_law 1244 = .ok (.aload_n 0, 1) := by decide +kernel
theorem dL_law_1245 : decode cL_law 1245 = .ok (.iload 4, 2) := by decide +kernel
theorem dL_law_1247 : decode cL_law 1247 = .ok (.iconst 2, 1) := by decide +kernel
theorem dL_law_1248 : decode cL_law 1248 = .ok (.iadd, 1) := by decide +kernel
theorem dL_law_1249 : decode cL_law 1249 = .ok (.iaload, 1) := by decide +kernel
theorem dL_law_1250 : decode cL_law 1250 = .ok (.invokevirtual 157, 3) := by decide +kernel
theorem dL_law_1253 : decode cL_law 1253 = .ok (.istore 6, 2) := by decide +kernel
theorem dL_law_1255 : decode cL_law 1255 = .ok (.aload_n 2, 1) := by decide +kernel
theorem dL_law_1256 : decode cL_law 1256 = .ok (.invokevirtual 97, 3) := by decide +kernel
theorem dL_law_1259 : decode cL_law 1259 = .ok (.iload 5, 2) := by decide +kernel
theorem dL_law_1261 : decode cL_law 1261 = .ok (.if_icmp .eq 5, 3) := by decide +kernel
theorem dL_law_1264 : decode cL_law 1264 = .ok (.iconst 0, 1) := by decide +kernel
theorem dL_law_1265 : decode cL_law 1265 = .ok (.ireturn, 1) := by decide +kernel
theorem dL_law_1266 : decode cL_law 1266 = .ok (.iload 5, 2) := by decide +kernel
theorem dL_law_1268 : decode cL_law 1268 = .ok (.ifCond .ne 15, 3) := by decide +kernel
theorem dL_law_1271 : decode cL_law 1271 = .ok (.aload_n 3, 1) := by decide +kernel
theorem dL_law_1272 : decode cL_law 1272 = .ok (.iconst 0, 1) := by decide +kernel
theorem dL_law_1273 : decode cL_law 1273 = .ok (.laload, 1) := by decide +kernel
theorem dL_law_1274 : decode cL_law 1274 = .ok (.iload 6, 2) := by decide +kernel
theorem dL_law_1276 : decode cL_law 1276 = .ok (.i2l, 1) := by decide +kernel
theorem dL_law_1277 : decode cL_law 1277 = .ok (.lcmp, 1) := by decide +kernel
theorem dL_law_1278 : decode cL_law 1278 = .ok (.ifCond .eq 5, 3) := by decide +kernel
theorem dL_law_1281 : decode cL_law 1281 = .ok (.iconst 0, 1) := by decide +kernel
theorem dL_law_1282 : decode cL_law 1282 = .ok (.ireturn, 1) := by decide +kernel
theorem dL_law_1283 : decode cL_law 1283 = .ok (.goto 418, 3) := by decide +kernel
theorem dL_law_1286 : decode cL_law 1286 = .ok (.aload_n 1, 1) := by decide +kernel
theorem dL_law_1287 : decode cL_law 1287 = .ok (.aload_n 0, 1) := by decide +kernel
theorem dL_law_1288 : decode cL_law 1288 = .ok (.iload 4, 2) := by decide +kernel
theorem dL_law_1290 : decode cL_law 1290 = .ok (.iconst 1, 1) := by decide +kernel
theorem dL_law_1291 : decode cL_law 1291 = .ok (.iadd, 1) := by decide +kernel
theorem dL_law_1292 : decode cL_law 1292 = .ok (.iaload, 1) := by decide +kernel
theorem dL_law_1293 : decode cL_law 1293 = .ok (.aload_n 3, 1) := by decide +kernel
theorem dL_law_1294 : decode cL_law 1294 = .ok (.invokestatic 158, 3) := by decide +kernel
theorem dL_law_1297 : decode cL_law 1297 = .ok (.istore 5, 2) := by decide +kernel
theorem dL_law_1299 : decode cL_law 1299 = .ok (.aload_n 2, 1) := by decide +kernel
theorem dL_law_1300 : decode cL_law 1300 = .ok (.aload_n 0, 1) := by decide +kernel
theorem dL_law_1301 : decode cL_law 1301 = .ok (.iload 4, 2) := by decide +kernel
theorem dL_law_1303 : decode cL_law 1303 = .ok (.iconst 1, 1) := by decide +kernel
theorem dL_law_1304 : decode cL_law 1304 = .ok (.iadd, 1) := by decide +kernel
theorem dL_law_1305 : decode cL_law 1305 = .ok (.iaload, 1) := by decide +kernel
theorem dL_law_1306 : decode cL_law 1306 = .ok (.invokevirtual 160, 3) := by decide +kernel
theorem dL_law_1309 : decode cL_law 1309 = .ok (.istore 6, 2) := by decide +kernel
theorem dL_law_1311 : decode cL_law 1311 = .ok (.aload_n 2, 1) := by decide +kernel
theorem dL_law_1312 : decode cL_law 1312 = .ok (.invokevirtual 97, 3) := by decide +kernel
theorem dL_law_1315 : decode cL_law 1315 = .ok (.iload 5, 2) := by decide +kernel
theorem dL_law_1317 : decode cL_law 1317 = .ok (.if_icmp .eq 5, 3) := by decide +kernel
theorem dL_law_1320 : decode cL_law 1320 = .ok (.iconst 0, 1) := by decide +kernel
theorem dL_law_1321 : decode cL_law 1321 = .ok (.ireturn, 1) := by decide +kernel
theorem dL_law_1322 : decode cL_law 1322 = .ok (.iload 5, 2) := by decide +kernel
theorem dL_law_1324 : decode cL_law 1324 = .ok (.ifCond .ne 15, 3) := by decide +kernel
theorem dL_law_1327 : decode cL_law 1327 = .ok (.aload_n 3, 1) := by decide +kernel
theorem dL_law_1328 : decode cL_law 1328 = .ok (.iconst 0, 1) := by decide +kernel
theorem dL_law_1329 : decode cL_law 1329 = .ok (.laload, 1) := by decide +kernel
theorem dL_law_1330 : decode cL_law 1330 = .ok (.iload 6, 2) := by decide +kernel
theorem dL_law_1332 : decode cL_law 1332 = .ok (.i2l, 1) := by decide +kernel
theorem dL_law_1333 : decode cL_law 1333 = .ok (.lcmp, 1) := by decide +kernel
theorem dL_law_1334 : decode cL_law 1334 = .ok (.ifCond .eq 5, 3) := by decide +kernel
theorem dL_law_1337 : decode cL_law 1337 = .ok (.iconst 0, 1) := by decide +kernel
theorem dL_law_1338 : decode cL_law 1338 = .ok (.ireturn, 1) := by decide +kernel
theorem dL_law_1339 : decode cL_law 1339 = .ok (.goto 362, 3) := by decide +kernel
theorem dL_law_1342 : decode cL_law 1342 = .ok (.aload_n 1, 1) := by decide +kernel
theorem dL_law_1343 : decode cL_law 1343 = .ok (.aload_n 0, 1) := by decide +kernel
theorem dL_law_1344 : decode cL_law 1344 = .ok (.iload 4, 2) := by decide +kernel
theorem dL_law_1346 : decode cL_law 1346 = .ok (.iconst 1, 1) := by decide +kernel
theorem dL_law_1347 : decode cL_law 1347 = .ok (.iadd, 1) := by decide +kernel
theorem dL_law_1348 : decode cL_law 1348 = .ok (.iaload, 1) := by decide +kernel
theorem dL_law_1349 : decode cL_law 1349 = .ok (.aload_n 3, 1) := by decide +kernel
theorem dL_law_1350 : decode cL_law 1350 = .ok (.invokestatic 161, 3) := by decide +kernel
theorem dL_law_1353 : decode cL_law 1353 = .ok (.istore 5, 2) := by decide +kernel
theorem dL_law_1355 : decode cL_law 1355 = .ok (.aload_n 2, 1) := by decide +kernel
theorem dL_law_1356 : decode cL_law 1356 = .ok (.aload_n 0, 1) := by decide +kernel
theorem dL_law_1357 : decode cL_law 1357 = .ok (.iload 4, 2) := by decide +kernel
theorem dL_law_1359 : decode cL_law 1359 = .ok (.iconst 1, 1) := by decide +kernel
theorem dL_law_1360 : decode cL_law 1360 = .ok (.iadd, 1) := by decide +kernel
theorem dL_law_1361 : decode cL_law 1361 = .ok (.iaload, 1) := by decide +kernel
theorem dL_law_1362 : decode cL_law 1362 = .ok (.invokevirtual 163, 3) := by decide +kernel
theorem dL_law_1365 : decode cL_law 1365 = .ok (.istore 6, 2) := by decide +kernel
theorem dL_law_1367 : decode cL_law 1367 = .ok (.aload_n 2, 1) := by decide +kernel
theorem dL_law_1368 : decode cL_law 1368 = .ok (.invokevirtual 97, 3) := by decide +kernel
theorem dL_law_1371 : decode cL_law 1371 = .ok (.iload 5, 2) := by decide +kernel
theorem dL_law_1373 : decode cL_law 1373 = .ok (.if_icmp .eq 5, 3) := by decide +kernel
theorem dL_law_1376 : decode cL_law 1376 = .ok (.iconst 0, 1) := by decide +kernel
theorem dL_law_1377 : decode cL_law 1377 = .ok (.ireturn, 1) := by decide +kernel
theorem dL_law_1378 : decode cL_law 1378 = .ok (.iload 5, 2) := by decide +kernel
theorem dL_law_1380 : decode cL_law 1380 = .ok (.ifCond .ne 15, 3) := by decide +kernel
theorem dL_law_1383 : decode cL_law 1383 = .ok (.aload_n 3, 1) := by decide +kernel
theorem dL_law_1384 : decode cL_law 1384 = .ok (.iconst 0, 1) := by decide +kernel
theorem dL_law_1385 : decode cL_law 1385 = .ok (.laload, 1) := by decide +kernel
theorem dL_law_1386 : decode cL_law 1386 = .ok (.iload 6, 2) := by decide +kernel
theorem dL_law_1388 : decode cL_law 1388 = .ok (.i2l, 1) := by decide +kernel
theorem dL_law_1389 : decode cL_law 1389 = .ok (.lcmp, 1) := by decide +kernel
theorem dL_law_1390 : decode cL_law 1390 = .ok (.ifCond .eq 5, 3) := by decide +kernel
theorem dL_law_1393 : decode cL_law 1393 = .ok (.iconst 0, 1) := by decide +kernel
theorem dL_law_1394 : decode cL_law 1394 = .ok (.ireturn, 1) := by decide +kernel
theorem dL_law_1395 : decode cL_law 1395 = .ok (.goto 306, 3) := by decide +kernel
theorem dL_law_1398 : decode cL_law 1398 = .ok (.aload_n 1, 1) := by decide +kernel
theorem dL_law_1399 : decode cL_law 1399 = .ok (.aload_n 0, 1) := by decide +kernel
theorem dL_law_1400 : decode cL_law 1400 = .ok (.iload 4, 2) := by decide +kernel
theorem dL_law_1402 : decode cL_law 1402 = .ok (.iconst 1, 1) := by decide +kernel
theorem dL_law_1403 : decode cL_law 1403 = .ok (.iadd, 1) := by decide +kernel
theorem dL_law_1404 : decode cL_law 1404 = .ok (.iaload, 1) := by decide +kernel
theorem dL_law_1405 : decode cL_law 1405 = .ok (.aload_n 0, 1) := by decide +kernel
theorem dL_law_1406 : decode cL_law 1406 = .ok (.iload 4, 2) := by decide +kernel
theorem dL_law_1408 : decode cL_law 1408 = .ok (.iconst 2, 1) := by decide +kernel
theorem dL_law_1409 : decode cL_law 1409 = .ok (.iadd, 1) := by decide +kernel
theorem dL_law_1410 : decode cL_law 1410 = .ok (.iaload, 1) := by decide +kernel
theorem dL_law_1411 : decode cL_law 1411 = .ok (.aload_n 3, 1) := by decide +kernel
theorem dL_law_1412 : decode cL_law 1412 = .ok (.invokestatic 164, 3) := by decide +kernel
theorem dL_law_1415 : decode cL_law 1415 = .ok (.istore 5, 2) := by decide +kernel
theorem dL_law_1417 : decode cL_law 1417 = .ok (.aload_n 2, 1) := by decide +kernel
theorem dL_law_1418 : decode cL_law 1418 = .ok (.aload_n 0, 1) := by decide +kernel
theorem dL_law_1419 : decode cL_law 1419 = .ok (.iload 4, 2) := by decide +kernel
theorem dL_law_1421 : decode cL_law 1421 = .ok (.iconst 1, 1) := by decide +kernel
theorem dL_law_1422 : decode cL_law 1422 = .ok (.iadd, 1) := by decide +kernel
theorem dL_law_1423 : decode cL_law 1423 = .ok (.iaload, 1) := by decide +kernel
theorem dL_law_1424 : decode cL_law 1424 = .ok (.aload_n 0, 1) := by decide +kernel
theorem dL_law_1425 : decode cL_law 1425 = .ok (.iload 4, 2) := by decide +kernel
theorem dL_law_1427 : decode cL_law 1427 = .ok (.iconst 2, 1) := by decide +kernel
theorem dL_law_1428 : decode cL_law 1428 = .ok (.iadd, 1) := by decide +kernel
theorem dL_law_1429 : decode cL_law 1429 = .ok (.iaload, 1) := by decide +kernel
theorem dL_law_1430 : decode cL_law 1430 = .ok (.invokevirtual 166, 3) := by decide +kernel
theorem dL_law_1433 : decode cL_law 1433 = .ok (.istore 6, 2) := by decide +kernel
theorem dL_law_1435 : decode cL_law 1435 = .ok (.aload_n 2, 1) := by decide +kernel
theorem dL_law_1436 : decode cL_law 1436 = .ok (.invokevirtual 97, 3) := by decide +kernel
theorem dL_law_1439 : decode cL_law 1439 = .ok (.iload 5, 2) := by decide +kernel
theorem dL_law_1441 : decode cL_law 1441 = .ok (.if_icmp .eq 5, 3) := by decide +kernel
theorem dL_law_1444 : decode cL_law 1444 = .ok (.iconst 0, 1) := by decide +kernel
theorem dL_law_1445 : decode cL_law 1445 = .ok (.ireturn, 1) := by decide +kernel
theorem dL_law_1446 : decode cL_law 1446 = .ok (.iload 5, 2) := by decide +kernel
theorem dL_law_1448 : decode cL_law 1448 = .ok (.ifCond .ne 15, 3) := by decide +kernel
theorem dL_law_1451 : decode cL_law 1451 = .ok (.aload_n 3, 1) := by decide +kernel
theorem dL_law_1452 : decode cL_law 1452 = .ok (.iconst 0, 1) := by decide +kernel
theorem dL_law_1453 : decode cL_law 1453 = .ok (.laload, 1) := by decide +kernel
theorem dL_law_1454 : decode cL_law 1454 = .ok (.iload 6, 2) := by decide +kernel
theorem dL_law_1456 : decode cL_law 1456 = .ok (.i2l, 1) := by decide +kernel
theorem dL_law_1457 : decode cL_law 1457 = .ok (.lcmp, 1) := by decide +kernel
theorem dL_law_1458 : decode cL_law 1458 = .ok (.ifCond .eq 5, 3) := by decide +kernel
theorem dL_law_1461 : decode cL_law 1461 = .ok (.iconst 0, 1) := by decide +kernel
theorem dL_law_1462 : decode cL_law 1462 = .ok (.ireturn, 1) := by decide +kernel
theorem dL_law_1463 : decode cL_law 1463 = .ok (.goto 238, 3) := by decide +kernel
theorem dL_law_1466 : decode cL_law 1466 = .ok (.aload_n 1, 1) := by decide +kernel
theorem dL_law_1467 : decode cL_law 1467 = .ok (.aload_n 0, 1) := by decide +kernel
theorem dL_law_1468 : decode cL_law 1468 = .ok (.iload 4, 2) := by decide +kernel
theorem dL_law_1470 : decode cL_law 1470 = .ok (.iconst 1, 1) := by decide +kernel
theorem dL_law_1471 : decode cL_law 1471 = .ok (.iadd, 1) := by decide +kernel
theorem dL_law_1472 : decode cL_law 1472 = .ok (.iaload, 1) := by decide +kernel
theorem dL_law_1473 : decode cL_law 1473 = .ok (.aload_n 3, 1) := by decide +kernel
theorem dL_law_1474 : decode cL_law 1474 = .ok (.invokestatic 167, 3) := by decide +kernel
theorem dL_law_1477 : decode cL_law 1477 = .ok (.istore 5, 2) := by decide +kernel
theorem dL_law_1479 : decode cL_law 1479 = .ok (.aload_n 2, 1) := by decide +kernel
theorem dL_law_1480 : decode cL_law 1480 = .ok (.aload_n 0, 1) := by decide +kernel
theorem dL_law_1481 : decode cL_law 1481 = .ok (.iload 4, 2) := by decide +kernel
theorem dL_law_1483 : decode cL_law 1483 = .ok (.iconst 1, 1) := by decide +kernel
theorem dL_law_1484 : decode cL_law 1484 = .ok (.iadd, 1) := by decide +kernel
theorem dL_law_1485 : decode cL_law 1485 = .ok (.iaload, 1) := by decide +kernel
theorem dL_law_1486 : decode cL_law 1486 = .ok (.invokevirtual 169, 3) := by decide +kernel
theorem dL_law_1489 : decode cL_law 1489 = .ok (.istore 6, 2) := by decide +kernel
theorem dL_law_1491 : decode cL_law 1491 = .ok (.aload_n 2, 1) := by decide +kernel
theorem dL_law_1492 : decode cL_law 1492 = .ok (.invokevirtual 97, 3) := by decide +kernel
theorem dL_law_1495 : decode cL_law 1495 = .ok (.iload 5, 2) := by decide +kernel
theorem dL_law_1497 : decode cL_law 1497 = .ok (.if_icmp .eq 5, 3) := by decide +kernel
theorem dL_law_1500 : decode cL_law 1500 = .ok (.iconst 0, 1) := by decide +kernel
theorem dL_law_1501 : decode cL_law 1501 = .ok (.ireturn, 1) := by decide +kernel
theorem dL_law_1502 : decode cL_law 1502 = .ok (.iload 5, 2) := by decide +kernel
theorem dL_law_1504 : decode cL_law 1504 = .ok (.ifCond .ne 15, 3) := by decide +kernel
theorem dL_law_1507 : decode cL_law 1507 = .ok (.aload_n 3, 1) := by decide +kernel
theorem dL_law_1508 : decode cL_law 1508 = .ok (.iconst 0, 1) := by decide +kernel
theorem dL_law_1509 : decode cL_law 1509 = .ok (.laload, 1) := by decide +kernel
theorem dL_law_1510 : decode cL_law 1510 = .ok (.iload 6, 2) := by decide +kernel
theorem dL_law_1512 : decode cL_law 1512 = .ok (.i2l, 1) := by decide +kernel
theorem dL_law_1513 : decode cL_law 1513 = .ok (.lcmp, 1) := by decide +kernel
theorem dL_law_1514 : decode cL_law 1514 = .ok (.ifCond .eq 5, 3) := by decide +kernel
theorem dL_law_1517 : decode cL_law 1517 = .ok (.iconst 0, 1) := by decide +kernel
theorem dL_law_1518 : decode cL_law 1518 = .ok (.ireturn, 1) := by decide +kernel
theorem dL_law_1519 : decode cL_law 1519 = .ok (.goto 182, 3) := by decide +kernel
theorem dL_law_1522 : decode cL_law 1522 = .ok (.aload_n 1, 1) := by decide +kernel
theorem dL_law_1523 : decode cL_law 1523 = .ok (.aload_n 0, 1) := by decide +kernel
theorem dL_law_1524 : decode cL_law 1524 = .ok (.iload 4, 2) := by decide +kernel
theorem dL_law_1526 : decode cL_law 1526 = .ok (.iconst 1, 1) := by decide +kernel
theorem dL_law_1527 : decode cL_law 1527 = .ok (.iadd, 1) := by decide +kernel
theorem dL_law_1528 : decode cL_law 1528 = .ok (.iaload, 1) := by decide +kernel
theorem dL_law_1529 : decode cL_law 1529 = .ok (.aload_n 3, 1) := by decide +kernel
theorem dL_law_1530 : decode cL_law 1530 = .ok (.invokestatic 170, 3) := by decide +kernel
theorem dL_law_1533 : decode cL_law 1533 = .ok (.istore 5, 2) := by decide +kernel
theorem dL_law_1535 : decode cL_law 1535 = .ok (.aload_n 2, 1) := by decide +kernel
theorem dL_law_1536 : decode cL_law 1536 = .ok (.aload_n 0, 1) := by decide +kernel
theorem dL_law_1537 : decode cL_law 1537 = .ok (.iload 4, 2) := by decide +kernel
theorem dL_law_1539 : decode cL_law 1539 = .ok (.iconst 1, 1) := by decide +kernel
theorem dL_law_1540 : decode cL_law 1540 = .ok (.iadd, 1) := by decide +kernel
theorem dL_law_1541 : decode cL_law 1541 = .ok (.iaload, 1) := by decide +kernel
theorem dL_law_1542 : decode cL_law 1542 = .ok (.invokevirtual 172, 3) := by decide +kernel
theorem dL_law_1545 : decode cL_law 1545 = .ok (.istore 6, 2) := by decide +kernel
theorem dL_law_1547 : decode cL_law 1547 = .ok (.aload_n 2, 1) := by decide +kernel
theorem dL_law_1548 : decode cL_law 1548 = .ok (.invokevirtual 97, 3) := by decide +kernel
theorem dL_law_1551 : decode cL_law 1551 = .ok (.iload 5, 2) := by decide +kernel
theorem dL_law_1553 : decode cL_law 1553 = .ok (.if_icmp .eq 5, 3) := by decide +kernel
theorem dL_law_1556 : decode cL_law 1556 = .ok (.iconst 0, 1) := by decide +kernel
theorem dL_law_1557 : decode cL_law 1557 = .ok (.ireturn, 1) := by decide +kernel
theorem dL_law_1558 : decode cL_law 1558 = .ok (.iload 5, 2) := by decide +kernel
theorem dL_law_1560 : decode cL_law 1560 = .ok (.ifCond .ne 15, 3) := by decide +kernel
theorem dL_law_1563 : decode cL_law 1563 = .ok (.aload_n 3, 1) := by decide +kernel
theorem dL_law_1564 : decode cL_law 1564 = .ok (.iconst 0, 1) := by decide +kernel
theorem dL_law_1565 : decode cL_law 1565 = .ok (.laload, 1) := by decide +kernel
theorem dL_law_1566 : decode cL_law 1566 = .ok (.iload 6, 2) := by decide +kernel
theorem dL_law_1568 : decode cL_law 1568 = .ok (.i2l, 1) := by decide +kernel
theorem dL_law_1569 : decode cL_law 1569 = .ok (.lcmp, 1) := by decide +kernel
theorem dL_law_1570 : decode cL_law 1570 = .ok (.ifCond .eq 5, 3) := by decide +kernel
theorem dL_law_1573 : decode cL_law 1573 = .ok (.iconst 0, 1) := by decide +kernel
theorem dL_law_1574 : decode cL_law 1574 = .ok (.ireturn, 1) := by decide +kernel
theorem dL_law_1575 : decode cL_law 1575 = .ok (.goto 126, 3) := by decide +kernel
theorem dL_law_1578 : decode cL_law 1578 = .ok (.aload_n 1, 1) := by decide +kernel
theorem dL_law_1579 : decode cL_law 1579 = .ok (.aload_n 0, 1) := by decide +kernel
theorem dL_law_1580 : decode cL_law 1580 = .ok (.iload 4, 2) := by decide +kernel
theorem dL_law_1582 : decode cL_law 1582 = .ok (.iconst 1, 1) := by decide +kernel
theorem dL_law_1583 : decode cL_law 1583 = .ok (.iadd, 1) := by decide +kernel
theorem dL_law_1584 : decode cL_law 1584 = .ok (.iaload, 1) := by decide +kernel
theorem dL_law_1585 : decode cL_law 1585 = .ok (.aload_n 0, 1) := by decide +kernel
theorem dL_law_1586 : decode cL_law 1586 = .ok (.iload 4, 2) := by decide +kernel
theorem dL_law_1588 : decode cL_law 1588 = .ok (.iconst 2, 1) := by decide +kernel
theorem dL_law_1589 : decode cL_law 1589 = .ok (.iadd, 1) := by decide +kernel
theorem dL_law_1590 : decode cL_law 1590 = .ok (.iaload, 1) := by decide +kernel
theorem dL_law_1591 : decode cL_law 1591 = .ok (.aload_n 3, 1) := by decide +kernel
theorem dL_law_1592 : decode cL_law 1592 = .ok (.invokestatic 173, 3) := by decide +kernel
theorem dL_law_1595 : decode cL_law 1595 = .ok (.istore 5, 2) := by decide +kernel
theorem dL_law_1597 : decode cL_law 1597 = .ok (.aload_n 2, 1) := by decide +kernel
theorem dL_law_1598 : decode cL_law 1598 = .ok (.aload_n 0, 1) := by decide +kernel
theorem dL_law_1599 : decode cL_law 1599 = .ok (.iload 4, 2) := by decide +kernel
theorem dL_law_1601 : decode cL_law 1601 = .ok (.iconst 1, 1) := by decide +kernel
theorem dL_law_1602 : decode cL_law 1602 = .ok (.iadd, 1) := by decide +kernel
theorem dL_law_1603 : decode cL_law 1603 = .ok (.iaload, 1) := by decide +kernel
theorem dL_law_1604 : decode cL_law 1604 = .ok (.aload_n 0, 1) := by decide +kernel
theorem dL_law_1605 : decode cL_law 1605 = .ok (.iload 4, 2) := by decide +kernel
theorem dL_law_1607 : decode cL_law 1607 = .ok (.iconst 2, 1) := by decide +kernel
theorem dL_law_1608 : decode cL_law 1608 = .ok (.iadd, 1) := by decide +kernel
theorem dL_law_1609 : decode cL_law 1609 = .ok (.iaload, 1) := by decide +kernel
theorem dL_law_1610 : decode cL_law 1610 = .ok (.invokevirtual 175, 3) := by decide +kernel
theorem dL_law_1613 : decode cL_law 1613 = .ok (.istore 6, 2) := by decide +kernel
theorem dL_law_1615 : decode cL_law 1615 = .ok (.aload_n 2, 1) := by decide +kernel
theorem dL_law_1616 : decode cL_law 1616 = .ok (.invokevirtual 97, 3) := by decide +kernel
theorem dL_law_1619 : decode cL_law 1619 = .ok (.iload 5, 2) := by decide +kernel
theorem dL_law_1621 : decode cL_law 1621 = .ok (.if_icmp .eq 5, 3) := by decide +kernel
theorem dL_law_1624 : decode cL_law 1624 = .ok (.iconst 0, 1) := by decide +kernel
theorem dL_law_1625 : decode cL_law 1625 = .ok (.ireturn, 1) := by decide +kernel
theorem dL_law_1626 : decode cL_law 1626 = .ok (.iload 5, 2) := by decide +kernel
theorem dL_law_1628 : decode cL_law 1628 = .ok (.ifCond .ne 15, 3) := by decide +kernel
theorem dL_law_1631 : decode cL_law 1631 = .ok (.aload_n 3, 1) := by decide +kernel
theorem dL_law_1632 : decode cL_law 1632 = .ok (.iconst 0, 1) := by decide +kernel
theorem dL_law_1633 : decode cL_law 1633 = .ok (.laload, 1) := by decide +kernel
theorem dL_law_1634 : decode cL_law 1634 = .ok (.iload 6, 2) := by decide +kernel
theorem dL_law_1636 : decode cL_law 1636 = .ok (.i2l, 1) := by decide +kernel
theorem dL_law_1637 : decode cL_law 1637 = .ok (.lcmp, 1) := by decide +kernel
theorem dL_law_1638 : decode cL_law 1638 = .ok (.ifCond .eq 5, 3) := by decide +kernel
theorem dL_law_1641 : decode cL_law 1641 = .ok (.iconst 0, 1) := by decide +kernel
theorem dL_law_1642 : decode cL_law 1642 = .ok (.ireturn, 1) := by decide +kernel
theorem dL_law_1643 : decode cL_law 1643 = .ok (.goto 58, 3) := by decide +kernel
theorem dL_law_1646 : decode cL_law 1646 = .ok (.aload_n 1, 1) := by decide +kernel
theorem dL_law_1647 : decode cL_law 1647 = .ok (.invokevirtual 176, 3) := by decide +kernel
theorem dL_law_1650 : decode cL_law 1650 = .ok (.dstore 5, 2) := by decide +kernel
theorem dL_law_1652 : decode cL_law 1652 = .ok (.aload_n 2, 1) := by decide +kernel
theorem dL_law_1653 : decode cL_law 1653 = .ok (.invokevirtual 180, 3) := by decide +kernel
theorem dL_law_1656 : decode cL_law 1656 = .ok (.dstore 7, 2) := by decide +kernel
theorem dL_law_1658 : decode cL_law 1658 = .ok (.dload 5, 2) := by decide +kernel
theorem dL_law_1660 : decode cL_law 1660 = .ok (.dload 7, 2) := by decide +kernel
theorem dL_law_1662 : decode cL_law 1662 = .ok (.dcmp .l, 1) := by decide +kernel
theorem dL_law_1663 : decode cL_law 1663 = .ok (.ifCond .eq 21, 3) := by decide +kernel
theorem dL_law_1666 : decode cL_law 1666 = .ok (.dload 5, 2) := by decide +kernel
theorem dL_law_1668 : decode cL_law 1668 = .ok (.dload 5, 2) := by decide +kernel
theorem dL_law_1670 : decode cL_law 1670 = .ok (.dcmp .l, 1) := by decide +kernel
theorem dL_law_1671 : decode cL_law 1671 = .ok (.ifCond .eq 11, 3) := by decide +kernel
theorem dL_law_1674 : decode cL_law 1674 = .ok (.dload 7, 2) := by decide +kernel
theorem dL_law_1676 : decode cL_law 1676 = .ok (.dload 7, 2) := by decide +kernel
theorem dL_law_1678 : decode cL_law 1678 = .ok (.dcmp .l, 1) := by decide +kernel
theorem dL_law_1679 : decode cL_law 1679 = .ok (.ifCond .ne 5, 3) := by decide +kernel
theorem dL_law_1682 : decode cL_law 1682 = .ok (.iconst 0, 1) := by decide +kernel
theorem dL_law_1683 : decode cL_law 1683 = .ok (.ireturn, 1) := by decide +kernel
theorem dL_law_1684 : decode cL_law 1684 = .ok (.goto 17, 3) := by decide +kernel
theorem dL_law_1687 : decode cL_law 1687 = .ok (.aload_n 1, 1) := by decide +kernel
theorem dL_law_1688 : decode cL_law 1688 = .ok (.invokevirtual 181, 3) := by decide +kernel
theorem dL_law_1691 : decode cL_law 1691 = .ok (.aload_n 2, 1) := by decide +kernel
theorem dL_law_1692 : decode cL_law 1692 = .ok (.invokevirtual 185, 3) := by decide +kernel
theorem dL_law_1695 : decode cL_law 1695 = .ok (.lcmp, 1) := by decide +kernel
theorem dL_law_1696 : decode cL_law 1696 = .ok (.ifCond .eq 5, 3) := by decide +kernel
theorem dL_law_1699 : decode cL_law 1699 = .ok (.iconst 0, 1) := by decide +kernel
theorem dL_law_1700 : decode cL_law 1700 = .ok (.ireturn, 1) := by decide +kernel
theorem dL_law_1701 : decode cL_law 1701 = .ok (.iinc 4 6, 3) := by decide +kernel
theorem dL_law_1704 : decode cL_law 1704 = .ok (.goto (-1681), 3) := by decide +kernel
theorem dL_law_1707 : decode cL_law 1707 = .ok (.iconst 1, 1) := by decide +kernel
theorem dL_law_1708 : decode cL_law 1708 = .ok (.ireturn, 1) := by decide +kernel
end
section
/-! THE LAYER J: memory as functions of address and slot (I: ints, P: references, L: longs), a shape Sh of addresses; judgement jJ at a frame -/
abbrev jI : Type := Nat → Nat → Int32
abbrev jP : Type := Nat → Nat → Option Nat
abbrev jL : Type := Nat → Nat → Int64
abbrev jS : Type := Nat → Option (Nat × Nat)
/-- the words that every method gets -/
def jWS : List Cond := lw_tbl.filter goodWord
theorem jWS_in {w : Cond} (i : Nat) (h : lw_tbl[i]? = some w) (hg : goodWord w = true) : w ∈ jWS := List.mem_filter.mpr ⟨List.mem_of_getElem? h, hg⟩
theorem jWS_tbl {w : Cond} (h : w ∈ jWS) : w ∈ lw_tbl := (List.mem_filter.mp h).1
theorem jWS_good {w : Cond} (h : w ∈ jWS) : goodWord w = true := (List.mem_filter.mp h).2
def jR : Nat → String | 0 => RX0 | 1 => RX1 | 2 => RX2 | 3 => RX3 | 4 => RX4 | 5 => RX5 | _ => RX6
def jT : Nat → u_T | 0 => TX0 | 1 => TX1 | 2 => TX2 | 3 => TX3 | 4 => TX4 | 5 => TX5 | _ => TX6
def jn : Nat → Nat | 0 => 13 | 1 => 8 | 2 => 4 | 3 => 9 | 4 => 1 | 5 => 8 | _ => 13
def jty : Nat → Nat → FieldType | 0 => tyX0 | 1 => tyX1 | 2 => tyX2 | 3 => tyX3 | 4 => tyX4 | 5 => tyX5 | _ => tyX6
theorem jcl {c : Nat} (h : c < 7) : vwCl[c]? = some (jR c, jT c, jn c) := by
  match c, h with
  | 0, _ => rfl
  | 1, _ => rfl
  | 2, _ => rfl
  | 3, _ => rfl
  | 4, _ => rfl
  | 5, _ => rfl
  | 6, _ => rfl
theorem jnm {c : Nat} (h : c < 7) : ∀ a, a < jn c → ∀ b, b < jn c → a ≠ b → (jT c a).2.1 ≠ (jT c b).2.1 := by
  match c, h with
  | 0, _ => exact nmX0
  | 1, _ => exact nmX1
  | 2, _ => exact nmX2
  | 3, _ => exact nmX3
  | 4, _ => exact nmX4
  | 5, _ => exact nmX5
  | 6, _ => exact nmX6
theorem jtyok {c : Nat} (h : c < 7) : ∀ k, k < jn c → parseFieldDescriptor (jT c k).2.2.1 = some (jty c k) := by
  match c, h with
  | 0, _ => exact tyX0_ok
  | 1, _ => exact tyX1_ok
  | 2, _ => exact tyX2_ok
  | 3, _ => exact tyX3_ok
  | 4, _ => exact tyX4_ok
  | 5, _ => exact tyX5_ok
  | 6, _ => exact tyX6_ok
def jisI : FieldType → Bool | .int => true | .boolean => true | _ => false
def jfv (c : Nat) (fi : Nat → Int32) (fp : Nat → Option Nat) (k : Nat) : Value := if jisI (jty c k) = true then .int (fi k) else va_rf (fp k)
/-- the cell of an address: its kind (a class, or 10: int[], 11: long[], 12, 13, 14: Weaver[], Order[], Hall[]) and length -/
def jent (cA : Nat → ClassId) (fi : Nat → Int32) (fp : Nat → Option Nat) (fl : Nat → Int64) (q : Nat × Nat) : va_E :=
  if q.1 = 10 then .inl (cA 0, q.2, .inl fi)
  else if q.1 = 11 then .inl (cA 1, q.2, .inr (.inl fl))
  else if q.1 = 12 then .inl (cA 2, q.2, .inr (.inr (.inr (.inr fp))))
  else if q.1 = 13 then .inl (cA 3, q.2, .inr (.inr (.inr (.inr fp))))
  else if q.1 = 14 then .inl (cA 4, q.2, .inr (.inr (.inr (.inr fp))))
  else .inr (q.1, (List.range (jn q.1)).map (jfv q.1 fi fp))
theorem jent_c {cA : Nat → ClassId} {fi : Nat → Int32} {fp : Nat → Option Nat} {fl : Nat → Int64} {c n : Nat} (h : c < 7) : jent cA fi fp fl (c, n) = .inr (c, (List.range (jn c)).map (jfv c fi fp)) := by
  unfold jent
  rw [if_neg (by show ¬ c = 10; omega), if_neg (by show ¬ c = 11; omega), if_neg (by show ¬ c = 12; omega), if_neg (by show ¬ c = 13; omega), if_neg (by show ¬ c = 14; omega)]
def jtys (cA : Nat → ClassId) : List (ClassId × FieldType) := [(cA 0, .int), (cA 1, .long), (cA 2, .object RX3), (cA 3, .object RX1), (cA 4, .object RX0)]
/-- the heap holds the memory -/
def jW (D : va_G) (cA : Nat → ClassId) (N0 : Nat) (Sh : jS) (I : jI) (P : jP) (L : jL) (H : Heap) : Prop :=
  ∀ (a : Nat) (q : Nat × Nat), Sh a = some q → N0 ≤ a ∧ va_at D vwCl (a, jent cA (I a) (P a) (L a) q) H
/-- the locals, by their places; none: unknown, or the second half of a long -/
def jl (arr : Array Slot) (nL : Nat) (ls : List (Option Value)) : Prop := arr.size = nL ∧ lv_wf arr ∧ ∀ (i : Nat) (v : Value), ls[i]? = some (some v) → arr[i]? = some (.val v)
def jen (ls : List (Option Value)) : List (Nat × Value) := (List.range ls.length).filterMap fun i => match ls[i]? with | some (some v) => some (i, v) | _ => none
theorem jen_in {ls : List (Option Value)} {i : Nat} {v : Value} (h : ls[i]? = some (some v)) : (i, v) ∈ jen ls := by
  refine List.mem_filterMap.mpr ⟨i, List.mem_range.mpr (List.getElem?_eq_some_iff.mp h).1, ?_⟩
  simp [h]
theorem jen_of {ls : List (Option Value)} {q : Nat × Value} (h : q ∈ jen ls) : ls[q.1]? = some (some q.2) := by
  obtain ⟨i, -, hi⟩ := List.mem_filterMap.mp h
  split at hi
  · rename_i v hv
    cases hi
    exact hv
  · cases hi
theorem jl.has {arr : Array Slot} {nL : Nat} {ls : List (Option Value)} (h : jl arr nL ls) : lv_has arr nL (jen ls) := ⟨h.1, h.2.1, fun q hq => h.2.2 q.1 q.2 (jen_of hq)⟩
/-- ls with v at k is ls'; the place ahead isn't a long's -/
def jset (ls : List (Option Value)) (k : Nat) (v : Value) (ls' : List (Option Value)) : Prop := k < ls.length ∧ ls' = ls.set k (some v) ∧ ∀ w : Value, 0 < k → ls[k - 1]? = some (some w) → w.category = 1
def jset2 (ls : List (Option Value)) (k : Nat) (v : Value) (ls' : List (Option Value)) : Prop := k + 1 < ls.length ∧ ls' = (ls.set k (some v)).set (k + 1) none ∧ ∀ w : Value, 0 < k → ls[k - 1]? = some (some w) → w.category = 1
theorem jl.set1 {arr : Array Slot} {nL k : Nat} {v : Value} {ls ls' : List (Option Value)} (hs : jset ls k v ls') (h : lv_has arr nL ((k, v) :: (jen ls).filter (fun q => !(q.1 == k) && !(q.1 + 1 == k && q.2.category == 2)))) : jl arr nL ls' := by
  obtain ⟨hk, rfl, hp⟩ := hs
  refine ⟨h.1, h.2.1, fun i w hi => ?_⟩
  by_cases hik : i = k
  · subst hik
    rw [List.getElem?_set_self hk] at hi
    have hvw : v = w := Option.some.inj (Option.some.inj hi)
    rw [← hvw]
    exact h.2.2 (i, v) List.mem_cons_self
  · rw [List.getElem?_set_ne (Ne.symm hik)] at hi
    refine h.2.2 (i, w) (List.mem_cons_of_mem _ (List.mem_filter.mpr ⟨jen_in hi, ?_⟩))
    have h2 : ¬ (i + 1 = k ∧ w.category = 2) := fun z => by
      have h3 := hp w (by omega) (by rw [show k - 1 = i by omega]; exact hi)
      omega
    by_cases h4 : i + 1 = k
    · have h5 : ¬ w.category = 2 := fun z => h2 ⟨h4, z⟩
      simp [hik, h5]
    · simp [hik, h4]
theorem jl.set2 {arr : Array Slot} {nL k : Nat} {v : Value} {ls ls' : List (Option Value)} (hs : jset2 ls k v ls') (h : lv_has arr nL ((k, v) :: (jen ls).filter (fun q => !(q.1 == k) && (!(q.1 == k + 1) && !(q.1 + 1 == k && q.2.category == 2))))) : jl arr nL ls' := by
  obtain ⟨hk, rfl, hp⟩ := hs
  refine ⟨h.1, h.2.1, fun i w hi => ?_⟩
  by_cases hik1 : i = k + 1
  · subst hik1
    rw [List.getElem?_set_self (by rw [List.length_set]; exact hk)] at hi
    cases hi
  · rw [List.getElem?_set_ne (Ne.symm hik1)] at hi
    by_cases hik : i = k
    · subst hik
      rw [List.getElem?_set_self (by omega)] at hi
      have hvw : v = w := Option.some.inj (Option.some.inj hi)
      rw [← hvw]
      exact h.2.2 (i, v) List.mem_cons_self
    · rw [List.getElem?_set_ne (Ne.symm hik)] at hi
      refine h.2.2 (i, w) (List.mem_cons_of_mem _ (List.mem_filter.mpr ⟨jen_in hi, ?_⟩))
      have h2 : ¬ (i + 1 = k ∧ w.category = 2) := fun z => by
        have h3 := hp w (by omega) (by rw [show k - 1 = i by omega]; exact hi)
        omega
      by_cases h4 : i + 1 = k
      · have h5 : ¬ w.category = 2 := fun z => h2 ⟨h4, z⟩
        simp [hik, hik1, h5]
      · simp [hik, hik1, h4]
theorem jl.mono {arr : Array Slot} {nL : Nat} {ls ls' : List (Option Value)} (h : jl arr nL ls) (hm : ∀ (i : Nat) (v : Value), ls'[i]? = some (some v) → ls[i]? = some (some v)) : jl arr nL ls' := ⟨h.1, h.2.1, fun i v hi => h.2.2 i v (hm i v hi)⟩
/-- the places of a method's arguments -/
def jin : List Value → List (Option Value)
  | [] => []
  | v :: t => if v.category = 2 then some v :: none :: jin t else some v :: jin t
theorem jin_args : ∀ (vs : List Value) (b i : Nat) (v : Value), (jin vs)[i]? = some (some v) → (b + i, v) ∈ lv_args b vs := by
  intro vs
  induction vs with
  | nil => intro b i v h; simp [jin] at h
  | cons x t ih =>
    intro b i v h
    unfold jin at h
    unfold lv_args
    split at h
    · rename_i hc
      match i, h with
      | 0, h => simp at h; subst h; simp
      | 1, h => simp at h
      | i + 2, h =>
        have h1 := ih (b + 2) i v (by simpa using h)
        simp only [hc]
        rw [show b + (i + 2) = b + 2 + i by omega]
        exact List.mem_cons_of_mem _ h1
    · rename_i hc
      have hc1 : x.category = 1 := (lv_cat x).resolve_right hc
      match i, h with
      | 0, h => simp at h; subst h; simp
      | i + 1, h =>
        have h1 := ih (b + 1) i v (by simpa using h)
        simp only [hc1]
        rw [show b + (i + 1) = b + 1 + i by omega]
        exact List.mem_cons_of_mem _ h1
/-- links of private members of nest mates -/
def jNW : List (String × Nat × MethodName × String) := [(RX0, 25, ⟨RX4, "<init>", "()V"⟩, RX5), (RX0, 37, ⟨RX3, "<init>", "()V"⟩, RX5), (RX3, 11, ⟨RX4, "<init>", "()V"⟩, RX5), (RX0, 38, ⟨RX1, "<init>", "()V"⟩, RX5), (RX5, 29, ⟨RX2, "<init>", "()V"⟩, RX5), (RX2, 39, ⟨RX5, "isWithin", "(III)Z"⟩, RX5)]
/-- the texts of the throws -/
def jST : List (Nat × String) := [(43, "no such weaver"), (53, "no such loom"), (75, "no such weaver or colour"), (77, "grams out of range"), (91, "share out of range"), (98, "no such colour"), (104, "the store would be too full"), (106, "same weaver, or grams out of range"), (108, "no such order can be taken"), (113, "too many orders"), (123, "no such order"), (134, "no such setting"), (139, "value out of range"), (144, "hours out of range"), (149, "too many hours"), (158, "no such character"), (163, "the buffer is full"), (172, "not complete orders as a text"), (183, "no state is saved"), (189, "no such property"), (194, "no such place or property"), (199, "no such place"), (207, "no such question"), (216, "no such number"), (221, "hours or question out of range"), (235, "no such order or weaver")]
/-- a static table of ints: where it lies, what it holds -/
def jTab (C n : String) (N0 N : Nat) (f : Nat → Int32) (t : Nat) (U : State) (H : Heap) : Prop := va_Z C n "[I" (.ref t) (fun q => N0 ≤ q) U H ∧ va_T .int t N (fun j => .int (f j)) (fun q => N0 ≤ q) U H
def jtMV : Nat → Int32 | 0 => 2 | 1 => 1 | 2 => 50 | _ => 9
def jtLE : Nat → Int32 | 0 => 1 | 1 => 40 | 2 => 0 | 3 => 1 | _ => 0
def jtMO : Nat → Int32 | 0 => 200 | 1 => 200 | 2 => 3 | 3 => 99 | _ => 9999
def jSt (N0 : Nat) (U : State) (H : Heap) : Prop :=
  (∃ t, jTab RX5 "MOST_VALUES" N0 4 jtMV t U H) ∧ (∃ t, jTab RX2 "LEAST" N0 5 jtLE t U H) ∧ (∃ t, jTab RX2 "MOST" N0 5 jtMO t U H) ∧
  vx_Zq Bundle.tN "UNASSIGNED_STACK" Bundle.steD (fun q => N0 ≤ q) U H ∧ vx_Zq Bundle.tN "SUPPRESSED_SENTINEL" Bundle.listD (fun q => N0 ≤ q) U H
/-- what the tables and the cells below N0 say -/
def jK (D : va_G) (cA : Nat → ClassId) (N0 : Nat) (U : State) (H : Heap) : Prop :=
  va_K D vwCl (jtys cA) U ∧ (∀ w ∈ jNW, va_Nw (.methodLinkNest w.1 w.2.1 w.2.2.1 w.2.2.2) U) ∧ (∀ q ∈ jST, ∃ sa, vk_R RX5 q.1 q.2 sa U) ∧ jSt N0 U H
theorem jTab.moved {C n : String} {N0 N : Nat} {f : Nat → Int32} {t : Nat} {u U : State} {H : Heap} (hvm : u.vm.Alike U.vm) (h : jTab C n N0 N f t u H) : jTab C n N0 N f t U H := ⟨va_Z.moved hvm h.1, va_T.moved hvm h.2⟩
theorem jTab.kept {C n : String} {N0 N : Nat} {f : Nat → Int32} {t : Nat} {U : State} {H H1 : Heap} (h : jTab C n N0 N f t U H) (hq : ∀ a : Nat, a < H.size → ¬ N0 ≤ a → H1[a]? = H[a]?) : jTab C n N0 N f t U H1 := ⟨va_Z.kept h.1 hq, va_T.kept h.2 hq⟩
theorem jSt.moved {N0 : Nat} {u U : State} {H : Heap} (hvm : u.vm.Alike U.vm) (h : jSt N0 u H) : jSt N0 U H := by
  obtain ⟨⟨t1, h1⟩, ⟨t2, h2⟩, ⟨t3, h3⟩, h4, h5⟩ := h
  exact ⟨⟨t1, h1.moved hvm⟩, ⟨t2, h2.moved hvm⟩, ⟨t3, h3.moved hvm⟩, vx_Zq.moved hvm h4, vx_Zq.moved hvm h5⟩
theorem jSt.kept {N0 : Nat} {U : State} {H H1 : Heap} (h : jSt N0 U H) (hq : ∀ a : Nat, a < H.size → ¬ N0 ≤ a → H1[a]? = H[a]?) : jSt N0 U H1 := by
  obtain ⟨⟨t1, h1⟩, ⟨t2, h2⟩, ⟨t3, h3⟩, h4, h5⟩ := h
  exact ⟨⟨t1, h1.kept hq⟩, ⟨t2, h2.kept hq⟩, ⟨t3, h3.kept hq⟩, vx_Zq.kept h4 hq, vx_Zq.kept h5 hq⟩
theorem jK.warm {D : va_G} {cA : Nat → ClassId} {N0 : Nat} {u U : State} {H H1 : Heap} (hW : u.WarmedH U.vm) (h : jK D cA N0 u H) (hq : ∀ a : Nat, a < H.size → ¬ N0 ≤ a → H1[a]? = H[a]?) : jK D cA N0 U H1 :=
  ⟨va_K.moved hW.alike h.1, fun w hw => va_Nw.warmM hW (h.2.1 w hw), fun q hq' => by obtain ⟨sa, hs⟩ := h.2.2.1 q hq'; exact ⟨sa, vk_R.warm hW hs⟩, (h.2.2.2.moved hW.alike).kept hq⟩
theorem jK.calling {D : va_G} {cA : Nat → ClassId} {N0 : Nat} {U : State} {H : Heap} {g : JFrame} {mk : MethodId} {a : Array Value} (h : jK D cA N0 U H) : jK D cA N0 (U.calling g mk a) H :=
  ⟨va_K.moved (u := U) (U := U.calling g mk a) (Vm.Alike.refl U.vm) h.1, fun w hw => va_Nw.same rfl (u := U) (U := U.calling g mk a) rfl (h.2.1 w hw), fun q hq' => by obtain ⟨sa, hs⟩ := h.2.2.1 q hq'; exact ⟨sa, vk_R.warm (s := U) (U := U.calling g mk a) (State.WarmedH.refl U) hs⟩, h.2.2.2.moved (u := U) (U := U.calling g mk a) (Vm.Alike.refl U.vm)⟩
section JC
variable {p : Program} {l : Launch} {e : Env} {R : Room} {s : State} {m : MethodId} {args : Array Value} {below : List Frame} {meth : Method} {c : Code} {D : va_G} {cA : Nat → ClassId} {N0 : Nat} {cc : ByteArray} {nL : Nat} {own : String} {lv : Nat} {Qf : State → Prop} {Z : Nat → Prop} {Sh : jS} {I : jI} {P : jP} {L : jL} {k n pc : Nat} {ls : List (Option Value)} {st : List Value}
/-- what holds all along a body -/
def jC (p : Program) (R : Room) (s : State) (m : MethodId) (args : Array Value) (meth : Method) (c : Code) (D : va_G) (cA : Nat → ClassId) (N0 : Nat) (cc : ByteArray) (nL : Nat) (own : String) (lv : Nat) : Prop :=
  p.tables.exec = Jvm.exec ∧ c.code = cc ∧ c.maxLocals = nL ∧ s.vm.findClass own = some m.cls ∧ (∀ w ∈ jWS, w.before args s = true) ∧ meth.locks = false ∧ jK D cA N0 s s.heap ∧ lv ≤ R.frames ∧ 40 * lv ≤ R.locals ∧ N0 ≤ s.heap.size
/-- at the frame, from every heap that holds the memory, the machine comes to Qf -/
def jJ (p : Program) (l : Launch) (e : Env) (R : Room) (s : State) (m : MethodId) (args : Array Value) (below : List Frame) (meth : Method) (c : Code) (D : va_G) (cA : Nat → ClassId) (N0 nL : Nat) (Qf : State → Prop) (Z : Nat → Prop) (Sh : jS) (I : jI) (P : jP) (L : jL) (k n pc : Nat) (ls : List (Option Value)) (st : List Value) : Prop :=
  ∀ (H : Heap) (locs : List Loc) (arr : Array Slot), jW D cA N0 Sh I P L H → Z H.size → va_S (fun q => N0 ≤ q) s.heap H locs → jl arr nL ls → W p l e R s m args below meth c H locs k n Qf (F0 m pc arr st)
end JC
end
section
section JR
variable {p : Program} {l : Launch} {e : Env} {R : Room} {s : State} {m : MethodId} {args : Array Value} {below : List Frame} {meth : Method} {c : Code} {D : va_G} {cA : Nat → ClassId} {N0 : Nat} {cc : ByteArray} {nL : Nat} {own : String} {lv : Nat} {Qf : State → Prop} {Z : Nat → Prop} {Sh : jS} {I : jI} {P : jP} {L : jL} {k n pc : Nat} {ls : List (Option Value)} {st : List Value}

theorem jx_iconst (C : jC p R s m args meth c D cA N0 cc nL own lv) {q : Int} {v : Int32} (d : decode cc pc = .ok (.iconst q, 1)) (hv : Int32.ofInt q = v) (kk : jJ p l e R s m args below meth c D cA N0 nL Qf Z Sh I P L k n (pc + 1) ls (.int v :: st)) : jJ p l e R s m args below meth c D cA N0 nL Qf Z Sh I P L k n pc ls (st) :=
  fun H locs arr hW hZ hS hl => lv_iconst C.1 C.2.1 d hv (kk H locs arr hW hZ hS hl)
theorem jx_bipush (C : jC p R s m args meth c D cA N0 cc nL own lv) {q : Int} {v : Int32} (d : decode cc pc = .ok (.bipush q, 2)) (hv : (Int8.ofInt q).toInt32 = v) (kk : jJ p l e R s m args below meth c D cA N0 nL Qf Z Sh I P L k n (pc + 2) ls (.int v :: st)) : jJ p l e R s m args below meth c D cA N0 nL Qf Z Sh I P L k n pc ls (st) :=
  fun H locs arr hW hZ hS hl => lv_bipush C.1 C.2.1 d hv (kk H locs arr hW hZ hS hl)
theorem jx_sipush (C : jC p R s m args meth c D cA N0 cc nL own lv) {q : Int} {v : Int32} (d : decode cc pc = .ok (.sipush q, 3)) (hv : (Int16.ofInt q).toInt32 = v) (kk : jJ p l e R s m args below meth c D cA N0 nL Qf Z Sh I P L k n (pc + 3) ls (.int v :: st)) : jJ p l e R s m args below meth c D cA N0 nL Qf Z Sh I P L k n pc ls (st) :=
  fun H locs arr hW hZ hS hl => lv_sipush C.1 C.2.1 d hv (kk H locs arr hW hZ hS hl)
theorem jx_lconst (C : jC p R s m args meth c D cA N0 cc nL own lv) {q : Fin 2} {v : Int64} (d : decode cc pc = .ok (.lconst q, 1)) (hv : Int64.ofNat (q : Nat) = v) (kk : jJ p l e R s m args below meth c D cA N0 nL Qf Z Sh I P L k n (pc + 1) ls (.long v :: st)) : jJ p l e R s m args below meth c D cA N0 nL Qf Z Sh I P L k n pc ls (st) :=
  fun H locs arr hW hZ hS hl => lv_lconst C.1 C.2.1 d hv (kk H locs arr hW hZ hS hl)
theorem jx_dconst0 (C : jC p R s m args meth c D cA N0 cc nL own lv)  (d : decode cc pc = .ok (.dconst 0, 1))  (kk : jJ p l e R s m args below meth c D cA N0 nL Qf Z Sh I P L k n (pc + 1) ls (.double FP.dconst0 :: st)) : jJ p l e R s m args below meth c D cA N0 nL Qf Z Sh I P L k n pc ls (st) :=
  fun H locs arr hW hZ hS hl => lv_dconst0 C.1 C.2.1 d  (kk H locs arr hW hZ hS hl)
theorem jx_dconst1 (C : jC p R s m args meth c D cA N0 cc nL own lv)  (d : decode cc pc = .ok (.dconst 1, 1))  (kk : jJ p l e R s m args below meth c D cA N0 nL Qf Z Sh I P L k n (pc + 1) ls (.double FP.dconst1 :: st)) : jJ p l e R s m args below meth c D cA N0 nL Qf Z Sh I P L k n pc ls (st) :=
  fun H locs arr hW hZ hS hl => lv_dconst1 C.1 C.2.1 d  (kk H locs arr hW hZ hS hl)
theorem jx_null (C : jC p R s m args meth c D cA N0 cc nL own lv)  (d : decode cc pc = .ok (.aconst_null, 1))  (kk : jJ p l e R s m args below meth c D cA N0 nL Qf Z Sh I P L k n (pc + 1) ls (.null :: st)) : jJ p l e R s m args below meth c D cA N0 nL Qf Z Sh I P L k n pc ls (st) :=
  fun H locs arr hW hZ hS hl => lv_null C.1 C.2.1 d  (kk H locs arr hW hZ hS hl)
theorem jx_iload_n (C : jC p R s m args meth c D cA N0 cc nL own lv) {q : Fin 4} {x : Int32} (d : decode cc pc = .ok (.iload_n q, 1)) (hk : ls[(q : Nat)]? = some (some (.int x))) (kk : jJ p l e R s m args below meth c D cA N0 nL Qf Z Sh I P L k n (pc + 1) ls (.int x :: st)) : jJ p l e R s m args below meth c D cA N0 nL Qf Z Sh I P L k n pc ls (st) :=
  fun H locs arr hW hZ hS hl => lv_iload_n C.1 C.2.1 d rfl (hl.2.2 _ _ hk) (kk H locs arr hW hZ hS hl)
theorem jx_iload (C : jC p R s m args meth c D cA N0 cc nL own lv) {q : Nat} {x : Int32} (d : decode cc pc = .ok (.iload q, 2)) (hk : ls[q]? = some (some (.int x))) (kk : jJ p l e R s m args below meth c D cA N0 nL Qf Z Sh I P L k n (pc + 2) ls (.int x :: st)) : jJ p l e R s m args below meth c D cA N0 nL Qf Z Sh I P L k n pc ls (st) :=
  fun H locs arr hW hZ hS hl => lv_iload C.1 C.2.1 d (hl.2.2 _ _ hk) (kk H locs arr hW hZ hS hl)
theorem jx_lload_n (C : jC p R s m args meth c D cA N0 cc nL own lv) {q : Fin 4} {x : Int64} (d : decode cc pc = .ok (.lload_n q, 1)) (hk : ls[(q : Nat)]? = some (some (.long x))) (kk : jJ p l e R s m args below meth c D cA N0 nL Qf Z Sh I P L k n (pc + 1) ls (.long x :: st)) : jJ p l e R s m args below meth c D cA N0 nL Qf Z Sh I P L k n pc ls (st) :=
  fun H locs arr hW hZ hS hl => lv_lload_n C.1 C.2.1 d rfl (hl.2.2 _ _ hk) (kk H locs arr hW hZ hS hl)
theorem jx_lload (C : jC p R s m args meth c D cA N0 cc nL own lv) {q : Nat} {x : Int64} (d : decode cc pc = .ok (.lload q, 2)) (hk : ls[q]? = some (some (.long x))) (kk : jJ p l e R s m args below meth c D cA N0 nL Qf Z Sh I P L k n (pc + 2) ls (.long x :: st)) : jJ p l e R s m args below meth c D cA N0 nL Qf Z Sh I P L k n pc ls (st) :=
  fun H locs arr hW hZ hS hl => lv_lload C.1 C.2.1 d (hl.2.2 _ _ hk) (kk H locs arr hW hZ hS hl)
theorem jx_aload_n (C : jC p R s m args meth c D cA N0 cc nL own lv) {q : Fin 4} {x : Nat} (d : decode cc pc = .ok (.aload_n q, 1)) (hk : ls[(q : Nat)]? = some (some (.ref x))) (kk : jJ p l e R s m args below meth c D cA N0 nL Qf Z Sh I P L k n (pc + 1) ls (.ref x :: st)) : jJ p l e R s m args below meth c D cA N0 nL Qf Z Sh I P L k n pc ls (st) :=
  fun H locs arr hW hZ hS hl => lv_aload_n C.1 C.2.1 d rfl (hl.2.2 _ _ hk) (kk H locs arr hW hZ hS hl)
theorem jx_aload (C : jC p R s m args meth c D cA N0 cc nL own lv) {q : Nat} {x : Nat} (d : decode cc pc = .ok (.aload q, 2)) (hk : ls[q]? = some (some (.ref x))) (kk : jJ p l e R s m args below meth c D cA N0 nL Qf Z Sh I P L k n (pc + 2) ls (.ref x :: st)) : jJ p l e R s m args below meth c D cA N0 nL Qf Z Sh I P L k n pc ls (st) :=
  fun H locs arr hW hZ hS hl => lv_aload C.1 C.2.1 d (hl.2.2 _ _ hk) (kk H locs arr hW hZ hS hl)
theorem jx_dload_n (C : jC p R s m args meth c D cA N0 cc nL own lv) {q : Fin 4} {x : UInt64} (d : decode cc pc = .ok (.dload_n q, 1)) (hk : ls[(q : Nat)]? = some (some (.double x))) (kk : jJ p l e R s m args below meth c D cA N0 nL Qf Z Sh I P L k n (pc + 1) ls (.double x :: st)) : jJ p l e R s m args below meth c D cA N0 nL Qf Z Sh I P L k n pc ls (st) :=
  fun H locs arr hW hZ hS hl => lv_dload_n C.1 C.2.1 d rfl (hl.2.2 _ _ hk) (kk H locs arr hW hZ hS hl)
theorem jx_dload (C : jC p R s m args meth c D cA N0 cc nL own lv) {q : Nat} {x : UInt64} (d : decode cc pc = .ok (.dload q, 2)) (hk : ls[q]? = some (some (.double x))) (kk : jJ p l e R s m args below meth c D cA N0 nL Qf Z Sh I P L k n (pc + 2) ls (.double x :: st)) : jJ p l e R s m args below meth c D cA N0 nL Qf Z Sh I P L k n pc ls (st) :=
  fun H locs arr hW hZ hS hl => lv_dload C.1 C.2.1 d (hl.2.2 _ _ hk) (kk H locs arr hW hZ hS hl)
theorem jx_aload_nN (C : jC p R s m args meth c D cA N0 cc nL own lv) {q : Fin 4} (d : decode cc pc = .ok (.aload_n q, 1)) (hk : ls[(q : Nat)]? = some (some .null)) (kk : jJ p l e R s m args below meth c D cA N0 nL Qf Z Sh I P L k n (pc + 1) ls (.null :: st)) : jJ p l e R s m args below meth c D cA N0 nL Qf Z Sh I P L k n pc ls (st) :=
  fun H locs arr hW hZ hS hl => lv_aload_nN C.1 C.2.1 d rfl (hl.2.2 _ _ hk) (kk H locs arr hW hZ hS hl)
theorem jx_aloadN (C : jC p R s m args meth c D cA N0 cc nL own lv) {q : Nat} (d : decode cc pc = .ok (.aload q, 2)) (hk : ls[q]? = some (some .null)) (kk : jJ p l e R s m args below meth c D cA N0 nL Qf Z Sh I P L k n (pc + 2) ls (.null :: st)) : jJ p l e R s m args below meth c D cA N0 nL Qf Z Sh I P L k n pc ls (st) :=
  fun H locs arr hW hZ hS hl => lv_aloadN C.1 C.2.1 d (hl.2.2 _ _ hk) (kk H locs arr hW hZ hS hl)
theorem jx_istore_n (C : jC p R s m args meth c D cA N0 cc nL own lv) {q : Fin 4} {x : Int32} {ls' : List (Option Value)} (d : decode cc pc = .ok (.istore_n q, 1)) (hs : jset ls (q : Nat) (.int x) ls') (hn : (q : Nat) < nL) (kk : jJ p l e R s m args below meth c D cA N0 nL Qf Z Sh I P L k n (pc + 1) ls' st) : jJ p l e R s m args below meth c D cA N0 nL Qf Z Sh I P L k n pc ls ((.int x) :: st) :=
  fun H locs arr hW hZ hS hl => lv_istore_n C.1 C.2.1 d rfl hl.has hn rfl (fun arr2 h2 => kk H locs arr2 hW hZ hS (jl.set1 hs h2))
theorem jx_istore (C : jC p R s m args meth c D cA N0 cc nL own lv) {q : Nat} {x : Int32} {ls' : List (Option Value)} (d : decode cc pc = .ok (.istore q, 2)) (hs : jset ls (q : Nat) (.int x) ls') (hn : (q : Nat) < nL) (kk : jJ p l e R s m args below meth c D cA N0 nL Qf Z Sh I P L k n (pc + 2) ls' st) : jJ p l e R s m args below meth c D cA N0 nL Qf Z Sh I P L k n pc ls ((.int x) :: st) :=
  fun H locs arr hW hZ hS hl => lv_istore C.1 C.2.1 d hl.has hn rfl (fun arr2 h2 => kk H locs arr2 hW hZ hS (jl.set1 hs h2))
theorem jx_lstore_n (C : jC p R s m args meth c D cA N0 cc nL own lv) {q : Fin 4} {x : Int64} {ls' : List (Option Value)} (d : decode cc pc = .ok (.lstore_n q, 1)) (hs : jset2 ls (q : Nat) (.long x) ls') (hn : (q : Nat) + 1 < nL) (kk : jJ p l e R s m args below meth c D cA N0 nL Qf Z Sh I P L k n (pc + 1) ls' st) : jJ p l e R s m args below meth c D cA N0 nL Qf Z Sh I P L k n pc ls ((.long x) :: st) :=
  fun H locs arr hW hZ hS hl => lv_lstore_n C.1 C.2.1 d rfl hl.has hn rfl (fun arr2 h2 => kk H locs arr2 hW hZ hS (jl.set2 hs h2))
theorem jx_lstore (C : jC p R s m args meth c D cA N0 cc nL own lv) {q : Nat} {x : Int64} {ls' : List (Option Value)} (d : decode cc pc = .ok (.lstore q, 2)) (hs : jset2 ls (q : Nat) (.long x) ls') (hn : (q : Nat) + 1 < nL) (kk : jJ p l e R s m args below meth c D cA N0 nL Qf Z Sh I P L k n (pc + 2) ls' st) : jJ p l e R s m args below meth c D cA N0 nL Qf Z Sh I P L k n pc ls ((.long x) :: st) :=
  fun H locs arr hW hZ hS hl => lv_lstore C.1 C.2.1 d hl.has hn rfl (fun arr2 h2 => kk H locs arr2 hW hZ hS (jl.set2 hs h2))
theorem jx_astore_n (C : jC p R s m args meth c D cA N0 cc nL own lv) {q : Fin 4} {x : Nat} {ls' : List (Option Value)} (d : decode cc pc = .ok (.astore_n q, 1)) (hs : jset ls (q : Nat) (.ref x) ls') (hn : (q : Nat) < nL) (kk : jJ p l e R s m args below meth c D cA N0 nL Qf Z Sh I P L k n (pc + 1) ls' st) : jJ p l e R s m args below meth c D cA N0 nL Qf Z Sh I P L k n pc ls ((.ref x) :: st) :=
  fun H locs arr hW hZ hS hl => lv_astore_n C.1 C.2.1 d rfl hl.has hn rfl (fun arr2 h2 => kk H locs arr2 hW hZ hS (jl.set1 hs h2))
theorem jx_astore (C : jC p R s m args meth c D cA N0 cc nL own lv) {q : Nat} {x : Nat} {ls' : List (Option Value)} (d : decode cc pc = .ok (.astore q, 2)) (hs : jset ls (q : Nat) (.ref x) ls') (hn : (q : Nat) < nL) (kk : jJ p l e R s m args below meth c D cA N0 nL Qf Z Sh I P L k n (pc + 2) ls' st) : jJ p l e R s m args below meth c D cA N0 nL Qf Z Sh I P L k n pc ls ((.ref x) :: st) :=
  fun H locs arr hW hZ hS hl => lv_astore C.1 C.2.1 d hl.has hn rfl (fun arr2 h2 => kk H locs arr2 hW hZ hS (jl.set1 hs h2))
theorem jx_dstore_n (C : jC p R s m args meth c D cA N0 cc nL own lv) {q : Fin 4} {x : UInt64} {ls' : List (Option Value)} (d : decode cc pc = .ok (.dstore_n q, 1)) (hs : jset2 ls (q : Nat) (.double x) ls') (hn : (q : Nat) + 1 < nL) (kk : jJ p l e R s m args below meth c D cA N0 nL Qf Z Sh I P L k n (pc + 1) ls' st) : jJ p l e R s m args below meth c D cA N0 nL Qf Z Sh I P L k n pc ls ((.double x) :: st) :=
  fun H locs arr hW hZ hS hl => lv_dstore_n C.1 C.2.1 d rfl hl.has hn rfl (fun arr2 h2 => kk H locs arr2 hW hZ hS (jl.set2 hs h2))
theorem jx_dstore (C : jC p R s m args meth c D cA N0 cc nL own lv) {q : Nat} {x : UInt64} {ls' : List (Option Value)} (d : decode cc pc = .ok (.dstore q, 2)) (hs : jset2 ls (q : Nat) (.double x) ls') (hn : (q : Nat) + 1 < nL) (kk : jJ p l e R s m args below meth c D cA N0 nL Qf Z Sh I P L k n (pc + 2) ls' st) : jJ p l e R s m args below meth c D cA N0 nL Qf Z Sh I P L k n pc ls ((.double x) :: st) :=
  fun H locs arr hW hZ hS hl => lv_dstore C.1 C.2.1 d hl.has hn rfl (fun arr2 h2 => kk H locs arr2 hW hZ hS (jl.set2 hs h2))
theorem jx_astore_nN (C : jC p R s m args meth c D cA N0 cc nL own lv) {q : Fin 4}  {ls' : List (Option Value)} (d : decode cc pc = .ok (.astore_n q, 1)) (hs : jset ls (q : Nat) .null ls') (hn : (q : Nat) < nL) (kk : jJ p l e R s m args below meth c D cA N0 nL Qf Z Sh I P L k n (pc + 1) ls' st) : jJ p l e R s m args below meth c D cA N0 nL Qf Z Sh I P L k n pc ls (.null :: st) :=
  fun H locs arr hW hZ hS hl => lv_astore_nN C.1 C.2.1 d rfl hl.has hn rfl (fun arr2 h2 => kk H locs arr2 hW hZ hS (jl.set1 hs h2))
theorem jx_astoreN (C : jC p R s m args meth c D cA N0 cc nL own lv) {q : Nat}  {ls' : List (Option Value)} (d : decode cc pc = .ok (.astore q, 2)) (hs : jset ls (q : Nat) .null ls') (hn : (q : Nat) < nL) (kk : jJ p l e R s m args below meth c D cA N0 nL Qf Z Sh I P L k n (pc + 2) ls' st) : jJ p l e R s m args below meth c D cA N0 nL Qf Z Sh I P L k n pc ls (.null :: st) :=
  fun H locs arr hW hZ hS hl => lv_astoreN C.1 C.2.1 d hl.has hn rfl (fun arr2 h2 => kk H locs arr2 hW hZ hS (jl.set1 hs h2))
theorem jx_iinc (C : jC p R s m args meth c D cA N0 cc nL own lv) {q : Nat} {z : Int} {x v : Int32} {ls' : List (Option Value)} (d : decode cc pc = .ok (.iinc q z, 3)) (hk : ls[q]? = some (some (.int x))) (hv : x + Int32.ofInt z = v) (hs : jset ls q (.int v) ls') (hn : q < nL) (kk : jJ p l e R s m args below meth c D cA N0 nL Qf Z Sh I P L k n (pc + 3) ls' st) : jJ p l e R s m args below meth c D cA N0 nL Qf Z Sh I P L k n pc ls st := by
  intro H locs arr hW hZ hS hl
  obtain ⟨i, hi⟩ := List.getElem?_of_mem (jen_in hk)
  exact lv_iinc C.1 C.2.1 d hl.has hi hv hn rfl (fun arr2 h2 => kk H locs arr2 hW hZ hS (jl.set1 hs h2))
theorem jx_iadd (C : jC p R s m args meth c D cA N0 cc nL own lv) {x y : Int32} (d : decode cc pc = .ok (.iadd, 1))  (kk : jJ p l e R s m args below meth c D cA N0 nL Qf Z Sh I P L k n (pc + 1) ls (.int (x + y) :: st)) : jJ p l e R s m args below meth c D cA N0 nL Qf Z Sh I P L k n pc ls (.int y :: .int x :: st) :=
  fun H locs arr hW hZ hS hl => lv_iadd C.1 C.2.1 d  (kk H locs arr hW hZ hS hl)
theorem jx_isub (C : jC p R s m args meth c D cA N0 cc nL own lv) {x y : Int32} (d : decode cc pc = .ok (.isub, 1))  (kk : jJ p l e R s m args below meth c D cA N0 nL Qf Z Sh I P L k n (pc + 1) ls (.int (x - y) :: st)) : jJ p l e R s m args below meth c D cA N0 nL Qf Z Sh I P L k n pc ls (.int y :: .int x :: st) :=
  fun H locs arr hW hZ hS hl => lv_isub C.1 C.2.1 d  (kk H locs arr hW hZ hS hl)
theorem jx_imul (C : jC p R s m args meth c D cA N0 cc nL own lv) {x y : Int32} (d : decode cc pc = .ok (.imul, 1))  (kk : jJ p l e R s m args below meth c D cA N0 nL Qf Z Sh I P L k n (pc + 1) ls (.int (x * y) :: st)) : jJ p l e R s m args below meth c D cA N0 nL Qf Z Sh I P L k n pc ls (.int y :: .int x :: st) :=
  fun H locs arr hW hZ hS hl => lv_imul C.1 C.2.1 d  (kk H locs arr hW hZ hS hl)
theorem jx_iand (C : jC p R s m args meth c D cA N0 cc nL own lv) {x y : Int32} (d : decode cc pc = .ok (.iand, 1))  (kk : jJ p l e R s m args below meth c D cA N0 nL Qf Z Sh I P L k n (pc + 1) ls (.int (x &&& y) :: st)) : jJ p l e R s m args below meth c D cA N0 nL Qf Z Sh I P L k n pc ls (.int y :: .int x :: st) :=
  fun H locs arr hW hZ hS hl => lv_iand C.1 C.2.1 d  (kk H locs arr hW hZ hS hl)
theorem jx_idiv (C : jC p R s m args meth c D cA N0 cc nL own lv) {x y : Int32} (d : decode cc pc = .ok (.idiv, 1)) (hy : ¬ y = 0) (kk : jJ p l e R s m args below meth c D cA N0 nL Qf Z Sh I P L k n (pc + 1) ls (.int (x / y) :: st)) : jJ p l e R s m args below meth c D cA N0 nL Qf Z Sh I P L k n pc ls (.int y :: .int x :: st) :=
  fun H locs arr hW hZ hS hl => lv_idiv C.1 C.2.1 d hy (kk H locs arr hW hZ hS hl)
theorem jx_irem (C : jC p R s m args meth c D cA N0 cc nL own lv) {x y : Int32} (d : decode cc pc = .ok (.irem, 1)) (hy : ¬ y = 0) (kk : jJ p l e R s m args below meth c D cA N0 nL Qf Z Sh I P L k n (pc + 1) ls (.int (x - x / y * y) :: st)) : jJ p l e R s m args below meth c D cA N0 nL Qf Z Sh I P L k n pc ls (.int y :: .int x :: st) :=
  fun H locs arr hW hZ hS hl => lv_irem C.1 C.2.1 d hy (kk H locs arr hW hZ hS hl)
theorem jx_ineg (C : jC p R s m args meth c D cA N0 cc nL own lv) {x : Int32} (d : decode cc pc = .ok (.ineg, 1))  (kk : jJ p l e R s m args below meth c D cA N0 nL Qf Z Sh I P L k n (pc + 1) ls (.int (-x) :: st)) : jJ p l e R s m args below meth c D cA N0 nL Qf Z Sh I P L k n pc ls (.int x :: st) :=
  fun H locs arr hW hZ hS hl => lv_ineg C.1 C.2.1 d  (kk H locs arr hW hZ hS hl)
theorem jx_ladd (C : jC p R s m args meth c D cA N0 cc nL own lv) {x y : Int64} (d : decode cc pc = .ok (.ladd, 1))  (kk : jJ p l e R s m args below meth c D cA N0 nL Qf Z Sh I P L k n (pc + 1) ls (.long (x + y) :: st)) : jJ p l e R s m args below meth c D cA N0 nL Qf Z Sh I P L k n pc ls (.long y :: .long x :: st) :=
  fun H locs arr hW hZ hS hl => lv_ladd C.1 C.2.1 d  (kk H locs arr hW hZ hS hl)
theorem jx_lsub (C : jC p R s m args meth c D cA N0 cc nL own lv) {x y : Int64} (d : decode cc pc = .ok (.lsub, 1))  (kk : jJ p l e R s m args below meth c D cA N0 nL Qf Z Sh I P L k n (pc + 1) ls (.long (x - y) :: st)) : jJ p l e R s m args below meth c D cA N0 nL Qf Z Sh I P L k n pc ls (.long y :: .long x :: st) :=
  fun H locs arr hW hZ hS hl => lv_lsub C.1 C.2.1 d  (kk H locs arr hW hZ hS hl)
theorem jx_lmul (C : jC p R s m args meth c D cA N0 cc nL own lv) {x y : Int64} (d : decode cc pc = .ok (.lmul, 1))  (kk : jJ p l e R s m args below meth c D cA N0 nL Qf Z Sh I P L k n (pc + 1) ls (.long (x * y) :: st)) : jJ p l e R s m args below meth c D cA N0 nL Qf Z Sh I P L k n pc ls (.long y :: .long x :: st) :=
  fun H locs arr hW hZ hS hl => lv_lmul C.1 C.2.1 d  (kk H locs arr hW hZ hS hl)
theorem jx_ldiv (C : jC p R s m args meth c D cA N0 cc nL own lv) {x y : Int64} (d : decode cc pc = .ok (.ldiv, 1)) (hy : ¬ y = 0) (kk : jJ p l e R s m args below meth c D cA N0 nL Qf Z Sh I P L k n (pc + 1) ls (.long (x / y) :: st)) : jJ p l e R s m args below meth c D cA N0 nL Qf Z Sh I P L k n pc ls (.long y :: .long x :: st) :=
  fun H locs arr hW hZ hS hl => lv_ldiv C.1 C.2.1 d hy (kk H locs arr hW hZ hS hl)
theorem jx_i2l (C : jC p R s m args meth c D cA N0 cc nL own lv) {x : Int32} (d : decode cc pc = .ok (.i2l, 1))  (kk : jJ p l e R s m args below meth c D cA N0 nL Qf Z Sh I P L k n (pc + 1) ls (.long x.toInt64 :: st)) : jJ p l e R s m args below meth c D cA N0 nL Qf Z Sh I P L k n pc ls (.int x :: st) :=
  fun H locs arr hW hZ hS hl => lv_i2l C.1 C.2.1 d rfl (kk H locs arr hW hZ hS hl)
theorem jx_l2i (C : jC p R s m args meth c D cA N0 cc nL own lv) {x : Int64} (d : decode cc pc = .ok (.l2i, 1))  (kk : jJ p l e R s m args below meth c D cA N0 nL Qf Z Sh I P L k n (pc + 1) ls (.int x.toInt32 :: st)) : jJ p l e R s m args below meth c D cA N0 nL Qf Z Sh I P L k n pc ls (.long x :: st) :=
  fun H locs arr hW hZ hS hl => lv_l2i C.1 C.2.1 d rfl (kk H locs arr hW hZ hS hl)
theorem jx_lshl (C : jC p R s m args meth c D cA N0 cc nL own lv) {x : Int64} {y : Int32} (d : decode cc pc = .ok (.lshl, 1))  (kk : jJ p l e R s m args below meth c D cA N0 nL Qf Z Sh I P L k n (pc + 1) ls (.long (x <<< (y.toInt64 &&& 63)) :: st)) : jJ p l e R s m args below meth c D cA N0 nL Qf Z Sh I P L k n pc ls (.int y :: .long x :: st) :=
  fun H locs arr hW hZ hS hl => lv_lshl C.1 C.2.1 d rfl (kk H locs arr hW hZ hS hl)
theorem jx_lcmp (C : jC p R s m args meth c D cA N0 cc nL own lv) {x y : Int64} (d : decode cc pc = .ok (.lcmp, 1))  (kk : jJ p l e R s m args below meth c D cA N0 nL Qf Z Sh I P L k n (pc + 1) ls (.int (lg_cmp x y) :: st)) : jJ p l e R s m args below meth c D cA N0 nL Qf Z Sh I P L k n pc ls (.long y :: .long x :: st) :=
  fun H locs arr hW hZ hS hl => W.lcmp C.1 C.2.1 d  (kk H locs arr hW hZ hS hl)
theorem jx_dcmp (C : jC p R s m args meth c D cA N0 cc nL own lv) {x y : UInt64} {q : CmpOp} (d : decode cc pc = .ok (.dcmp q, 1))  (kk : jJ p l e R s m args below meth c D cA N0 nL Qf Z Sh I P L k n (pc + 1) ls (.int (Op.cmpValue (FP.dcmp x y) q) :: st)) : jJ p l e R s m args below meth c D cA N0 nL Qf Z Sh I P L k n pc ls (.double y :: .double x :: st) :=
  fun H locs arr hW hZ hS hl => lv_dcmp C.1 C.2.1 d  (kk H locs arr hW hZ hS hl)
theorem jx_dsub (C : jC p R s m args meth c D cA N0 cc nL own lv) {x y : UInt64} (d : decode cc pc = .ok (.dsub, 1)) (hy : vf_n64 (FP.dsub x y)) (kk : jJ p l e R s m args below meth c D cA N0 nL Qf Z Sh I P L k n (pc + 1) ls (.double (FP.dsub x y) :: st)) : jJ p l e R s m args below meth c D cA N0 nL Qf Z Sh I P L k n pc ls (.double y :: .double x :: st) :=
  fun H locs arr hW hZ hS hl => lv_dsub C.1 C.2.1 d hy (kk H locs arr hW hZ hS hl)
theorem jx_dmul (C : jC p R s m args meth c D cA N0 cc nL own lv) {x y : UInt64} (d : decode cc pc = .ok (.dmul, 1)) (hy : vf_n64 (FP.dmul x y)) (kk : jJ p l e R s m args below meth c D cA N0 nL Qf Z Sh I P L k n (pc + 1) ls (.double (FP.dmul x y) :: st)) : jJ p l e R s m args below meth c D cA N0 nL Qf Z Sh I P L k n pc ls (.double y :: .double x :: st) :=
  fun H locs arr hW hZ hS hl => lv_dmul C.1 C.2.1 d hy (kk H locs arr hW hZ hS hl)
theorem jx_ddiv (C : jC p R s m args meth c D cA N0 cc nL own lv) {x y : UInt64} (d : decode cc pc = .ok (.ddiv, 1)) (hy : vf_n64 (FP.ddiv x y)) (kk : jJ p l e R s m args below meth c D cA N0 nL Qf Z Sh I P L k n (pc + 1) ls (.double (FP.ddiv x y) :: st)) : jJ p l e R s m args below meth c D cA N0 nL Qf Z Sh I P L k n pc ls (.double y :: .double x :: st) :=
  fun H locs arr hW hZ hS hl => lv_ddiv C.1 C.2.1 d hy (kk H locs arr hW hZ hS hl)
theorem jx_i2d (C : jC p R s m args meth c D cA N0 cc nL own lv) {x : Int32} (d : decode cc pc = .ok (.i2d, 1))  (kk : jJ p l e R s m args below meth c D cA N0 nL Qf Z Sh I P L k n (pc + 1) ls (.double (FP.i2d x) :: st)) : jJ p l e R s m args below meth c D cA N0 nL Qf Z Sh I P L k n pc ls (.int x :: st) :=
  fun H locs arr hW hZ hS hl => lv_i2d C.1 C.2.1 d  (kk H locs arr hW hZ hS hl)
theorem jx_d2l (C : jC p R s m args meth c D cA N0 cc nL own lv) {x : UInt64} (d : decode cc pc = .ok (.d2l, 1))  (kk : jJ p l e R s m args below meth c D cA N0 nL Qf Z Sh I P L k n (pc + 1) ls (.long (FP.d2l x) :: st)) : jJ p l e R s m args below meth c D cA N0 nL Qf Z Sh I P L k n pc ls (.double x :: st) :=
  fun H locs arr hW hZ hS hl => lv_d2l C.1 C.2.1 d  (kk H locs arr hW hZ hS hl)
theorem jx_dup (C : jC p R s m args meth c D cA N0 cc nL own lv) {x : Value} (d : decode cc pc = .ok (.dup, 1)) (hx : x.category = 1) (kk : jJ p l e R s m args below meth c D cA N0 nL Qf Z Sh I P L k n (pc + 1) ls (x :: x :: st)) : jJ p l e R s m args below meth c D cA N0 nL Qf Z Sh I P L k n pc ls (x :: st) :=
  fun H locs arr hW hZ hS hl => lv_dup C.1 C.2.1 d hx (kk H locs arr hW hZ hS hl)
theorem jx_pop (C : jC p R s m args meth c D cA N0 cc nL own lv) {x : Value} (d : decode cc pc = .ok (.pop, 1)) (hx : x.category = 1) (kk : jJ p l e R s m args below meth c D cA N0 nL Qf Z Sh I P L k n (pc + 1) ls (st)) : jJ p l e R s m args below meth c D cA N0 nL Qf Z Sh I P L k n pc ls (x :: st) :=
  fun H locs arr hW hZ hS hl => lv_pop C.1 C.2.1 d hx (kk H locs arr hW hZ hS hl)
theorem jx_dup2_11 (C : jC p R s m args meth c D cA N0 cc nL own lv) {x y : Value} (d : decode cc pc = .ok (.dup2, 1)) (hx : x.category = 1) (hy : y.category = 1) (kk : jJ p l e R s m args below meth c D cA N0 nL Qf Z Sh I P L k n (pc + 1) ls (x :: y :: x :: y :: st)) : jJ p l e R s m args below meth c D cA N0 nL Qf Z Sh I P L k n pc ls (x :: y :: st) :=
  fun H locs arr hW hZ hS hl => lv_dup2_11 C.1 C.2.1 d hx hy (kk H locs arr hW hZ hS hl)
theorem jx_ifnull (C : jC p R s m args meth c D cA N0 cc nL own lv) {q : Int} {x : Nat} (d : decode cc pc = .ok (.ifnull q, 3))  (kk : jJ p l e R s m args below meth c D cA N0 nL Qf Z Sh I P L k n (pc + 3) ls (st)) : jJ p l e R s m args below meth c D cA N0 nL Qf Z Sh I P L k n pc ls (.ref x :: st) :=
  fun H locs arr hW hZ hS hl => lv_ifnull C.1 C.2.1 d  (kk H locs arr hW hZ hS hl)
theorem jx_ifnonnullN (C : jC p R s m args meth c D cA N0 cc nL own lv) {q : Int} (d : decode cc pc = .ok (.ifnonnull q, 3))  (kk : jJ p l e R s m args below meth c D cA N0 nL Qf Z Sh I P L k n (pc + 3) ls (st)) : jJ p l e R s m args below meth c D cA N0 nL Qf Z Sh I P L k n pc ls (.null :: st) :=
  fun H locs arr hW hZ hS hl => lv_ifnonnullN C.1 C.2.1 d  (kk H locs arr hW hZ hS hl)
theorem jx_goto (C : jC p R s m args meth c D cA N0 cc nL own lv)  {q : Int} {tgt : Nat} (d : decode cc pc = .ok (.goto q, 3)) (ht : (pc : Int) + q = (tgt : Int)) (kk : jJ p l e R s m args below meth c D cA N0 nL Qf Z Sh I P L k n tgt ls st) : jJ p l e R s m args below meth c D cA N0 nL Qf Z Sh I P L k n pc ls (st) :=
  fun H locs arr hW hZ hS hl => lv_goto C.1 C.2.1 d ht (kk H locs arr hW hZ hS hl)
theorem jx_ifnonnull (C : jC p R s m args meth c D cA N0 cc nL own lv) {x : Nat} {q : Int} {tgt : Nat} (d : decode cc pc = .ok (.ifnonnull q, 3)) (ht : (pc : Int) + q = (tgt : Int)) (kk : jJ p l e R s m args below meth c D cA N0 nL Qf Z Sh I P L k n tgt ls st) : jJ p l e R s m args below meth c D cA N0 nL Qf Z Sh I P L k n pc ls (.ref x :: st) :=
  fun H locs arr hW hZ hS hl => lv_ifnonnull C.1 C.2.1 d ht (kk H locs arr hW hZ hS hl)
theorem jx_ifnullN (C : jC p R s m args meth c D cA N0 cc nL own lv)  {q : Int} {tgt : Nat} (d : decode cc pc = .ok (.ifnull q, 3)) (ht : (pc : Int) + q = (tgt : Int)) (kk : jJ p l e R s m args below meth c D cA N0 nL Qf Z Sh I P L k n tgt ls st) : jJ p l e R s m args below meth c D cA N0 nL Qf Z Sh I P L k n pc ls (.null :: st) :=
  fun H locs arr hW hZ hS hl => lv_ifnullN C.1 C.2.1 d ht (kk H locs arr hW hZ hS hl)
theorem jx_if_eq (C : jC p R s m args meth c D cA N0 cc nL own lv) {x : Int32} {q : Int} {tgt : Nat} (d : decode cc pc = .ok (.ifCond .eq q, 3)) (ht : (pc : Int) + q = (tgt : Int)) (kt : x = 0 → jJ p l e R s m args below meth c D cA N0 nL Qf Z Sh I P L k n tgt ls st) (kf : ¬ x = 0 → jJ p l e R s m args below meth c D cA N0 nL Qf Z Sh I P L k n (pc + 3) ls st) : jJ p l e R s m args below meth c D cA N0 nL Qf Z Sh I P L k n pc ls (.int x :: st) :=
  fun H locs arr hW hZ hS hl => lv_if_eq C.1 C.2.1 d ht (fun h => kt h H locs arr hW hZ hS hl) (fun h => kf h H locs arr hW hZ hS hl)
theorem jx_icmp_eq (C : jC p R s m args meth c D cA N0 cc nL own lv) {x y : Int32} {q : Int} {tgt : Nat} (d : decode cc pc = .ok (.if_icmp .eq q, 3)) (ht : (pc : Int) + q = (tgt : Int)) (kt : x = y → jJ p l e R s m args below meth c D cA N0 nL Qf Z Sh I P L k n tgt ls st) (kf : ¬ x = y → jJ p l e R s m args below meth c D cA N0 nL Qf Z Sh I P L k n (pc + 3) ls st) : jJ p l e R s m args below meth c D cA N0 nL Qf Z Sh I P L k n pc ls (.int y :: .int x :: st) :=
  fun H locs arr hW hZ hS hl => lv_icmp_eq C.1 C.2.1 d ht (fun h => kt h H locs arr hW hZ hS hl) (fun h => kf h H locs arr hW hZ hS hl)
theorem jx_if_ne (C : jC p R s m args meth c D cA N0 cc nL own lv) {x : Int32} {q : Int} {tgt : Nat} (d : decode cc pc = .ok (.ifCond .ne q, 3)) (ht : (pc : Int) + q = (tgt : Int)) (kt : ¬ x = 0 → jJ p l e R s m args below meth c D cA N0 nL Qf Z Sh I P L k n tgt ls st) (kf : x = 0 → jJ p l e R s m args below meth c D cA N0 nL Qf Z Sh I P L k n (pc + 3) ls st) : jJ p l e R s m args below meth c D cA N0 nL Qf Z Sh I P L k n pc ls (.int x :: st) :=
  fun H locs arr hW hZ hS hl => lv_if_ne C.1 C.2.1 d ht (fun h => kt h H locs arr hW hZ hS hl) (fun h => kf h H locs arr hW hZ hS hl)
theorem jx_icmp_ne (C : jC p R s m args meth c D cA N0 cc nL own lv) {x y : Int32} {q : Int} {tgt : Nat} (d : decode cc pc = .ok (.if_icmp .ne q, 3)) (ht : (pc : Int) + q = (tgt : Int)) (kt : ¬ x = y → jJ p l e R s m args below meth c D cA N0 nL Qf Z Sh I P L k n tgt ls st) (kf : x = y → jJ p l e R s m args below meth c D cA N0 nL Qf Z Sh I P L k n (pc + 3) ls st) : jJ p l e R s m args below meth c D cA N0 nL Qf Z Sh I P L k n pc ls (.int y :: .int x :: st) :=
  fun H locs arr hW hZ hS hl => lv_icmp_ne C.1 C.2.1 d ht (fun h => kt h H locs arr hW hZ hS hl) (fun h => kf h H locs arr hW hZ hS hl)
theorem jx_if_lt (C : jC p R s m args meth c D cA N0 cc nL own lv) {x : Int32} {q : Int} {tgt : Nat} (d : decode cc pc = .ok (.ifCond .lt q, 3)) (ht : (pc : Int) + q = (tgt : Int)) (kt : x < 0 → jJ p l e R s m args below meth c D cA N0 nL Qf Z Sh I P L k n tgt ls st) (kf : ¬ x < 0 → jJ p l e R s m args below meth c D cA N0 nL Qf Z Sh I P L k n (pc + 3) ls st) : jJ p l e R s m args below meth c D cA N0 nL Qf Z Sh I P L k n pc ls (.int x :: st) :=
  fun H locs arr hW hZ hS hl => lv_if_lt C.1 C.2.1 d ht (fun h => kt h H locs arr hW hZ hS hl) (fun h => kf h H locs arr hW hZ hS hl)
theorem jx_icmp_lt (C : jC p R s m args meth c D cA N0 cc nL own lv) {x y : Int32} {q : Int} {tgt : Nat} (d : decode cc pc = .ok (.if_icmp .lt q, 3)) (ht : (pc : Int) + q = (tgt : Int)) (kt : x < y → jJ p l e R s m args below meth c D cA N0 nL Qf Z Sh I P L k n tgt ls st) (kf : ¬ x < y → jJ p l e R s m args below meth c D cA N0 nL Qf Z Sh I P L k n (pc + 3) ls st) : jJ p l e R s m args below meth c D cA N0 nL Qf Z Sh I P L k n pc ls (.int y :: .int x :: st) :=
  fun H locs arr hW hZ hS hl => lv_icmp_lt C.1 C.2.1 d ht (fun h => kt h H locs arr hW hZ hS hl) (fun h => kf h H locs arr hW hZ hS hl)
theorem jx_if_ge (C : jC p R s m args meth c D cA N0 cc nL own lv) {x : Int32} {q : Int} {tgt : Nat} (d : decode cc pc = .ok (.ifCond .ge q, 3)) (ht : (pc : Int) + q = (tgt : Int)) (kt : 0 ≤ x → jJ p l e R s m args below meth c D cA N0 nL Qf Z Sh I P L k n tgt ls st) (kf : ¬ 0 ≤ x → jJ p l e R s m args below meth c D cA N0 nL Qf Z Sh I P L k n (pc + 3) ls st) : jJ p l e R s m args below meth c D cA N0 nL Qf Z Sh I P L k n pc ls (.int x :: st) :=
  fun H locs arr hW hZ hS hl => lv_if_ge C.1 C.2.1 d ht (fun h => kt h H locs arr hW hZ hS hl) (fun h => kf h H locs arr hW hZ hS hl)
theorem jx_icmp_ge (C : jC p R s m args meth c D cA N0 cc nL own lv) {x y : Int32} {q : Int} {tgt : Nat} (d : decode cc pc = .ok (.if_icmp .ge q, 3)) (ht : (pc : Int) + q = (tgt : Int)) (kt : y ≤ x → jJ p l e R s m args below meth c D cA N0 nL Qf Z Sh I P L k n tgt ls st) (kf : ¬ y ≤ x → jJ p l e R s m args below meth c D cA N0 nL Qf Z Sh I P L k n (pc + 3) ls st) : jJ p l e R s m args below meth c D cA N0 nL Qf Z Sh I P L k n pc ls (.int y :: .int x :: st) :=
  fun H locs arr hW hZ hS hl => lv_icmp_ge C.1 C.2.1 d ht (fun h => kt h H locs arr hW hZ hS hl) (fun h => kf h H locs arr hW hZ hS hl)
theorem jx_if_gt (C : jC p R s m args meth c D cA N0 cc nL own lv) {x : Int32} {q : Int} {tgt : Nat} (d : decode cc pc = .ok (.ifCond .gt q, 3)) (ht : (pc : Int) + q = (tgt : Int)) (kt : 0 < x → jJ p l e R s m args below meth c D cA N0 nL Qf Z Sh I P L k n tgt ls st) (kf : ¬ 0 < x → jJ p l e R s m args below meth c D cA N0 nL Qf Z Sh I P L k n (pc + 3) ls st) : jJ p l e R s m args below meth c D cA N0 nL Qf Z Sh I P L k n pc ls (.int x :: st) :=
  fun H locs arr hW hZ hS hl => lv_if_gt C.1 C.2.1 d ht (fun h => kt h H locs arr hW hZ hS hl) (fun h => kf h H locs arr hW hZ hS hl)
theorem jx_icmp_gt (C : jC p R s m args meth c D cA N0 cc nL own lv) {x y : Int32} {q : Int} {tgt : Nat} (d : decode cc pc = .ok (.if_icmp .gt q, 3)) (ht : (pc : Int) + q = (tgt : Int)) (kt : y < x → jJ p l e R s m args below meth c D cA N0 nL Qf Z Sh I P L k n tgt ls st) (kf : ¬ y < x → jJ p l e R s m args below meth c D cA N0 nL Qf Z Sh I P L k n (pc + 3) ls st) : jJ p l e R s m args below meth c D cA N0 nL Qf Z Sh I P L k n pc ls (.int y :: .int x :: st) :=
  fun H locs arr hW hZ hS hl => lv_icmp_gt C.1 C.2.1 d ht (fun h => kt h H locs arr hW hZ hS hl) (fun h => kf h H locs arr hW hZ hS hl)
theorem jx_if_le (C : jC p R s m args meth c D cA N0 cc nL own lv) {x : Int32} {q : Int} {tgt : Nat} (d : decode cc pc = .ok (.ifCond .le q, 3)) (ht : (pc : Int) + q = (tgt : Int)) (kt : x ≤ 0 → jJ p l e R s m args below meth c D cA N0 nL Qf Z Sh I P L k n tgt ls st) (kf : ¬ x ≤ 0 → jJ p l e R s m args below meth c D cA N0 nL Qf Z Sh I P L k n (pc + 3) ls st) : jJ p l e R s m args below meth c D cA N0 nL Qf Z Sh I P L k n pc ls (.int x :: st) :=
  fun H locs arr hW hZ hS hl => lv_if_le C.1 C.2.1 d ht (fun h => kt h H locs arr hW hZ hS hl) (fun h => kf h H locs arr hW hZ hS hl)
theorem jx_icmp_le (C : jC p R s m args meth c D cA N0 cc nL own lv) {x y : Int32} {q : Int} {tgt : Nat} (d : decode cc pc = .ok (.if_icmp .le q, 3)) (ht : (pc : Int) + q = (tgt : Int)) (kt : x ≤ y → jJ p l e R s m args below meth c D cA N0 nL Qf Z Sh I P L k n tgt ls st) (kf : ¬ x ≤ y → jJ p l e R s m args below meth c D cA N0 nL Qf Z Sh I P L k n (pc + 3) ls st) : jJ p l e R s m args below meth c D cA N0 nL Qf Z Sh I P L k n pc ls (.int y :: .int x :: st) :=
  fun H locs arr hW hZ hS hl => lv_icmp_le C.1 C.2.1 d ht (fun h => kt h H locs arr hW hZ hS hl) (fun h => kf h H locs arr hW hZ hS hl)
theorem jx_acmp_eq (C : jC p R s m args meth c D cA N0 cc nL own lv) {rx ry : Option Nat} {q : Int} {tgt : Nat} (d : decode cc pc = .ok (.if_acmp .eq q, 3)) (ht : (pc : Int) + q = (tgt : Int)) (kt : rx = ry → jJ p l e R s m args below meth c D cA N0 nL Qf Z Sh I P L k n tgt ls st) (kf : ¬ rx = ry → jJ p l e R s m args below meth c D cA N0 nL Qf Z Sh I P L k n (pc + 3) ls st) : jJ p l e R s m args below meth c D cA N0 nL Qf Z Sh I P L k n pc ls (va_rf ry :: va_rf rx :: st) :=
  fun H locs arr hW hZ hS hl => lv_acmp_eq C.1 C.2.1 d ht (fun h => kt h H locs arr hW hZ hS hl) (fun h => kf h H locs arr hW hZ hS hl)
theorem jx_acmp_ne (C : jC p R s m args meth c D cA N0 cc nL own lv) {rx ry : Option Nat} {q : Int} {tgt : Nat} (d : decode cc pc = .ok (.if_acmp .ne q, 3)) (ht : (pc : Int) + q = (tgt : Int)) (kt : ¬ rx = ry → jJ p l e R s m args below meth c D cA N0 nL Qf Z Sh I P L k n tgt ls st) (kf : rx = ry → jJ p l e R s m args below meth c D cA N0 nL Qf Z Sh I P L k n (pc + 3) ls st) : jJ p l e R s m args below meth c D cA N0 nL Qf Z Sh I P L k n pc ls (va_rf ry :: va_rf rx :: st) :=
  fun H locs arr hW hZ hS hl => lv_acmp_ne C.1 C.2.1 d ht (fun h => kt h H locs arr hW hZ hS hl) (fun h => kf h H locs arr hW hZ hS hl)
theorem jx_ldc (C : jC p R s m args meth c D cA N0 cc nL own lv) {q : Nat} {v : Int32} (w : Jvm.Cond.constant own q v ∈ jWS) (d : decode cc pc = .ok (.ldc q, 2)) (kk : jJ p l e R s m args below meth c D cA N0 nL Qf Z Sh I P L k n (pc + 2) ls (.int v :: st)) : jJ p l e R s m args below meth c D cA N0 nL Qf Z Sh I P L k n pc ls st :=
  fun H locs arr hW hZ hS hl => lv_ldc C.1 C.2.1 C.2.2.2.1 (C.2.2.2.2.1 _ w) d (kk H locs arr hW hZ hS hl)
theorem jx_ldc2 (C : jC p R s m args meth c D cA N0 cc nL own lv) {q : Nat} {v : Int64} (w : Jvm.Cond.constantLong own q v ∈ jWS) (d : decode cc pc = .ok (.ldc2_w q, 3)) (kk : jJ p l e R s m args below meth c D cA N0 nL Qf Z Sh I P L k n (pc + 3) ls (.long v :: st)) : jJ p l e R s m args below meth c D cA N0 nL Qf Z Sh I P L k n pc ls st :=
  fun H locs arr hW hZ hS hl => lv_ldc2 C.1 C.2.1 C.2.2.2.1 (C.2.2.2.2.1 _ w) d (kk H locs arr hW hZ hS hl)
theorem jx_ldc2d (C : jC p R s m args meth c D cA N0 cc nL own lv) {q : Nat} {v : UInt64} (w : Jvm.Cond.constantDouble own q v ∈ jWS) (d : decode cc pc = .ok (.ldc2_w q, 3)) (kk : jJ p l e R s m args below meth c D cA N0 nL Qf Z Sh I P L k n (pc + 3) ls (.double v :: st)) : jJ p l e R s m args below meth c D cA N0 nL Qf Z Sh I P L k n pc ls st :=
  fun H locs arr hW hZ hS hl => lv_ldc2d C.1 C.2.1 C.2.2.2.1 (C.2.2.2.2.1 _ w) d (kk H locs arr hW hZ hS hl)
theorem jx_tableOut (C : jC p R s m args meth c D cA N0 cc nL own lv) {dflt lo hi : Int} {offs : Array Int} {len : Nat} {x : Int32} {tgt : Nat} (d : decode cc pc = .ok (.tableswitch dflt lo hi offs, len)) (h : x.toInt < lo ∨ hi < x.toInt) (ht : (pc : Int) + dflt = (tgt : Int)) (kk : jJ p l e R s m args below meth c D cA N0 nL Qf Z Sh I P L k n tgt ls st) : jJ p l e R s m args below meth c D cA N0 nL Qf Z Sh I P L k n pc ls (.int x :: st) :=
  fun H locs arr hW hZ hS hl => lv_tableOut C.1 C.2.1 d h ht (kk H locs arr hW hZ hS hl)
theorem jx_tableIn (C : jC p R s m args meth c D cA N0 cc nL own lv) {dflt lo hi : Int} {offs : Array Int} {len : Nat} {x : Int32} {off : Int} {tgt : Nat} (d : decode cc pc = .ok (.tableswitch dflt lo hi offs, len)) (h1 : ¬ x.toInt < lo) (h2 : ¬ hi < x.toInt) (ho : offs[(x.toInt - lo).toNat]? = some off) (ht : (pc : Int) + off = (tgt : Int)) (kk : jJ p l e R s m args below meth c D cA N0 nL Qf Z Sh I P L k n tgt ls st) : jJ p l e R s m args below meth c D cA N0 nL Qf Z Sh I P L k n pc ls (.int x :: st) :=
  fun H locs arr hW hZ hS hl => lv_tableIn C.1 C.2.1 d h1 h2 ho ht (kk H locs arr hW hZ hS hl)
theorem jx_lookup (C : jC p R s m args meth c D cA N0 cc nL own lv) {dflt : Int} {ps : Array (Int × Int)} {len : Nat} {x : Int32} {off : Int} {tgt : Nat} (d : decode cc pc = .ok (.lookupswitch dflt ps, len)) (hp : (ps.toList.zip (ps.toList.drop 1)).all (fun (a, next) => a.1 < next.1) = true) (ho : Op.lookupswitch.offset ps.toList dflt x.toInt = off) (ht : (pc : Int) + off = (tgt : Int)) (kk : jJ p l e R s m args below meth c D cA N0 nL Qf Z Sh I P L k n tgt ls st) : jJ p l e R s m args below meth c D cA N0 nL Qf Z Sh I P L k n pc ls (.int x :: st) :=
  fun H locs arr hW hZ hS hl => lv_lookup C.1 C.2.1 d hp ho ht (kk H locs arr hW hZ hS hl)
theorem jx_locals {ls' : List (Option Value)} (hm : ∀ (i : Nat) (v : Value), ls'[i]? = some (some v) → ls[i]? = some (some v)) (kk : jJ p l e R s m args below meth c D cA N0 nL Qf Z Sh I P L k n pc ls' st) : jJ p l e R s m args below meth c D cA N0 nL Qf Z Sh I P L k n pc ls st :=
  fun H locs arr hW hZ hS hl => kk H locs arr hW hZ hS (hl.mono hm)
theorem jx_sz {Z' : Nat → Prop} (hz : ∀ q, Z q → Z' q) (kk : jJ p l e R s m args below meth c D cA N0 nL Qf Z' Sh I P L k n pc ls st) : jJ p l e R s m args below meth c D cA N0 nL Qf Z Sh I P L k n pc ls st :=
  fun H locs arr hW hZ hS hl => kk H locs arr hW (hz _ hZ) hS hl
theorem jx_widen {k' n' : Nat} (hk : k ≤ k') (hn : n ≤ n') (kk : jJ p l e R s m args below meth c D cA N0 nL Qf Z Sh I P L k' n' pc ls st) : jJ p l e R s m args below meth c D cA N0 nL Qf Z Sh I P L k n pc ls st :=
  fun H locs arr hW hZ hS hl => W.widen hk hn (kk H locs arr hW hZ hS hl)
end JR
theorem jcat {v : Value} (h : v.category = 1) : ∀ w : Value, (some v : Option Value) = some w → w.category = 1 := fun w e => by cases e; exact h
theorem jset_0 {x : Option Value} {t : List (Option Value)} {v : Value} : jset (x :: t) 0 v (some v :: t) := ⟨by simp, rfl, fun w h0 _ => absurd h0 (Nat.lt_irrefl 0)⟩
theorem jsetw_0 {x y : Option Value} {t : List (Option Value)} {v : Value} : jset2 (x :: y :: t) 0 v (some v :: none :: t) := ⟨by simp, rfl, fun w h0 _ => absurd h0 (Nat.lt_irrefl 0)⟩
theorem jset_1 {a x : Option Value} {t : List (Option Value)} {v : Value} (hp : ∀ w : Value, a = some w → w.category = 1) : jset (a :: x :: t) 1 v (a :: some v :: t) := ⟨by simp, rfl, fun w _ h => hp w (Option.some.inj h)⟩
theorem jsetw_1 {a x y : Option Value} {t : List (Option Value)} {v : Value} (hp : ∀ w : Value, a = some w → w.category = 1) : jset2 (a :: x :: y :: t) 1 v (a :: some v :: none :: t) := ⟨by simp, rfl, fun w _ h => hp w (Option.some.inj h)⟩
theorem jset_2 {a b x : Option Value} {t : List (Option Value)} {v : Value} (hp : ∀ w : Value, b = some w → w.category = 1) : jset (a :: b :: x :: t) 2 v (a :: b :: some v :: t) := ⟨by simp, rfl, fun w _ h => hp w (Option.some.inj h)⟩
theorem jsetw_2 {a b x y : Option Value} {t : List (Option Value)} {v : Value} (hp : ∀ w : Value, b = some w → w.category = 1) : jset2 (a :: b :: x :: y :: t) 2 v (a :: b :: some v :: none :: t) := ⟨by simp, rfl, fun w _ h => hp w (Option.some.inj h)⟩
theorem jset_3 {a b c x : Option Value} {t : List (Option Value)} {v : Value} (hp : ∀ w : Value, c = some w → w.category = 1) : jset (a :: b :: c :: x :: t) 3 v (a :: b :: c :: some v :: t) := ⟨by simp, rfl, fun w _ h => hp w (Option.some.inj h)⟩
theorem jsetw_3 {a b c x y : Option Value} {t : List (Option Value)} {v : Value} (hp : ∀ w : Value, c = some w → w.category = 1) : jset2 (a :: b :: c :: x :: y :: t) 3 v (a :: b :: c :: some v :: none :: t) := ⟨by simp, rfl, fun w _ h => hp w (Option.some.inj h)⟩
theorem jset_4 {a b c d x : Option Value} {t : List (Option Value)} {v : Value} (hp : ∀ w : Value, d = some w → w.category = 1) : jset (a :: b :: c :: d :: x :: t) 4 v (a :: b :: c :: d :: some v :: t) := ⟨by simp, rfl, fun w _ h => hp w (Option.some.inj h)⟩
theorem jsetw_4 {a b c d x y : Option Value} {t : List (Option Value)} {v : Value} (hp : ∀ w : Value, d = some w → w.category = 1) : jset2 (a :: b :: c :: d :: x :: y :: t) 4 v (a :: b :: c :: d :: some v :: none :: t) := ⟨by simp, rfl, fun w _ h => hp w (Option.some.inj h)⟩
theorem jset_5 {a b c d e x : Option Value} {t : List (Option Value)} {v : Value} (hp : ∀ w : Value, e = some w → w.category = 1) : jset (a :: b :: c :: d :: e :: x :: t) 5 v (a :: b :: c :: d :: e :: some v :: t) := ⟨by simp, rfl, fun w _ h => hp w (Option.some.inj h)⟩
theorem jsetw_5 {a b c d e x y : Option Value} {t : List (Option Value)} {v : Value} (hp : ∀ w : Value, e = some w → w.category = 1) : jset2 (a :: b :: c :: d :: e :: x :: y :: t) 5 v (a :: b :: c :: d :: e :: some v :: none :: t) := ⟨by simp, rfl, fun w _ h => hp w (Option.some.inj h)⟩
theorem jset_6 {a b c d e f x : Option Value} {t : List (Option Value)} {v : Value} (hp : ∀ w : Value, f = some w → w.category = 1) : jset (a :: b :: c :: d :: e :: f :: x :: t) 6 v (a :: b :: c :: d :: e :: f :: some v :: t) := ⟨by simp, rfl, fun w _ h => hp w (Option.some.inj h)⟩
theorem jsetw_6 {a b c d e f x y : Option Value} {t : List (Option Value)} {v : Value} (hp : ∀ w : Value, f = some w → w.category = 1) : jset2 (a :: b :: c :: d :: e :: f :: x :: y :: t) 6 v (a :: b :: c :: d :: e :: f :: some v :: none :: t) := ⟨by simp, rfl, fun w _ h => hp w (Option.some.inj h)⟩
theorem jset_7 {a b c d e f g x : Option Value} {t : List (Option Value)} {v : Value} (hp : ∀ w : Value, g = some w → w.category = 1) : jset (a :: b :: c :: d :: e :: f :: g :: x :: t) 7 v (a :: b :: c :: d :: e :: f :: g :: some v :: t) := ⟨by simp, rfl, fun w _ h => hp w (Option.some.inj h)⟩
theorem jsetw_7 {a b c d e f g x y : Option Value} {t : List (Option Value)} {v : Value} (hp : ∀ w : Value, g = some w → w.category = 1) : jset2 (a :: b :: c :: d :: e :: f :: g :: x :: y :: t) 7 v (a :: b :: c :: d :: e :: f :: g :: some v :: none :: t) := ⟨by simp, rfl, fun w _ h => hp w (Option.some.inj h)⟩
theorem jset_8 {a b c d e f g h x : Option Value} {t : List (Option Value)} {v : Value} (hp : ∀ w : Value, h = some w → w.category = 1) : jset (a :: b :: c :: d :: e :: f :: g :: h :: x :: t) 8 v (a :: b :: c :: d :: e :: f :: g :: h :: some v :: t) := ⟨by simp, rfl, fun w _ h => hp w (Option.some.inj h)⟩
theorem jsetw_8 {a b c d e f g h x y : Option Value} {t : List (Option Value)} {v : Value} (hp : ∀ w : Value, h = some w → w.category = 1) : jset2 (a :: b :: c :: d :: e :: f :: g :: h :: x :: y :: t) 8 v (a :: b :: c :: d :: e :: f :: g :: h :: some v :: none :: t) := ⟨by simp, rfl, fun w _ h => hp w (Option.some.inj h)⟩
theorem jset_9 {a b c d e f g h i x : Option Value} {t : List (Option Value)} {v : Value} (hp : ∀ w : Value, i = some w → w.category = 1) : jset (a :: b :: c :: d :: e :: f :: g :: h :: i :: x :: t) 9 v (a :: b :: c :: d :: e :: f :: g :: h :: i :: some v :: t) := ⟨by simp, rfl, fun w _ h => hp w (Option.some.inj h)⟩
theorem jsetw_9 {a b c d e f g h i x y : Option Value} {t : List (Option Value)} {v : Value} (hp : ∀ w : Value, i = some w → w.category = 1) : jset2 (a :: b :: c :: d :: e :: f :: g :: h :: i :: x :: y :: t) 9 v (a :: b :: c :: d :: e :: f :: g :: h :: i :: some v :: none :: t) := ⟨by simp, rfl, fun w _ h => hp w (Option.some.inj h)⟩
theorem jset_10 {a b c d e f g h i j x : Option Value} {t : List (Option Value)} {v : Value} (hp : ∀ w : Value, j = some w → w.category = 1) : jset (a :: b :: c :: d :: e :: f :: g :: h :: i :: j :: x :: t) 10 v (a :: b :: c :: d :: e :: f :: g :: h :: i :: j :: some v :: t) := ⟨by simp, rfl, fun w _ h => hp w (Option.some.inj h)⟩
theorem jsetw_10 {a b c d e f g h i j x y : Option Value} {t : List (Option Value)} {v : Value} (hp : ∀ w : Value, j = some w → w.category = 1) : jset2 (a :: b :: c :: d :: e :: f :: g :: h :: i :: j :: x :: y :: t) 10 v (a :: b :: c :: d :: e :: f :: g :: h :: i :: j :: some v :: none :: t) := ⟨by simp, rfl, fun w _ h => hp w (Option.some.inj h)⟩
theorem jset_11 {a b c d e f g h i j k x : Option Value} {t : List (Option Value)} {v : Value} (hp : ∀ w : Value, k = some w → w.category = 1) : jset (a :: b :: c :: d :: e :: f :: g :: h :: i :: j :: k :: x :: t) 11 v (a :: b :: c :: d :: e :: f :: g :: h :: i :: j :: k :: some v :: t) := ⟨by simp, rfl, fun w _ h => hp w (Option.some.inj h)⟩
theorem jsetw_11 {a b c d e f g h i j k x y : Option Value} {t : List (Option Value)} {v : Value} (hp : ∀ w : Value, k = some w → w.category = 1) : jset2 (a :: b :: c :: d :: e :: f :: g :: h :: i :: j :: k :: x :: y :: t) 11 v (a :: b :: c :: d :: e :: f :: g :: h :: i :: j :: k :: some v :: none :: t) := ⟨by simp, rfl, fun w _ h => hp w (Option.some.inj h)⟩
theorem jset_12 {a b c d e f g h i j k l x : Option Value} {t : List (Option Value)} {v : Value} (hp : ∀ w : Value, l = some w → w.category = 1) : jset (a :: b :: c :: d :: e :: f :: g :: h :: i :: j :: k :: l :: x :: t) 12 v (a :: b :: c :: d :: e :: f :: g :: h :: i :: j :: k :: l :: some v :: t) := ⟨by simp, rfl, fun w _ h => hp w (Option.some.inj h)⟩
theorem jsetw_12 {a b c d e f g h i j k l x y : Option Value} {t : List (Option Value)} {v : Value} (hp : ∀ w : Value, l = some w → w.category = 1) : jset2 (a :: b :: c :: d :: e :: f :: g :: h :: i :: j :: k :: l :: x :: y :: t) 12 v (a :: b :: c :: d :: e :: f :: g :: h :: i :: j :: k :: l :: some v :: none :: t) := ⟨by simp, rfl, fun w _ h => hp w (Option.some.inj h)⟩
theorem jset_13 {a b c d e f g h i j k l m x : Option Value} {t : List (Option Value)} {v : Value} (hp : ∀ w : Value, m = some w → w.category = 1) : jset (a :: b :: c :: d :: e :: f :: g :: h :: i :: j :: k :: l :: m :: x :: t) 13 v (a :: b :: c :: d :: e :: f :: g :: h :: i :: j :: k :: l :: m :: some v :: t) := ⟨by simp, rfl, fun w _ h => hp w (Option.some.inj h)⟩
theorem jsetw_13 {a b c d e f g h i j k l m x y : Option Value} {t : List (Option Value)} {v : Value} (hp : ∀ w : Value, m = some w → w.category = 1) : jset2 (a :: b :: c :: d :: e :: f :: g :: h :: i :: j :: k :: l :: m :: x :: y :: t) 13 v (a :: b :: c :: d :: e :: f :: g :: h :: i :: j :: k :: l :: m :: some v :: none :: t) := ⟨by simp, rfl, fun w _ h => hp w (Option.some.inj h)⟩
theorem jc_i {x : Int32} : ∀ w : Value, (some (.int x) : Option Value) = some w → w.category = 1 := fun w e => by cases e; rfl
theorem jc_r {x : Nat} : ∀ w : Value, (some (.ref x) : Option Value) = some w → w.category = 1 := fun w e => by cases e; rfl
theorem jc_z : ∀ w : Value, (some .null : Option Value) = some w → w.category = 1 := fun w e => by cases e; rfl
theorem jc_n : ∀ w : Value, (none : Option Value) = some w → w.category = 1 := fun w e => by cases e
end
section
theorem jws_r {ws : List Cond} (ps : List Nat) (hp : ws = ps.filterMap (fun i => lw_tbl[i]?)) (h : ws.all goodWord = true) : ∀ w ∈ ws, w ∈ jWS := by
  intro w hw
  have h1 := List.all_eq_true.mp h w hw
  rw [hp] at hw
  obtain ⟨i, -, hi⟩ := List.mem_filterMap.mp hw
  exact jWS_in i hi h1
theorem jin_ws0 : ∀ w ∈ u_ws RX0 TX0 13, w ∈ jWS := jws_r [201, 203, 205, 207, 209, 211, 213, 215, 217, 219, 221, 223, 225] (by decide +kernel) (by decide +kernel)
theorem jin_ws1 : ∀ w ∈ u_ws RX1 TX1 8, w ∈ jWS := jws_r [162, 164, 166, 168, 170, 172, 174, 176] (by decide +kernel) (by decide +kernel)
theorem jin_ws2 : ∀ w ∈ u_ws RX2 TX2 4, w ∈ jWS := jws_r [241, 243, 245, 247] (by decide +kernel) (by decide +kernel)
theorem jin_ws3 : ∀ w ∈ u_ws RX3 TX3 9, w ∈ jWS := jws_r [120, 122, 124, 126, 128, 130, 132, 134, 136] (by decide +kernel) (by decide +kernel)
theorem jin_ws4 : ∀ w ∈ u_ws RX4 TX4 1, w ∈ jWS := jws_r [92] (by decide +kernel) (by decide +kernel)
theorem jin_ws5 : ∀ w ∈ u_ws RX5 TX5 8, w ∈ jWS := jws_r [258, 260, 262, 264, 266, 268, 270, 272] (by decide +kernel) (by decide +kernel)
theorem jin_ws6 : ∀ w ∈ u_ws RX6 TX6 13, w ∈ jWS := jws_r [879, 881, 883, 885, 887, 889, 891, 893, 895, 897, 899, 901, 903] (by decide +kernel) (by decide +kernel)
theorem jin_ws {c : Nat} (h : c < 7) : ∀ w ∈ u_ws (jR c) (jT c) (jn c), w ∈ jWS := by
  match c, h with
  | 0, _ => exact jin_ws0
  | 1, _ => exact jin_ws1
  | 2, _ => exact jin_ws2
  | 3, _ => exact jin_ws3
  | 4, _ => exact jin_ws4
  | 5, _ => exact jin_ws5
  | 6, _ => exact jin_ws6
/-- one slot of the memory written -/
def jst (I : jI) (a k : Nat) (x : Int32) : jI := va_up I a (upd (I a) k x)
def jstP (P : jP) (a k : Nat) (x : Option Nat) : jP := va_up P a (va_up (P a) k x)
def jstL (L : jL) (a k : Nat) (x : Int64) : jL := va_up L a (vp_updL (L a) k x)
theorem jst_ne {I : jI} {a k b : Nat} {x : Int32} (h : b ≠ a) : jst I a k x b = I b := by simp [jst, va_up, h]
theorem jstP_ne {P : jP} {a k b : Nat} {x : Option Nat} (h : b ≠ a) : jstP P a k x b = P b := by simp [jstP, va_up, h]
theorem jstL_ne {L : jL} {a k b : Nat} {x : Int64} (h : b ≠ a) : jstL L a k x b = L b := by simp [jstL, va_up, h]
theorem jst_eq {I : jI} {a k : Nat} {x : Int32} : jst I a k x a = upd (I a) k x := by simp [jst, va_up]
theorem jstP_eq {P : jP} {a k : Nat} {x : Option Nat} : jstP P a k x a = va_up (P a) k x := by simp [jstP, va_up]
theorem jstL_eq {L : jL} {a k : Nat} {x : Int64} : jstL L a k x a = vp_updL (L a) k x := by simp [jstL, va_up]
theorem jW.at {D : va_G} {cA : Nat → ClassId} {N0 : Nat} {Sh : jS} {I : jI} {P : jP} {L : jL} {H : Heap} {a : Nat} {q : Nat × Nat} (h : jW D cA N0 Sh I P L H) (hs : Sh a = some q) : va_P D vwCl [(a, jent cA (I a) (P a) (L a) q)] H := by
  intro k x hx
  have hz : k < 1 := (List.getElem?_eq_some_iff.mp hx).1
  rw [show k = 0 by omega] at hx
  cases hx
  exact (h a q hs).2
theorem jmapV {f : Nat → Value} {n k : Nat} (hk : k < n) : vp_V ((List.range n).map f) k = f k := by
  simp [vp_V, List.getD, hk]
theorem jW.obj {D : va_G} {cA : Nat → ClassId} {N0 : Nat} {Sh : jS} {I : jI} {P : jP} {L : jL} {H : Heap} {a c n : Nat} (h : jW D cA N0 Sh I P L H) (hc : c < 7) (hs : Sh a = some (c, n)) : t_OB a (D.1 c) (jn c) (D.2 c) H (jfv c (I a) (P a)) := by
  have h1 := (h a _ hs).2
  rw [jent_c hc] at h1
  obtain ⟨r, e1, e2⟩ := h1
  have hr : r = (jR c, jT c, jn c) := Option.some.inj (e1.symm.trans (jcl hc))
  subst hr
  exact e2.to (fun j hj => jmapV hj)
theorem jW.lt {D : va_G} {cA : Nat → ClassId} {N0 : Nat} {Sh : jS} {I : jI} {P : jP} {L : jL} {H : Heap} {a : Nat} {q : Nat × Nat} (h : jW D cA N0 Sh I P L H) (hs : Sh a = some q) : a < H.size := (h a q hs).2.lt
/-- other cells stay, the cell a is as the new rows say -/
theorem jW.put {D : va_G} {cA : Nat → ClassId} {N0 : Nat} {Sh : jS} {I I' : jI} {P P' : jP} {L L' : jL} {H H' : Heap} {a : Nat} {q : Nat × Nat} (h : jW D cA N0 Sh I P L H) (hs : Sh a = some q) (he : va_at D vwCl (a, jent cA (I' a) (P' a) (L' a) q) H') (ho : ∀ b : Nat, b ≠ a → H'[b]? = H[b]?) (hI : ∀ b, b ≠ a → I' b = I b) (hP : ∀ b, b ≠ a → P' b = P b) (hL : ∀ b, b ≠ a → L' b = L b) : jW D cA N0 Sh I' P' L' H' := by
  intro b r hb
  refine ⟨(h b r hb).1, ?_⟩
  by_cases hba : b = a
  · subst hba
    cases hs.symm.trans hb
    exact he
  · rw [hI b hba, hP b hba, hL b hba]
    exact (h b r hb).2.kept (ho b hba)
theorem jW.kept {D : va_G} {cA : Nat → ClassId} {N0 : Nat} {Sh : jS} {I : jI} {P : jP} {L : jL} {H H' : Heap} (h : jW D cA N0 Sh I P L H) (ho : ∀ b : Nat, b < H.size → H'[b]? = H[b]?) : jW D cA N0 Sh I P L H' := fun b r hb => ⟨(h b r hb).1, (h b r hb).2.kept (ho b (h.lt hb))⟩
/-- a field of a class, as javac links it -/
def jfOK (own : String) (idx ci k : Nat) : Prop := ci < 7 ∧ k < jn ci ∧ Cond.fieldLink own idx (jT ci k).1 (jT ci k).2.1 (jT ci k).2.2.1 ∈ jWS
section JH
variable {p : Program} {l : Launch} {e : Env} {R : Room} {s : State} {m : MethodId} {args : Array Value} {below : List Frame} {meth : Method} {c : Code} {D : va_G} {cA : Nat → ClassId} {N0 : Nat} {cc : ByteArray} {nL : Nat} {own : String} {lv : Nat} {Qf : State → Prop} {Z : Nat → Prop} {Sh : jS} {I : jI} {P : jP} {L : jL} {k n pc : Nat} {ls : List (Option Value)} {st : List Value}
theorem jx_get (C : jC p R s m args meth c D cA N0 cc nL own lv) {a ci n0 idx k0 : Nat} (hf : jfOK own idx ci k0) (hsh : Sh a = some (ci, n0)) {v : Value} (hv : jfv ci (I a) (P a) k0 = v) (d : decode cc pc = .ok (.getfield idx, 3)) (kk : jJ p l e R s m args below meth c D cA N0 nL Qf Z Sh I P L k n (pc + 3) ls (v :: st)) : jJ p l e R s m args below meth c D cA N0 nL Qf Z Sh I P L k n pc ls (.ref a :: st) := by
  intro H locs arr hW hZ hS hl
  obtain ⟨hx, hb, hml, hown, hts, hlk, hK, -⟩ := C
  obtain ⟨hc, hk, hlink⟩ := hf
  have hP := hW.at hsh
  rw [jent_c hc] at hP
  refine va_get (D := D) (ci := ci) (v := v) hx hb hts (jin_ws hc) hown hK.1 hP 0 rfl (jcl hc) k0 hk (hts _ hlink) (fun _ h => h) ?_ d (kk H locs arr hW hZ hS hl)
  rw [List.getElem?_map, List.getElem?_range hk, ← hv]
  rfl
theorem jx_getI (C : jC p R s m args meth c D cA N0 cc nL own lv) {a ci n0 idx k0 : Nat} (hf : jfOK own idx ci k0) (hty : jisI (jty ci k0) = true) (hsh : Sh a = some (ci, n0)) (d : decode cc pc = .ok (.getfield idx, 3)) (kk : jJ p l e R s m args below meth c D cA N0 nL Qf Z Sh I P L k n (pc + 3) ls (.int (I a k0) :: st)) : jJ p l e R s m args below meth c D cA N0 nL Qf Z Sh I P L k n pc ls (.ref a :: st) :=
  jx_get C hf hsh (if_pos hty) d kk
theorem jx_getP (C : jC p R s m args meth c D cA N0 cc nL own lv) {a ci n0 idx k0 r : Nat} (hf : jfOK own idx ci k0) (hty : jisI (jty ci k0) = false) (hsh : Sh a = some (ci, n0)) (hp : P a k0 = some r) (d : decode cc pc = .ok (.getfield idx, 3)) (kk : jJ p l e R s m args below meth c D cA N0 nL Qf Z Sh I P L k n (pc + 3) ls (.ref r :: st)) : jJ p l e R s m args below meth c D cA N0 nL Qf Z Sh I P L k n pc ls (.ref a :: st) :=
  jx_get C hf hsh ((if_neg (by rw [hty]; decide)).trans (by rw [hp]; rfl)) d kk
theorem jx_putI (C : jC p R s m args meth c D cA N0 cc nL own lv) {a ci n0 idx k0 : Nat} {x : Int32} (hf : jfOK own idx ci k0) (hty : jisI (jty ci k0) = true) (hfin : (jT ci k0).2.2.2 = false) (hn : narrow (jty ci k0) (.int x) = .int x) (hfit : fits (jty ci k0) (.int x) = true) (hsh : Sh a = some (ci, n0)) (d : decode cc pc = .ok (.putfield idx, 3)) (kk : jJ p l e R s m args below meth c D cA N0 nL Qf Z Sh (jst I a k0 x) P L k n (pc + 3) ls st) : jJ p l e R s m args below meth c D cA N0 nL Qf Z Sh I P L k n pc ls (.int x :: .ref a :: st) := by
  intro H locs arr hW hZ hS hl
  obtain ⟨hx, hb, hml, hown, hts, hlk, hK, -⟩ := C
  obtain ⟨hc, hk, hlink⟩ := hf
  obtain ⟨cell, q1, q2, q3, q4⟩ := hW.obj hc hsh
  have hap := va_apart (own := own) hts (jin_ws hc) (jty ci) (jtyok hc) (jnm hc) hK.1 (jcl hc)
  obtain ⟨hS1, hfc, kC, hkC, hkind⟩ := hK.1.1 ci _ (jcl hc)
  obtain ⟨cf, kf, fi, f, hi, hsl⟩ := hS1 k0 hk
  have hlay := hts _ (jin_ws hc _ (u_in_lay hk))
  unfold u_lay at hlay
  rw [if_neg (by rw [hfin]; decide)] at hlay
  have hst := (u_facts hfc hkC (u_lays hts (jin_ws hc) hk) hi).1
  have h6 := u_store hfc hkC hkind hlay hi (jtyok hc k0 hk) hn hfit
  refine W.putK hx hb (f := f) ⟨hown, hts _ hlink, ⟨_, _, _, hi⟩, hst⟩ (by rw [q2]; exact h6) q1 q3 (by rw [hsl]; exact k2_hasslot (q4 k0 hk)) rfl rfl d fun H' e1 e2 e3 => ?_
  rw [hsl] at e1 ⊢
  refine kk H' _ arr (hW.put hsh ?_ e3 (fun b hb => jst_ne hb) (fun b hb => rfl) (fun b hb => rfl)) (by rw [e2]; exact hZ) (hS.put e2 e3 (hW a _ hsh).1) hl
  rw [jent_c hc]
  refine ⟨_, jcl hc, t_OB.to (V := updV (jfv ci (I a) (P a)) k0 (.int x)) ⟨_, e1, q2, q3, t_set q4 hap hk (.int x)⟩ (fun j hj => ?_)⟩
  rw [jmapV hj, jst_eq]
  unfold updV jfv upd
  by_cases hjk : j = k0
  · subst hjk
    simp [hty]
  · simp [hjk]
theorem jx_putF (C : jC p R s m args meth c D cA N0 cc nL own lv) {a ci n0 idx k0 r : Nat} {C0 : String} (hf : jfOK own idx ci k0) (hty : jisI (jty ci k0) = false) (hfin : (jT ci k0).2.2.2 = true) (hin2 : meth.name = "<init>") (hdecl : (jT ci k0).1 = own) (hn : narrow (jty ci k0) (.ref r) = .ref r) (hfit : fits (jty ci k0) (.ref r) = true) (hsh : Sh a = some (ci, n0)) (d : decode cc pc = .ok (.putfield idx, 3)) (kk : jJ p l e R s m args below meth c D cA N0 nL Qf Z Sh I (jstP P a k0 (some r)) L k n (pc + 3) ls st) : jJ p l e R s m args below meth c D cA N0 nL Qf Z Sh I P L k n pc ls (.ref r :: .ref a :: st) := by
  intro H locs arr hW hZ hS hl
  obtain ⟨hx, hb, hml, hown, hts, hlk, hK, -⟩ := C
  obtain ⟨hc, hk, hlink⟩ := hf
  obtain ⟨cell, q1, q2, q3, q4⟩ := hW.obj hc hsh
  have hap := va_apart (own := own) hts (jin_ws hc) (jty ci) (jtyok hc) (jnm hc) hK.1 (jcl hc)
  obtain ⟨hS1, hfc, kC, hkC, hkind⟩ := hK.1.1 ci _ (jcl hc)
  obtain ⟨cf, kf, fi, f, hi, hsl⟩ := hS1 k0 hk
  have hlay := hts _ (jin_ws hc _ (u_in_lay hk))
  unfold u_lay at hlay
  rw [if_pos hfin] at hlay
  have hst := (u_facts hfc hkC (u_lays hts (jin_ws hc) hk) hi).1
  have hcf : m.cls = cf := by
    obtain ⟨_, _, c', _, _, _, -, -, hf', -, -, -, hown2, -⟩ := Cond.laysFinal_spec hlay
    have e1 : c' = cf := by have := hi.symm.trans hf'; simp at this; exact this.1.symm
    rw [hdecl] at hown2
    rw [← e1]; exact Option.some.inj (hown.symm.trans hown2)
  have h6 := u_fits hfc hkC hkind (Or.inr hlay) hi (jtyok hc k0 hk) hn hfit
  refine W.putFinK hx hb hown (hts _ hlink) hi hst hcf hin2 (by rw [q2]; exact h6) q1 q3 (by rw [hsl]; exact k2_hasslot (q4 k0 hk)) rfl rfl d fun H' e1 e2 e3 => ?_
  rw [hsl] at e1 ⊢
  refine kk H' _ arr (hW.put hsh ?_ e3 (fun b hb => rfl) (fun b hb => jstP_ne hb) (fun b hb => rfl)) (by rw [e2]; exact hZ) (hS.put e2 e3 (hW a _ hsh).1) hl
  rw [jent_c hc]
  refine ⟨_, jcl hc, t_OB.to (V := updV (jfv ci (I a) (P a)) k0 (.ref r)) ⟨_, e1, q2, q3, t_set q4 hap hk (.ref r)⟩ (fun j hj => ?_)⟩
  rw [jmapV hj, jstP_eq]
  unfold updV jfv va_up
  by_cases hjk : j = k0
  · subst hjk
    simp [hty, va_rf]
  · simp [hjk]
theorem jx_iald (C : jC p R s m args meth c D cA N0 cc nL own lv) {a n0 j : Nat} (hsh : Sh a = some (10, n0)) (hj : j < n0) (hn : n0 < 2 ^ 31) (d : decode cc pc = .ok (.iaload, 1)) (kk : jJ p l e R s m args below meth c D cA N0 nL Qf Z Sh I P L k n (pc + 1) ls (.int (I a j) :: st)) : jJ p l e R s m args below meth c D cA N0 nL Qf Z Sh I P L k n pc ls (.int (nI j) :: .ref a :: st) := by
  intro H locs arr hW hZ hS hl
  have h1 := kk H locs arr hW hZ hS hl
  refine va_iald (D := D) (cl := vwCl) (tys := jtys cA) C.1 C.2.1 C.2.2.2.2.2.2.1.1 (hW.at hsh) 0 0 (cA := cA 0) (n := n0) (f := I a) rfl rfl (vp_in_nI hj hn) d ?_
  rw [nI_clamp (by omega)]
  exact h1
theorem jx_iast (C : jC p R s m args meth c D cA N0 cc nL own lv) {a n0 j : Nat} {x : Int32} (hsh : Sh a = some (10, n0)) (hj : j < n0) (hn : n0 < 2 ^ 31) (d : decode cc pc = .ok (.iastore, 1)) (kk : jJ p l e R s m args below meth c D cA N0 nL Qf Z Sh (jst I a j x) P L k n (pc + 1) ls st) : jJ p l e R s m args below meth c D cA N0 nL Qf Z Sh I P L k n pc ls (.int x :: .int (nI j) :: .ref a :: st) := by
  intro H locs arr hW hZ hS hl
  have hcl : (nI j).toNatClampNeg = j := nI_clamp (by omega)
  have hA : H[a]? = some (vp_cell (cA 0) (n0, .inl (I a))) := (hW a _ hsh).2
  refine W.iast C.1 C.2.1 hA ((C.2.2.2.2.2.2.1.1.2 0 _ rfl).1 n0 (fun j => .int (I a j))) (fun q => by cases q) (by rw [vp_cell_i, arrV_size]; exact vp_in_nI hj hn) rfl rfl d fun H1 e z oq => ?_
  refine kk H1 _ arr (hW.put hsh ?_ oq (fun b hb => jst_ne hb) (fun b hb => rfl) (fun b hb => rfl)) (by rw [z]; exact hZ) (hS.put z oq (hW a _ hsh).1) hl
  show H1[a]? = some (vp_cell (cA 0) (n0, .inl (jst I a j x a)))
  rw [e, hcl, vp_cell_i, vp_cell_i, arrV_store, jst_eq]
  congr 2
  funext q
  by_cases hq : q = j
  · subst hq
    simp [updV, upd]
  · simp [updV, upd, hq]
theorem jx_last (C : jC p R s m args meth c D cA N0 cc nL own lv) {a n0 j : Nat} {x : Int64} (hsh : Sh a = some (11, n0)) (hj : j < n0) (hn : n0 < 2 ^ 31) (d : decode cc pc = .ok (.lastore, 1)) (kk : jJ p l e R s m args below meth c D cA N0 nL Qf Z Sh I P (jstL L a j x) k n (pc + 1) ls st) : jJ p l e R s m args below meth c D cA N0 nL Qf Z Sh I P L k n pc ls (.long x :: .int (nI j) :: .ref a :: st) := by
  intro H locs arr hW hZ hS hl
  have hcl : (nI j).toNatClampNeg = j := nI_clamp (by omega)
  have hA : H[a]? = some (vp_cell (cA 1) (n0, .inr (.inl (L a)))) := (hW a _ hsh).2
  refine W.last C.1 C.2.1 hA ((C.2.2.2.2.2.2.1.1.2 1 _ rfl).1 n0 (fun j => .long (L a j))) (fun q => by cases q) (by rw [vp_cell_l, arrV_size]; exact vp_in_nI hj hn) rfl rfl d fun H1 e z oq => ?_
  refine kk H1 _ arr (hW.put hsh ?_ oq (fun b hb => rfl) (fun b hb => rfl) (fun b hb => jstL_ne hb)) (by rw [z]; exact hZ) (hS.put z oq (hW a _ hsh).1) hl
  show H1[a]? = some (vp_cell (cA 1) (n0, .inr (.inl (jstL L a j x a))))
  rw [e, hcl, vp_cell_l, vp_cell_l, arrV_store, jstL_eq]
  congr 2
  funext q
  by_cases hq : q = j
  · subst hq
    simp [updV, vp_updL]
  · simp [updV, vp_updL, hq]
theorem jx_lald (C : jC p R s m args meth c D cA N0 cc nL own lv) {a n0 j : Nat} (hsh : Sh a = some (11, n0)) (hj : j < n0) (hn : n0 < 2 ^ 31) (d : decode cc pc = .ok (.laload, 1)) (kk : jJ p l e R s m args below meth c D cA N0 nL Qf Z Sh I P L k n (pc + 1) ls (.long (L a j) :: st)) : jJ p l e R s m args below meth c D cA N0 nL Qf Z Sh I P L k n pc ls (.int (nI j) :: .ref a :: st) := by
  intro H locs arr hW hZ hS hl
  have h1 := kk H locs arr hW hZ hS hl
  refine va_lald (D := D) (cl := vwCl) (tys := jtys cA) C.1 C.2.1 C.2.2.2.2.2.2.1.1 (hW.at hsh) 0 1 (cA := cA 1) (n := n0) (f := L a) rfl rfl (vp_in_nI hj hn) d ?_
  rw [nI_clamp (by omega)]
  exact h1
theorem jx_aald12 (C : jC p R s m args meth c D cA N0 cc nL own lv) {a n0 j r : Nat} (hsh : Sh a = some (12, n0)) (hj : j < n0) (hn : n0 < 2 ^ 31) (hp : P a j = some r) (d : decode cc pc = .ok (.aaload, 1)) (kk : jJ p l e R s m args below meth c D cA N0 nL Qf Z Sh I P L k n (pc + 1) ls (.ref r :: st)) : jJ p l e R s m args below meth c D cA N0 nL Qf Z Sh I P L k n pc ls (.int (nI j) :: .ref a :: st) := by
  intro H locs arr hW hZ hS hl
  have h1 := kk H locs arr hW hZ hS hl
  refine va_aldq (D := D) (cl := vwCl) (tys := jtys cA) (C := RX3) C.1 C.2.1 C.2.2.2.2.2.2.1.1 (hW.at hsh) 0 2 (cA := cA 2) (n := n0) (f := P a) rfl rfl (vp_in_nI hj hn) d ?_
  rw [nI_clamp (by omega), hp]
  exact h1
theorem jx_aast12 (C : jC p R s m args meth c D cA N0 cc nL own lv) {a n0 nv j v : Nat} (hsh : Sh a = some (12, n0)) (hv : Sh v = some (3, nv)) (hj : j < n0) (hn : n0 < 2 ^ 31) (d : decode cc pc = .ok (.aastore, 1)) (kk : jJ p l e R s m args below meth c D cA N0 nL Qf Z Sh I (jstP P a j (some v)) L k n (pc + 1) ls st) : jJ p l e R s m args below meth c D cA N0 nL Qf Z Sh I P L k n pc ls (.ref v :: .int (nI j) :: .ref a :: st) := by
  intro H locs arr hW hZ hS hl
  have hcl : (nI j).toNatClampNeg = j := nI_clamp (by omega)
  have hA : H[a]? = some (vp_cell (cA 2) (n0, .inr (.inr (.inr (.inr (P a)))))) := (hW a _ hsh).2
  have hK := C.2.2.2.2.2.2.1.1
  obtain ⟨cellV, g1, g2, g3, -⟩ := hW.obj (c := 3) (by decide) hv
  have hcls := (hK.1 3 _ (jcl (c := 3) (by decide))).2
  obtain ⟨kA, comp, k1, k2, k3, -⟩ := (hK.2 2 _ rfl).2
  have hcomp : comp = D.1 3 := Option.some.inj (k3.symm.trans hcls.1)
  subst hcomp
  obtain ⟨kC, hkC, -⟩ := hcls.2
  refine W.aast C.1 C.2.1 hA (fun q h => by cases h) (fun h => by cases h) k1 k2 rfl hkC ⟨by rw [← nI_0]; exact nI_pos (by omega), by rw [hcl]; show _ < (arrV _ _ _).slots.size; rw [arrV_size]; exact hj⟩ g1 (fun q h => by rw [g3] at h; cases h) (by rw [g2]; exact hkC) (by rw [g2]; exact va_assign hcls) rfl rfl d fun H1 e z oq => ?_
  refine kk H1 _ arr (hW.put hsh ?_ oq (fun b hb => rfl) (fun b hb => jstP_ne hb) (fun b hb => rfl)) (by rw [z]; exact hZ) (hS.put z oq (hW a _ hsh).1) hl
  show H1[a]? = some (vp_cell (cA 2) (n0, .inr (.inr (.inr (.inr (jstP P a j (some v) a))))))
  rw [e, hcl, vp_cell_q, vp_cell_q, arrV_store, jstP_eq]
  congr 2
  funext q
  by_cases hq : q = j
  · subst hq
    simp [updV, va_up, va_rf]
  · simp [updV, va_up, hq]
theorem jx_aald13 (C : jC p R s m args meth c D cA N0 cc nL own lv) {a n0 j r : Nat} (hsh : Sh a = some (13, n0)) (hj : j < n0) (hn : n0 < 2 ^ 31) (hp : P a j = some r) (d : decode cc pc = .ok (.aaload, 1)) (kk : jJ p l e R s m args below meth c D cA N0 nL Qf Z Sh I P L k n (pc + 1) ls (.ref r :: st)) : jJ p l e R s m args below meth c D cA N0 nL Qf Z Sh I P L k n pc ls (.int (nI j) :: .ref a :: st) := by
  intro H locs arr hW hZ hS hl
  have h1 := kk H locs arr hW hZ hS hl
  refine va_aldq (D := D) (cl := vwCl) (tys := jtys cA) (C := RX1) C.1 C.2.1 C.2.2.2.2.2.2.1.1 (hW.at hsh) 0 3 (cA := cA 3) (n := n0) (f := P a) rfl rfl (vp_in_nI hj hn) d ?_
  rw [nI_clamp (by omega), hp]
  exact h1
theorem jx_aast13 (C : jC p R s m args meth c D cA N0 cc nL own lv) {a n0 nv j v : Nat} (hsh : Sh a = some (13, n0)) (hv : Sh v = some (1, nv)) (hj : j < n0) (hn : n0 < 2 ^ 31) (d : decode cc pc = .ok (.aastore, 1)) (kk : jJ p l e R s m args below meth c D cA N0 nL Qf Z Sh I (jstP P a j (some v)) L k n (pc + 1) ls st) : jJ p l e R s m args below meth c D cA N0 nL Qf Z Sh I P L k n pc ls (.ref v :: .int (nI j) :: .ref a :: st) := by
  intro H locs arr hW hZ hS hl
  have hcl : (nI j).toNatClampNeg = j := nI_clamp (by omega)
  have hA : H[a]? = some (vp_cell (cA 3) (n0, .inr (.inr (.inr (.inr (P a)))))) := (hW a _ hsh).2
  have hK := C.2.2.2.2.2.2.1.1
  obtain ⟨cellV, g1, g2, g3, -⟩ := hW.obj (c := 1) (by decide) hv
  have hcls := (hK.1 1 _ (jcl (c := 1) (by decide))).2
  obtain ⟨kA, comp, k1, k2, k3, -⟩ := (hK.2 3 _ rfl).2
  have hcomp : comp = D.1 1 := Option.some.inj (k3.symm.trans hcls.1)
  subst hcomp
  obtain ⟨kC, hkC, -⟩ := hcls.2
  refine W.aast C.1 C.2.1 hA (fun q h => by cases h) (fun h => by cases h) k1 k2 rfl hkC ⟨by rw [← nI_0]; exact nI_pos (by omega), by rw [hcl]; show _ < (arrV _ _ _).slots.size; rw [arrV_size]; exact hj⟩ g1 (fun q h => by rw [g3] at h; cases h) (by rw [g2]; exact hkC) (by rw [g2]; exact va_assign hcls) rfl rfl d fun H1 e z oq => ?_
  refine kk H1 _ arr (hW.put hsh ?_ oq (fun b hb => rfl) (fun b hb => jstP_ne hb) (fun b hb => rfl)) (by rw [z]; exact hZ) (hS.put z oq (hW a _ hsh).1) hl
  show H1[a]? = some (vp_cell (cA 3) (n0, .inr (.inr (.inr (.inr (jstP P a j (some v) a))))))
  rw [e, hcl, vp_cell_q, vp_cell_q, arrV_store, jstP_eq]
  congr 2
  funext q
  by_cases hq : q = j
  · subst hq
    simp [updV, va_up, va_rf]
  · simp [updV, va_up, hq]
theorem jx_aald14 (C : jC p R s m args meth c D cA N0 cc nL own lv) {a n0 j r : Nat} (hsh : Sh a = some (14, n0)) (hj : j < n0) (hn : n0 < 2 ^ 31) (hp : P a j = some r) (d : decode cc pc = .ok (.aaload, 1)) (kk : jJ p l e R s m args below meth c D cA N0 nL Qf Z Sh I P L k n (pc + 1) ls (.ref r :: st)) : jJ p l e R s m args below meth c D cA N0 nL Qf Z Sh I P L k n pc ls (.int (nI j) :: .ref a :: st) := by
  intro H locs arr hW hZ hS hl
  have h1 := kk H locs arr hW hZ hS hl
  refine va_aldq (D := D) (cl := vwCl) (tys := jtys cA) (C := RX0) C.1 C.2.1 C.2.2.2.2.2.2.1.1 (hW.at hsh) 0 4 (cA := cA 4) (n := n0) (f := P a) rfl rfl (vp_in_nI hj hn) d ?_
  rw [nI_clamp (by omega), hp]
  exact h1
theorem jx_aast14 (C : jC p R s m args meth c D cA N0 cc nL own lv) {a n0 nv j v : Nat} (hsh : Sh a = some (14, n0)) (hv : Sh v = some (0, nv)) (hj : j < n0) (hn : n0 < 2 ^ 31) (d : decode cc pc = .ok (.aastore, 1)) (kk : jJ p l e R s m args below meth c D cA N0 nL Qf Z Sh I (jstP P a j (some v)) L k n (pc + 1) ls st) : jJ p l e R s m args below meth c D cA N0 nL Qf Z Sh I P L k n pc ls (.ref v :: .int (nI j) :: .ref a :: st) := by
  intro H locs arr hW hZ hS hl
  have hcl : (nI j).toNatClampNeg = j := nI_clamp (by omega)
  have hA : H[a]? = some (vp_cell (cA 4) (n0, .inr (.inr (.inr (.inr (P a)))))) := (hW a _ hsh).2
  have hK := C.2.2.2.2.2.2.1.1
  obtain ⟨cellV, g1, g2, g3, -⟩ := hW.obj (c := 0) (by decide) hv
  have hcls := (hK.1 0 _ (jcl (c := 0) (by decide))).2
  obtain ⟨kA, comp, k1, k2, k3, -⟩ := (hK.2 4 _ rfl).2
  have hcomp : comp = D.1 0 := Option.some.inj (k3.symm.trans hcls.1)
  subst hcomp
  obtain ⟨kC, hkC, -⟩ := hcls.2
  refine W.aast C.1 C.2.1 hA (fun q h => by cases h) (fun h => by cases h) k1 k2 rfl hkC ⟨by rw [← nI_0]; exact nI_pos (by omega), by rw [hcl]; show _ < (arrV _ _ _).slots.size; rw [arrV_size]; exact hj⟩ g1 (fun q h => by rw [g3] at h; cases h) (by rw [g2]; exact hkC) (by rw [g2]; exact va_assign hcls) rfl rfl d fun H1 e z oq => ?_
  refine kk H1 _ arr (hW.put hsh ?_ oq (fun b hb => rfl) (fun b hb => jstP_ne hb) (fun b hb => rfl)) (by rw [z]; exact hZ) (hS.put z oq (hW a _ hsh).1) hl
  show H1[a]? = some (vp_cell (cA 4) (n0, .inr (.inr (.inr (.inr (jstP P a j (some v) a))))))
  rw [e, hcl, vp_cell_q, vp_cell_q, arrV_store, jstP_eq]
  congr 2
  funext q
  by_cases hq : q = j
  · subst hq
    simp [updV, va_up, va_rf]
  · simp [updV, va_up, hq]
theorem jx_alen10 (C : jC p R s m args meth c D cA N0 cc nL own lv) {a n0 : Nat} (hsh : Sh a = some (10, n0)) (d : decode cc pc = .ok (.arraylength, 1)) (kk : jJ p l e R s m args below meth c D cA N0 nL Qf Z Sh I P L k n (pc + 1) ls (.int (nI n0) :: st)) : jJ p l e R s m args below meth c D cA N0 nL Qf Z Sh I P L k n pc ls (.ref a :: st) := by
  intro H locs arr hW hZ hS hl
  exact va_alen (D := D) (cl := vwCl) (tys := jtys cA) C.1 C.2.1 C.2.2.2.2.2.2.1.1 (hW.at hsh) 0 0 (cA := cA 0) (x := (n0, .inl (I a))) rfl rfl rfl d (kk H locs arr hW hZ hS hl)
theorem jx_alen12 (C : jC p R s m args meth c D cA N0 cc nL own lv) {a n0 : Nat} (hsh : Sh a = some (12, n0)) (d : decode cc pc = .ok (.arraylength, 1)) (kk : jJ p l e R s m args below meth c D cA N0 nL Qf Z Sh I P L k n (pc + 1) ls (.int (nI n0) :: st)) : jJ p l e R s m args below meth c D cA N0 nL Qf Z Sh I P L k n pc ls (.ref a :: st) := by
  intro H locs arr hW hZ hS hl
  exact va_alen (D := D) (cl := vwCl) (tys := jtys cA) C.1 C.2.1 C.2.2.2.2.2.2.1.1 (hW.at hsh) 0 2 (cA := cA 2) (x := (n0, .inr (.inr (.inr (.inr (P a)))))) rfl rfl rfl d (kk H locs arr hW hZ hS hl)
theorem jx_alen13 (C : jC p R s m args meth c D cA N0 cc nL own lv) {a n0 : Nat} (hsh : Sh a = some (13, n0)) (d : decode cc pc = .ok (.arraylength, 1)) (kk : jJ p l e R s m args below meth c D cA N0 nL Qf Z Sh I P L k n (pc + 1) ls (.int (nI n0) :: st)) : jJ p l e R s m args below meth c D cA N0 nL Qf Z Sh I P L k n pc ls (.ref a :: st) := by
  intro H locs arr hW hZ hS hl
  exact va_alen (D := D) (cl := vwCl) (tys := jtys cA) C.1 C.2.1 C.2.2.2.2.2.2.1.1 (hW.at hsh) 0 3 (cA := cA 3) (x := (n0, .inr (.inr (.inr (.inr (P a)))))) rfl rfl rfl d (kk H locs arr hW hZ hS hl)
theorem jx_alen14 (C : jC p R s m args meth c D cA N0 cc nL own lv) {a n0 : Nat} (hsh : Sh a = some (14, n0)) (d : decode cc pc = .ok (.arraylength, 1)) (kk : jJ p l e R s m args below meth c D cA N0 nL Qf Z Sh I P L k n (pc + 1) ls (.int (nI n0) :: st)) : jJ p l e R s m args below meth c D cA N0 nL Qf Z Sh I P L k n pc ls (.ref a :: st) := by
  intro H locs arr hW hZ hS hl
  exact va_alen (D := D) (cl := vwCl) (tys := jtys cA) C.1 C.2.1 C.2.2.2.2.2.2.1.1 (hW.at hsh) 0 4 (cA := cA 4) (x := (n0, .inr (.inr (.inr (.inr (P a)))))) rfl rfl rfl d (kk H locs arr hW hZ hS hl)
theorem jx_gets (C : jC p R s m args meth c D cA N0 cc nL own lv) {C0 nm : String} {t idx N : Nat} {f : Nat → Int32} (hT : jTab C0 nm N0 N f t s s.heap) (w : Cond.fieldLink own idx C0 nm "[I" ∈ jWS) (d : decode cc pc = .ok (.getstatic idx, 3)) (kk : jJ p l e R s m args below meth c D cA N0 nL Qf Z Sh I P L k n (pc + 3) ls (.ref t :: st)) : jJ p l e R s m args below meth c D cA N0 nL Qf Z Sh I P L k n pc ls st :=
  fun H locs arr hW hZ hS hl => va_gets C.1 C.2.1 hT.1 hS C.2.2.2.1 (C.2.2.2.2.1 _ w) (fun _ h => h) d (kk H locs arr hW hZ hS hl)
theorem jx_tld (C : jC p R s m args meth c D cA N0 cc nL own lv) {C0 nm : String} {t j N : Nat} {f : Nat → Int32} (hT : jTab C0 nm N0 N f t s s.heap) (hj : j < N) (hn : N < 2 ^ 31) (d : decode cc pc = .ok (.iaload, 1)) (kk : jJ p l e R s m args below meth c D cA N0 nL Qf Z Sh I P L k n (pc + 1) ls (.int (f j) :: st)) : jJ p l e R s m args below meth c D cA N0 nL Qf Z Sh I P L k n pc ls (.int (nI j) :: .ref t :: st) :=
  fun H locs arr hW hZ hS hl => va_ti C.1 C.2.1 hT.2 hS (vp_in_nI hj hn) (by rw [nI_clamp (by omega)]) d (kk H locs arr hW hZ hS hl)
end JH
end
section
/-- a method's end: its answer, the size of the heap, the memory -/
def jQx (D : va_G) (cA : Nat → ClassId) (N0 : Nat) (Q : Option Value → Nat → jS → jI → jP → jL → Prop) : Array Value → State → Outcome → State → Prop := fun _ st o t => (∃ (v : Option Value) (Sh : jS) (I : jI) (P : jP) (L : jL), o = .returned v ∧ Q v t.heap.size Sh I P L ∧ jW D cA N0 Sh I P L t.heap) ∧ va_F (fun q => N0 ≤ q) st t
/-- a method's start -/
def jPx (D : va_G) (cA : Nat → ClassId) (N0 : Nat) (av : List Value) (Z : Nat → Prop) (Sh : jS) (I : jI) (P : jP) (L : jL) : Array Value → State → Prop := va_Pc av (fun U => jW D cA N0 Sh I P L U.heap ∧ Z U.heap.size ∧ jK D cA N0 U U.heap ∧ N0 ≤ U.heap.size)
def jRm (lv mc ms : Nat) : Room := { frames := lv, cells := mc, slots := ms, locals := 40 * lv }
/-- a method's contract -/
def jM (l : Launch) (D : va_G) (cA : Nat → ClassId) (N0 lv mc ms : Nat) (y : MethodName) (cc : ByteArray) (maxL : Nat) (ret : Option FieldType) (av : List Value) (Z : Nat → Prop) (Sh : jS) (I : jI) (P : jP) (L : jL) (Q : Option Value → Nat → jS → jI → jP → jL → Prop) : Prop :=
  Met l y (Cond.code y cc maxL ret :: jWS) (jRm lv mc ms) (jPx D cA N0 av Z Sh I P L) (jQx D cA N0 Q) mc ms (fun q => N0 ≤ q)
theorem jPx_blind {D : va_G} {cA : Nat → ClassId} {N0 : Nat} {av : List Value} {Z : Nat → Prop} {Sh : jS} {I : jI} {P : jP} {L : jL} : FrameBlind (jPx D cA N0 av Z Sh I P L) := fun a U g mk q => ⟨q.1, q.2.1, q.2.2.1, q.2.2.2.1.calling, q.2.2.2.2⟩
def jpad (nL : Nat) (ls : List (Option Value)) : List (Option Value) := ls ++ List.replicate (nL - ls.length) none
theorem jpad_of {nL i : Nat} {v : Value} {ls : List (Option Value)} (h : (jpad nL ls)[i]? = some (some v)) : ls[i]? = some (some v) := by
  unfold jpad at h
  by_cases hi : i < ls.length
  · rwa [List.getElem?_append_left hi] at h
  · rw [List.getElem?_append_right (by omega)] at h
    have := List.getElem?_eq_some_iff.mp h
    obtain ⟨h1, h2⟩ := this
    rw [List.getElem_replicate] at h2
    cases h2
section JM
variable {p : Program} {l : Launch} {e : Env} {R : Room} {s : State} {m : MethodId} {args : Array Value} {below : List Frame} {meth : Method} {c : Code} {D : va_G} {cA : Nat → ClassId} {N0 : Nat} {cc : ByteArray} {nL : Nat} {own : String} {lv : Nat} {Qf : State → Prop} {Z : Nat → Prop} {Sh : jS} {I : jI} {P : jP} {L : jL} {k n pc : Nat} {ls : List (Option Value)} {st : List Value}
theorem jM_of {y : MethodName} {ret : Option FieldType} {mc ms : Nat} {av : List Value} {Q : Option Value → Nat → jS → jI → jP → jL → Prop} (hy : plainName y.cls = true) (hlen : (lg_sl av).length ≤ nL)
    (body : ∀ (p : Program) (e : Env) (s : State) (m : MethodId) (args : Array Value) (below : List Frame) (meth : Method) (c : Code), jC p (jRm lv mc ms) s m args meth c D cA N0 cc nL y.cls lv → meth.sig.returnType = ret → meth.name = y.name → jJ p l e (jRm lv mc ms) s m args below meth c D cA N0 nL (MQ below (jQx D cA N0 Q) args s mc ms (fun q => N0 ≤ q)) Z Sh I P L 0 0 0 (jpad nL (jin av)) []) :
    jM l D cA N0 lv mc ms y cc nL ret av Z Sh I P L Q := by
  refine Met.ofW (cc := cc) (maxL := nL) (ret := ret) hy rfl ?_
  intro p e s m args below meth c s₁ B hml hv
  obtain ⟨rfl, hW, hZ, hK, hN⟩ := hv
  have hts := atoms_spec (ws := Cond.code y cc nL ret :: jWS) B.pre
  have C : jC p (jRm lv mc ms) s m av.toArray meth c D cA N0 cc nL y.cls lv := ⟨B.exec, B.bytes, hml, findClass_of_methodNamed B.named, fun w hw => hts w (List.mem_cons_of_mem _ hw), B.notSynchronized, hK, Nat.le_refl _, Nat.le_refl _, hN⟩
  have hl := lv_entry av (n := nL) hlen
  rw [lg_entry_eq]
  refine body p e s m av.toArray below meth c C B.returns (name_of_methodNamed B.named B.method).1 s.heap [] _ hW hZ va_S.rf ?_
  exact ⟨hl.1, hl.2.1, fun i v hi => hl.2.2 (i, v) (by have h := jin_args av 0 i v (jpad_of hi); rwa [Nat.zero_add] at h)⟩
/-- the instruction at pc calls y with av -/
def jGo (p : Program) (l : Launch) (e : Env) (R : Room) (s : State) (m : MethodId) (args : Array Value) (below : List Frame) (meth : Method) (c : Code) (D : va_G) (cA : Nat → ClassId) (N0 nL : Nat) (Sh : jS) (y : MethodName) (bytes : ByteArray) (maxL : Nat) (ret : Option FieldType) (pc : Nat) (av rest st : List Value) : Prop :=
  ∀ (H : Heap) (locs : List Loc) (k n : Nat) (arr : Array Slot) (I : jI) (P : jP) (L : jL) (rm : Room) (mc ms : Nat) (Pc : Array Value → State → Prop) (Qc : Array Value → State → Outcome → State → Prop) (free : Addr → Prop),
    jW D cA N0 Sh I P L H → arr.size = nL → Met l y (Cond.code y bytes maxL ret :: jWS) rm Pc Qc mc ms free → rm.cells = mc → rm.slots = ms → rm.frames + 1 ≤ R.frames → 8 + (maxL + 11) + rm.locals ≤ R.locals → FrameBlind Pc → (∀ U : State, U.heap = H → s.WarmedH U.vm → Pc av.toArray U) → k + mc ≤ R.cells ∧ n + ms ≤ R.slots →
    va_Run p l e R s m args below meth c H locs k n mc ms (F0 m pc arr st) rest (Qc av.toArray) free
theorem jWS_goodIn {y : MethodName} {bytes : ByteArray} {maxL : Nat} {ret : Option FieldType} (hw : Cond.code y bytes maxL ret ∈ jWS) : GoodIn jWS (Cond.code y bytes maxL ret :: jWS) := by
  intro w h
  have h1 : w ∈ jWS := (List.mem_cons.mp h).elim (fun e => by rw [e]; exact hw) id
  exact ⟨h1, good_of_word (jWS_good h1)⟩
def jyOK (y : MethodName) (na : Nat) : Prop := y.cls ≠ "java/lang/invoke/MethodHandle" ∧ y.cls ≠ "java/lang/invoke/VarHandle" ∧ (parseMethodDescriptor y.desc).map (fun d => d.parameters.length) = some na
theorem jgo_V (C : jC p R s m args meth c D cA N0 cc nL own lv) {y : MethodName} {bytes : ByteArray} {maxL idx b ci n0 na : Nat} {ret : Option FieldType} {As rest : List Value} (hy : jyOK y na) (hci : ci < 7) (hcl : y.cls = jR ci) (hw : Cond.code y bytes maxL ret ∈ jWS) (w1 : Cond.methodLink own idx y ∈ jWS) (w2 : Cond.instanceMethod y ∈ jWS) (w3 : Cond.selects y.cls y y ∈ jWS) (w4 : Cond.initialized y.cls ∈ jWS) (hsh : Sh b = some (ci, n0)) (hn : As.length = na) (hcat : (rest.map fun v => v.category).sum ≤ 8) (d : decode cc pc = .ok (.invokevirtual idx, 3)) :
    jGo p l e R s m args below meth c D cA N0 nL Sh y bytes maxL ret pc (.ref b :: As) rest (As.reverse ++ .ref b :: rest) := by
  intro H locs k n arr I P L rm mc ms Pc Qc free hW harr hM hrc hrs hfr hlo hbl hPc hkn
  obtain ⟨hx, hb, hml, hown, hts, hlk, hK, -⟩ := C
  have hrecv : ∃ cellB : Cell, H[b]? = some cellB ∧ cellB.vm.isStatics = false ∧ s.vm.findClass y.cls = some cellB.cls := by
    obtain ⟨cell, g1, g2, g3, -⟩ := hW.obj hci hsh
    exact ⟨cell, g1, by rw [g3]; rfl, by rw [g2, hcl]; exact (hK.1.1 ci _ (jcl hci)).2.1⟩
  exact va_runV (C := y.cls) ⟨hx, hb, hml, hown, hts⟩ hM ⟨callB_of na hts (jWS_goodIn hw) rfl hrc hrs (hts _ w4) (hts _ w1) hy ⟨hfr, hlo⟩, hts _ w2, hts _ w3⟩ ⟨hbl, hrecv, hPc⟩ rfl hn harr rfl (lv_room hcat) d hkn
theorem jgo_S (C : jC p R s m args meth c D cA N0 cc nL own lv) {y : MethodName} {bytes : ByteArray} {maxL idx na : Nat} {ret : Option FieldType} {As rest : List Value} (hy : jyOK y na) (hw : Cond.code y bytes maxL ret ∈ jWS) (w1 : Cond.methodLink own idx y ∈ jWS) (w2 : Cond.static y ∈ jWS) (w4 : Cond.initialized y.cls ∈ jWS) (hn : As.length = na) (hcat : (rest.map fun v => v.category).sum ≤ 8) (d : decode cc pc = .ok (.invokestatic idx, 3)) :
    jGo p l e R s m args below meth c D cA N0 nL Sh y bytes maxL ret pc As rest (As.reverse ++ rest) := by
  intro H locs k n arr I P L rm mc ms Pc Qc free hW harr hM hrc hrs hfr hlo hbl hPc hkn
  obtain ⟨hx, hb, hml, hown, hts, hlk, hK, -⟩ := C
  exact va_runS ⟨hx, hb, hml, hown, hts⟩ hM ⟨callB_of na hts (jWS_goodIn hw) rfl hrc hrs (hts _ w4) (hts _ w1) hy ⟨hfr, hlo⟩, hts _ w2⟩ ⟨hbl, hPc⟩ rfl hn harr rfl (lv_room hcat) d hkn
theorem jgo_I (C : jC p R s m args meth c D cA N0 cc nL own lv) {y : MethodName} {bytes : ByteArray} {maxL idx b na : Nat} {As rest : List Value} (hy : jyOK y na) (hinit : y.name = "<init>") (hw : Cond.code y bytes maxL none ∈ jWS) (w1 : Cond.methodLink own idx y ∈ jWS) (w2 : Cond.instanceMethod y ∈ jWS) (w4 : Cond.initialized y.cls ∈ jWS) (hn : As.length = na) (hcat : (rest.map fun v => v.category).sum ≤ 8) (d : decode cc pc = .ok (.invokespecial idx, 3)) :
    jGo p l e R s m args below meth c D cA N0 nL Sh y bytes maxL none pc (.ref b :: As) rest (As.reverse ++ .ref b :: rest) := by
  intro H locs k n arr I P L rm mc ms Pc Qc free hW harr hM hrc hrs hfr hlo hbl hPc hkn
  obtain ⟨hx, hb, hml, hown, hts, hlk, hK, -⟩ := C
  exact va_runI ⟨hx, hb, hml, hown, hts⟩ hM ⟨callB_of na hts (jWS_goodIn hw) rfl hrc hrs (hts _ w4) (hts _ w1) hy ⟨hfr, hlo⟩, hinit, hts _ w2⟩ ⟨hbl, hPc⟩ rfl hn harr rfl (lv_room hcat) d hkn
theorem jgo_SN (C : jC p R s m args meth c D cA N0 cc nL own lv) {y : MethodName} {bytes : ByteArray} {maxL idx na : Nat} {host : String} {ret : Option FieldType} {As rest : List Value} (hy : jyOK y na) (hw : Cond.code y bytes maxL ret ∈ jWS) (w1 : (own, idx, y, host) ∈ jNW) (w2 : Cond.static y ∈ jWS) (w4 : Cond.initialized y.cls ∈ jWS) (hn : As.length = na) (hcat : (rest.map fun v => v.category).sum ≤ 8) (d : decode cc pc = .ok (.invokestatic idx, 3)) :
    jGo p l e R s m args below meth c D cA N0 nL Sh y bytes maxL ret pc As rest (As.reverse ++ rest) := by
  intro H locs k n arr I P L rm mc ms Pc Qc free hW harr hM hrc hrs hfr hlo hbl hPc hkn
  obtain ⟨hx, hb, hml, hown, hts, hlk, hK, -⟩ := C
  exact va_runSN (host := host) ⟨hx, hb, hml, hown, hts⟩ hM ⟨va_cnB na hts (jWS_goodIn hw) rfl hrc hrs (hK.2.1 _ w1) (hts _ w4) hy ⟨hfr, hlo⟩, hts _ w2, trivial⟩ ⟨hbl, hPc⟩ rfl hn harr rfl (lv_room hcat) d hkn
theorem jgo_IN (C : jC p R s m args meth c D cA N0 cc nL own lv) {y : MethodName} {bytes : ByteArray} {maxL idx b na : Nat} {host : String} {As rest : List Value} (hy : jyOK y na) (hinit : y.name = "<init>") (hw : Cond.code y bytes maxL none ∈ jWS) (w1 : (own, idx, y, host) ∈ jNW) (w2 : Cond.instanceMethod y ∈ jWS) (w4 : Cond.initialized y.cls ∈ jWS) (hn : As.length = na) (hcat : (rest.map fun v => v.category).sum ≤ 8) (d : decode cc pc = .ok (.invokespecial idx, 3)) :
    jGo p l e R s m args below meth c D cA N0 nL Sh y bytes maxL none pc (.ref b :: As) rest (As.reverse ++ .ref b :: rest) := by
  intro H locs k n arr I P L rm mc ms Pc Qc free hW harr hM hrc hrs hfr hlo hbl hPc hkn
  obtain ⟨hx, hb, hml, hown, hts, hlk, hK, -⟩ := C
  exact va_runIN (host := host) ⟨hx, hb, hml, hown, hts⟩ hM ⟨va_cnB na hts (jWS_goodIn hw) rfl hrc hrs (hK.2.1 _ w1) (hts _ w4) hy ⟨hfr, hlo⟩, hinit, hts _ w2⟩ ⟨hbl, hPc⟩ rfl hn harr rfl (lv_room hcat) d hkn
/-- a call, by its contract -/
theorem jx_call (C : jC p R s m args meth c D cA N0 cc nL own lv) {y : MethodName} {bytes : ByteArray} {maxL lv' mc ms : Nat} {ret : Option FieldType} {av rest : List Value} {Z' : Nat → Prop} {Q : Option Value → Nat → jS → jI → jP → jL → Prop} (hgo : jGo p l e R s m args below meth c D cA N0 nL Sh y bytes maxL ret pc av rest st) (hM : jM l D cA N0 lv' mc ms y bytes maxL ret av Z' Sh I P L Q) (hlv : lv' + 1 ≤ lv) (hmx : maxL ≤ 21) (hZ' : ∀ q, Z q → Z' q) (hkn : k + mc ≤ R.cells ∧ n + ms ≤ R.slots)
    (kk : ∀ (v : Option Value) (z : Nat) (Sh' : jS) (I' : jI) (P' : jP) (L' : jL), Q v z Sh' I' P' L' → jJ p l e R s m args below meth c D cA N0 nL Qf (fun q => q = z) Sh' I' P' L' (k + mc) (n + ms) (pc + 3) ls (v.toList ++ rest)) : jJ p l e R s m args below meth c D cA N0 nL Qf Z Sh I P L k n pc ls st := by
  intro H locs arr hW hZ hS hl
  have hK := C.2.2.2.2.2.2.1
  have hRf := C.2.2.2.2.2.2.2.1
  have hRl := C.2.2.2.2.2.2.2.2.1
  have hN := C.2.2.2.2.2.2.2.2.2
  have hr := hgo H locs k n arr I P L (jRm lv' mc ms) mc ms _ _ _ hW hl.1 hM rfl rfl (Nat.le_trans hlv hRf) (by show 8 + (maxL + 11) + 40 * lv' ≤ R.locals; omega) jPx_blind (fun U hU hWm => ⟨rfl, by rw [hU]; exact hW, by rw [hU]; exact hZ' _ hZ, by rw [hU]; exact hK.warm hWm hS.2.1, by rw [hU]; exact Nat.le_trans hN hS.1⟩) hkn
  intro T hT X
  obtain ⟨v, st₀, t, T', L1, h0, X', hL, e1, e2, ⟨⟨v2, Sh', I', P', L', hv, hq, hW'⟩, hz, hk⟩, st⟩ := hr T hT X
  cases hv
  rw [h0] at hz hk
  obtain ⟨t2, a1, b1⟩ := kk v t.heap.size Sh' I' P' L' hq T'.heap (locs ++ L1) arr (by rw [e1]; exact hW') (by rw [e1])
    ⟨Nat.le_trans hS.1 (by rw [e1]; exact hz), fun q h1 h2 => by rw [e1, hk q (Nat.lt_of_lt_of_le h1 hS.1) h2]; exact hS.2.1 q h1 h2, fun q hq => by
      rcases List.mem_append.mp hq with h | h
      · exact hS.2.2 q h
      · exact hL q h⟩ hl T' rfl X'
  exact ⟨t2, st t2 a1, b1⟩
theorem jx_ret (C : jC p R s m args meth c D cA N0 cc nL own lv) {Q : Option Value → Nat → jS → jI → jP → jL → Prop} {v : Option Value} {H : Heap} {locs : List Loc} (hq : ∀ z, Z z → Q v z Sh I P L) (hW : jW D cA N0 Sh I P L H) (hZ : Z H.size) (hS : va_S (fun q => N0 ≤ q) s.heap H locs) (t : State) (ht : t.heap = H) : jQx D cA N0 Q args s (.returned v) t :=
  ⟨⟨v, Sh, I, P, L, rfl, by rw [ht]; exact hq _ hZ, by rw [ht]; exact hW⟩, hS.F ht⟩
theorem jx_iret (C : jC p R s m args meth c D cA N0 cc nL own lv) {Q : Option Value → Nat → jS → jI → jP → jL → Prop} {v : Int32} (hr : meth.sig.returnType = some .int) (hq : ∀ z, Z z → Q (some (.int v)) z Sh I P L) (d : decode cc pc = .ok (.ireturn, 1)) : jJ p l e R s m args below meth c D cA N0 nL (MQ below (jQx D cA N0 Q) args s k n (fun q => N0 ≤ q)) Z Sh I P L k n pc ls [.int v] :=
  fun H locs arr hW hZ hS hl => W.iret C.1 C.2.1 hr (fun t ht _ => jx_ret C hq hW hZ hS t ht) hS.2.2 d C.2.2.2.2.2.1
theorem jx_zret (C : jC p R s m args meth c D cA N0 cc nL own lv) {Q : Option Value → Nat → jS → jI → jP → jL → Prop} {v : Int32} {ty : FieldType} (hr : meth.sig.returnType = some ty) (hn : narrow ty (.int v) = .int v) (hq : ∀ z, Z z → Q (some (.int v)) z Sh I P L) (d : decode cc pc = .ok (.ireturn, 1)) : jJ p l e R s m args below meth c D cA N0 nL (MQ below (jQx D cA N0 Q) args s k n (fun q => N0 ≤ q)) Z Sh I P L k n pc ls [.int v] :=
  fun H locs arr hW hZ hS hl => W.zret C.1 C.2.1 hr hn (fun t ht _ => jx_ret C hq hW hZ hS t ht) hS.2.2 d C.2.2.2.2.2.1
theorem jx_vret (C : jC p R s m args meth c D cA N0 cc nL own lv) {Q : Option Value → Nat → jS → jI → jP → jL → Prop} (hr : meth.sig.returnType = none) (hq : ∀ z, Z z → Q none z Sh I P L) (d : decode cc pc = .ok (.return_, 1)) : jJ p l e R s m args below meth c D cA N0 nL (MQ below (jQx D cA N0 Q) args s k n (fun q => N0 ≤ q)) Z Sh I P L k n pc ls [] :=
  fun H locs arr hW hZ hS hl => W.vret C.1 C.2.1 hr (fun t ht _ => jx_ret C hq hW hZ hS t ht) hS.2.2 d C.2.2.2.2.2.1
theorem jx_lret (C : jC p R s m args meth c D cA N0 cc nL own lv) {Q : Option Value → Nat → jS → jI → jP → jL → Prop} {v : Int64} (hr : meth.sig.returnType = some .long) (hq : ∀ z, Z z → Q (some (.long v)) z Sh I P L) (d : decode cc pc = .ok (.lreturn, 1)) : jJ p l e R s m args below meth c D cA N0 nL (MQ below (jQx D cA N0 Q) args s k n (fun q => N0 ≤ q)) Z Sh I P L k n pc ls [.long v] :=
  fun H locs arr hW hZ hS hl => W.lret C.1 C.2.1 hr (fun t ht _ => jx_ret C hq hW hZ hS t ht) hS.2.2 d C.2.2.2.2.2.1
theorem jx_dret (C : jC p R s m args meth c D cA N0 cc nL own lv) {Q : Option Value → Nat → jS → jI → jP → jL → Prop} {v : UInt64} (hr : meth.sig.returnType = some .double) (hq : ∀ z, Z z → Q (some (.double v)) z Sh I P L) (d : decode cc pc = .ok (.dreturn, 1)) : jJ p l e R s m args below meth c D cA N0 nL (MQ below (jQx D cA N0 Q) args s k n (fun q => N0 ≤ q)) Z Sh I P L k n pc ls [.double v] :=
  fun H locs arr hW hZ hS hl => W.dret C.1 C.2.1 hr (fun t ht _ => jx_ret C hq hW hZ hS t ht) hS.2.2 d C.2.2.2.2.2.1
theorem jx_aret (C : jC p R s m args meth c D cA N0 cc nL own lv) {Q : Option Value → Nat → jS → jI → jP → jL → Prop} {v : Value} {rt : FieldType} (hr : meth.sig.returnType = some rt) (hrt : (∃ n, rt = .object n) ∨ ∃ t, rt = .array t) (hv : v = .null ∨ ∃ a, v = .ref a) (hq : ∀ z, Z z → Q (some v) z Sh I P L) (d : decode cc pc = .ok (.areturn, 1)) : jJ p l e R s m args below meth c D cA N0 nL (MQ below (jQx D cA N0 Q) args s k n (fun q => N0 ≤ q)) Z Sh I P L k n pc ls [v] :=
  fun H locs arr hW hZ hS hl => W.aret C.1 C.2.1 hr hrt hv (fun t ht _ => jx_ret C hq hW hZ hS t ht) hS.2.2 d C.2.2.2.2.2.1
/-- contracts of methods that make nothing, by what they answer -/
def jN (l : Launch) (D : va_G) (cA : Nat → ClassId) (N0 lv : Nat) (y : MethodName) (cc : ByteArray) (maxL : Nat) (ret : Option FieldType) (av : List Value) (Sh : jS) (I : jI) (P : jP) (L : jL) (Q : Option Value → jI → jP → jL → Prop) : Prop :=
  jM l D cA N0 lv 0 0 y cc maxL ret av (fun _ => True) Sh I P L (fun v _ Sh' I' P' L' => Sh' = Sh ∧ Q v I' P' L')
def jNi (Q : Int32 → jI → jP → jL → Prop) : Option Value → jI → jP → jL → Prop := fun v I P L => ∃ r, v = some (.int r) ∧ Q r I P L
def jNl (Q : Int64 → jI → jP → jL → Prop) : Option Value → jI → jP → jL → Prop := fun v I P L => ∃ r, v = some (.long r) ∧ Q r I P L
def jNd (Q : UInt64 → jI → jP → jL → Prop) : Option Value → jI → jP → jL → Prop := fun v I P L => ∃ r, v = some (.double r) ∧ Q r I P L
def jNa (Q : Value → jI → jP → jL → Prop) : Option Value → jI → jP → jL → Prop := fun v I P L => ∃ r, v = some r ∧ Q r I P L
def jNv (Q : jI → jP → jL → Prop) : Option Value → jI → jP → jL → Prop := fun v I P L => v = none ∧ Q I P L
theorem jx_calli (C : jC p R s m args meth c D cA N0 cc nL own lv) {y : MethodName} {bytes : ByteArray} {maxL lv' : Nat} {ret : Option FieldType} {av rest : List Value} {Q : Int32 → jI → jP → jL → Prop} (hgo : jGo p l e R s m args below meth c D cA N0 nL Sh y bytes maxL ret pc av rest st) (hM : jN l D cA N0 lv' y bytes maxL ret av Sh I P L (jNi Q)) (hlv : lv' + 1 ≤ lv) (hmx : maxL ≤ 21) (hkn : k ≤ R.cells ∧ n ≤ R.slots)
    (kk : ∀ (r : Int32) (I' : jI) (P' : jP) (L' : jL), Q r I' P' L' → jJ p l e R s m args below meth c D cA N0 nL Qf (fun _ => True) Sh I' P' L' k n (pc + 3) ls (.int r :: rest)) : jJ p l e R s m args below meth c D cA N0 nL Qf Z Sh I P L k n pc ls st := by
  refine jx_call C hgo hM hlv hmx (fun _ _ => trivial) hkn ?_
  intro v z Sh' I' P' L' hQ
  obtain ⟨rfl, hQ⟩ := hQ
  obtain ⟨r, rfl, hq⟩ := hQ
  exact jx_sz (fun _ _ => trivial) (kk r I' P' L' hq)
theorem jx_calll (C : jC p R s m args meth c D cA N0 cc nL own lv) {y : MethodName} {bytes : ByteArray} {maxL lv' : Nat} {ret : Option FieldType} {av rest : List Value} {Q : Int64 → jI → jP → jL → Prop} (hgo : jGo p l e R s m args below meth c D cA N0 nL Sh y bytes maxL ret pc av rest st) (hM : jN l D cA N0 lv' y bytes maxL ret av Sh I P L (jNl Q)) (hlv : lv' + 1 ≤ lv) (hmx : maxL ≤ 21) (hkn : k ≤ R.cells ∧ n ≤ R.slots)
    (kk : ∀ (r : Int64) (I' : jI) (P' : jP) (L' : jL), Q r I' P' L' → jJ p l e R s m args below meth c D cA N0 nL Qf (fun _ => True) Sh I' P' L' k n (pc + 3) ls (.long r :: rest)) : jJ p l e R s m args below meth c D cA N0 nL Qf Z Sh I P L k n pc ls st := by
  refine jx_call C hgo hM hlv hmx (fun _ _ => trivial) hkn ?_
  intro v z Sh' I' P' L' hQ
  obtain ⟨rfl, hQ⟩ := hQ
  obtain ⟨r, rfl, hq⟩ := hQ
  exact jx_sz (fun _ _ => trivial) (kk r I' P' L' hq)
theorem jx_calld (C : jC p R s m args meth c D cA N0 cc nL own lv) {y : MethodName} {bytes : ByteArray} {maxL lv' : Nat} {ret : Option FieldType} {av rest : List Value} {Q : UInt64 → jI → jP → jL → Prop} (hgo : jGo p l e R s m args below meth c D cA N0 nL Sh y bytes maxL ret pc av rest st) (hM : jN l D cA N0 lv' y bytes maxL ret av Sh I P L (jNd Q)) (hlv : lv' + 1 ≤ lv) (hmx : maxL ≤ 21) (hkn : k ≤ R.cells ∧ n ≤ R.slots)
    (kk : ∀ (r : UInt64) (I' : jI) (P' : jP) (L' : jL), Q r I' P' L' → jJ p l e R s m args below meth c D cA N0 nL Qf (fun _ => True) Sh I' P' L' k n (pc + 3) ls (.double r :: rest)) : jJ p l e R s m args below meth c D cA N0 nL Qf Z Sh I P L k n pc ls st := by
  refine jx_call C hgo hM hlv hmx (fun _ _ => trivial) hkn ?_
  intro v z Sh' I' P' L' hQ
  obtain ⟨rfl, hQ⟩ := hQ
  obtain ⟨r, rfl, hq⟩ := hQ
  exact jx_sz (fun _ _ => trivial) (kk r I' P' L' hq)
theorem jx_calla (C : jC p R s m args meth c D cA N0 cc nL own lv) {y : MethodName} {bytes : ByteArray} {maxL lv' : Nat} {ret : Option FieldType} {av rest : List Value} {Q : Value → jI → jP → jL → Prop} (hgo : jGo p l e R s m args below meth c D cA N0 nL Sh y bytes maxL ret pc av rest st) (hM : jN l D cA N0 lv' y bytes maxL ret av Sh I P L (jNa Q)) (hlv : lv' + 1 ≤ lv) (hmx : maxL ≤ 21) (hkn : k ≤ R.cells ∧ n ≤ R.slots)
    (kk : ∀ (r : Value) (I' : jI) (P' : jP) (L' : jL), Q r I' P' L' → jJ p l e R s m args below meth c D cA N0 nL Qf (fun _ => True) Sh I' P' L' k n (pc + 3) ls (r :: rest)) : jJ p l e R s m args below meth c D cA N0 nL Qf Z Sh I P L k n pc ls st := by
  refine jx_call C hgo hM hlv hmx (fun _ _ => trivial) hkn ?_
  intro v z Sh' I' P' L' hQ
  obtain ⟨rfl, hQ⟩ := hQ
  obtain ⟨r, rfl, hq⟩ := hQ
  exact jx_sz (fun _ _ => trivial) (kk r I' P' L' hq)
theorem jx_callv (C : jC p R s m args meth c D cA N0 cc nL own lv) {y : MethodName} {bytes : ByteArray} {maxL lv' : Nat} {ret : Option FieldType} {av rest : List Value} {Q : jI → jP → jL → Prop} (hgo : jGo p l e R s m args below meth c D cA N0 nL Sh y bytes maxL ret pc av rest st) (hM : jN l D cA N0 lv' y bytes maxL ret av Sh I P L (jNv Q)) (hlv : lv' + 1 ≤ lv) (hmx : maxL ≤ 21) (hkn : k ≤ R.cells ∧ n ≤ R.slots)
    (kk : ∀ (I' : jI) (P' : jP) (L' : jL), Q I' P' L' → jJ p l e R s m args below meth c D cA N0 nL Qf (fun _ => True) Sh I' P' L' k n (pc + 3) ls (rest)) : jJ p l e R s m args below meth c D cA N0 nL Qf Z Sh I P L k n pc ls st := by
  refine jx_call C hgo hM hlv hmx (fun _ _ => trivial) hkn ?_
  intro v z Sh' I' P' L' hQ
  obtain ⟨rfl, hQ⟩ := hQ
  obtain ⟨rfl, hq⟩ := hQ
  exact jx_sz (fun _ _ => trivial) (kk I' P' L' hq)
end JM
end
