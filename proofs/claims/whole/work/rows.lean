section
-- ===== PART A: goes FIRST, ahead of the names: the tables' words, and 'selects' of the private methods out of them =====
/-- a private method of a class that the tables say can be made, by its rows of tables_1 -/
def lw_okq (q : MethodName × Nat) : Prop := (q.1.cls ≠ "java/lang/invoke/MethodHandle" ∧ q.1.cls ≠ "java/lang/invoke/VarHandle") ∧ Cond.instantiable q.1.cls q.2 ∈ tables_1 ∧ Cond.privateMethod q.1 ∈ tables_1 ∧ Cond.instanceMethod q.1 ∈ tables_1
theorem lw_p0 : lw_okq (⟨"OneLantern", "tell", "(I)I"⟩, 8) := ⟨⟨by decide +kernel, by decide +kernel⟩, List.mem_of_getElem? (i := 15) (by decide +kernel), List.mem_of_getElem? (i := 169) (by decide +kernel), List.mem_of_getElem? (i := 170) (by decide +kernel)⟩
theorem lw_p1 : lw_okq (⟨"OneLantern$Row", "has", "(I)Z"⟩, 10) := ⟨⟨by decide +kernel, by decide +kernel⟩, List.mem_of_getElem? (i := 23) (by decide +kernel), List.mem_of_getElem? (i := 177) (by decide +kernel), List.mem_of_getElem? (i := 178) (by decide +kernel)⟩
theorem lw_p2 : lw_okq (⟨"OneLantern$Row", "litSet", "()I"⟩, 10) := ⟨⟨by decide +kernel, by decide +kernel⟩, List.mem_of_getElem? (i := 23) (by decide +kernel), List.mem_of_getElem? (i := 189) (by decide +kernel), List.mem_of_getElem? (i := 190) (by decide +kernel)⟩
theorem lw_p3 : lw_okq (⟨"OneLantern$Row", "atRootSet", "()I"⟩, 10) := ⟨⟨by decide +kernel, by decide +kernel⟩, List.mem_of_getElem? (i := 23) (by decide +kernel), List.mem_of_getElem? (i := 197) (by decide +kernel), List.mem_of_getElem? (i := 198) (by decide +kernel)⟩
theorem lw_p4 : lw_okq (⟨"OneLantern$Row", "paceOf", "(I)I"⟩, 10) := ⟨⟨by decide +kernel, by decide +kernel⟩, List.mem_of_getElem? (i := 23) (by decide +kernel), List.mem_of_getElem? (i := 201) (by decide +kernel), List.mem_of_getElem? (i := 202) (by decide +kernel)⟩
theorem lw_p5 : lw_okq (⟨"OneLantern$Row", "heardSet", "()I"⟩, 10) := ⟨⟨by decide +kernel, by decide +kernel⟩, List.mem_of_getElem? (i := 23) (by decide +kernel), List.mem_of_getElem? (i := 211) (by decide +kernel), List.mem_of_getElem? (i := 212) (by decide +kernel)⟩
theorem lw_p6 : lw_okq (⟨"OneLantern$Row", "allStumbled", "()I"⟩, 10) := ⟨⟨by decide +kernel, by decide +kernel⟩, List.mem_of_getElem? (i := 23) (by decide +kernel), List.mem_of_getElem? (i := 215) (by decide +kernel), List.mem_of_getElem? (i := 216) (by decide +kernel)⟩
theorem lw_p7 : lw_okq (⟨"OneLantern$Row", "isFull", "()Z"⟩, 10) := ⟨⟨by decide +kernel, by decide +kernel⟩, List.mem_of_getElem? (i := 23) (by decide +kernel), List.mem_of_getElem? (i := 226) (by decide +kernel), List.mem_of_getElem? (i := 227) (by decide +kernel)⟩
theorem lw_p8 : lw_okq (⟨"OneLantern$Row", "add", "(I)V"⟩, 10) := ⟨⟨by decide +kernel, by decide +kernel⟩, List.mem_of_getElem? (i := 23) (by decide +kernel), List.mem_of_getElem? (i := 231) (by decide +kernel), List.mem_of_getElem? (i := 232) (by decide +kernel)⟩
theorem lw_p9 : lw_okq (⟨"OneLantern$Row", "seeingSet", "()I"⟩, 10) := ⟨⟨by decide +kernel, by decide +kernel⟩, List.mem_of_getElem? (i := 23) (by decide +kernel), List.mem_of_getElem? (i := 242) (by decide +kernel), List.mem_of_getElem? (i := 243) (by decide +kernel)⟩
theorem lw_p10 : lw_okq (⟨"OneLantern$Row", "sees", "(IZ)Z"⟩, 10) := ⟨⟨by decide +kernel, by decide +kernel⟩, List.mem_of_getElem? (i := 23) (by decide +kernel), List.mem_of_getElem? (i := 247) (by decide +kernel), List.mem_of_getElem? (i := 248) (by decide +kernel)⟩
theorem lw_p11 : lw_okq (⟨"OneLantern$Row", "heeds", "(I)Z"⟩, 10) := ⟨⟨by decide +kernel, by decide +kernel⟩, List.mem_of_getElem? (i := 23) (by decide +kernel), List.mem_of_getElem? (i := 255) (by decide +kernel), List.mem_of_getElem? (i := 256) (by decide +kernel)⟩
theorem lw_p12 : lw_okq (⟨"OneLantern", "put", "([IIII)I"⟩, 8) := ⟨⟨by decide +kernel, by decide +kernel⟩, List.mem_of_getElem? (i := 15) (by decide +kernel), List.mem_of_getElem? (i := 263) (by decide +kernel), List.mem_of_getElem? (i := 264) (by decide +kernel)⟩
theorem lw_p13 : lw_okq (⟨"OneLantern$Row", "exchange", "(II)V"⟩, 10) := ⟨⟨by decide +kernel, by decide +kernel⟩, List.mem_of_getElem? (i := 23) (by decide +kernel), List.mem_of_getElem? (i := 271) (by decide +kernel), List.mem_of_getElem? (i := 272) (by decide +kernel)⟩
theorem lw_p14 : lw_okq (⟨"OneLantern$Row", "goSteps", "(I)V"⟩, 10) := ⟨⟨by decide +kernel, by decide +kernel⟩, List.mem_of_getElem? (i := 23) (by decide +kernel), List.mem_of_getElem? (i := 298) (by decide +kernel), List.mem_of_getElem? (i := 299) (by decide +kernel)⟩
theorem lw_p15 : lw_okq (⟨"OneLantern$Row", "goStep", "()V"⟩, 10) := ⟨⟨by decide +kernel, by decide +kernel⟩, List.mem_of_getElem? (i := 23) (by decide +kernel), List.mem_of_getElem? (i := 302) (by decide +kernel), List.mem_of_getElem? (i := 303) (by decide +kernel)⟩
def lw_privs_1 : List (MethodName × Nat) := [(⟨"OneLantern", "tell", "(I)I"⟩, 8), (⟨"OneLantern$Row", "has", "(I)Z"⟩, 10), (⟨"OneLantern$Row", "litSet", "()I"⟩, 10), (⟨"OneLantern$Row", "atRootSet", "()I"⟩, 10), (⟨"OneLantern$Row", "paceOf", "(I)I"⟩, 10), (⟨"OneLantern$Row", "heardSet", "()I"⟩, 10), (⟨"OneLantern$Row", "allStumbled", "()I"⟩, 10), (⟨"OneLantern$Row", "isFull", "()Z"⟩, 10), (⟨"OneLantern$Row", "add", "(I)V"⟩, 10), (⟨"OneLantern$Row", "seeingSet", "()I"⟩, 10), (⟨"OneLantern$Row", "sees", "(IZ)Z"⟩, 10), (⟨"OneLantern$Row", "heeds", "(I)Z"⟩, 10), (⟨"OneLantern", "put", "([IIII)I"⟩, 8), (⟨"OneLantern$Row", "exchange", "(II)V"⟩, 10), (⟨"OneLantern$Row", "goSteps", "(I)V"⟩, 10), (⟨"OneLantern$Row", "goStep", "()V"⟩, 10)]
theorem lw_r1 : ∀ q ∈ lw_privs_1, lw_okq q := List.forall_mem_cons.mpr ⟨lw_p0, List.forall_mem_cons.mpr ⟨lw_p1, List.forall_mem_cons.mpr ⟨lw_p2, List.forall_mem_cons.mpr ⟨lw_p3, List.forall_mem_cons.mpr ⟨lw_p4, List.forall_mem_cons.mpr ⟨lw_p5, List.forall_mem_cons.mpr ⟨lw_p6, List.forall_mem_cons.mpr ⟨lw_p7, List.forall_mem_cons.mpr ⟨lw_p8, List.forall_mem_cons.mpr ⟨lw_p9, List.forall_mem_cons.mpr ⟨lw_p10, List.forall_mem_cons.mpr ⟨lw_p11, List.forall_mem_cons.mpr ⟨lw_p12, List.forall_mem_cons.mpr ⟨lw_p13, List.forall_mem_cons.mpr ⟨lw_p14, List.forall_mem_cons.mpr ⟨lw_p15, fun _ h => absurd h List.not_mem_nil⟩⟩⟩⟩⟩⟩⟩⟩⟩⟩⟩⟩⟩⟩⟩⟩
theorem lw_p16 : lw_okq (⟨"OneLantern$Row", "walk", "(I)V"⟩, 10) := ⟨⟨by decide +kernel, by decide +kernel⟩, List.mem_of_getElem? (i := 23) (by decide +kernel), List.mem_of_getElem? (i := 308) (by decide +kernel), List.mem_of_getElem? (i := 309) (by decide +kernel)⟩
theorem lw_p17 : lw_okq (⟨"OneLantern$Row", "isWarned", "(I)Z"⟩, 10) := ⟨⟨by decide +kernel, by decide +kernel⟩, List.mem_of_getElem? (i := 23) (by decide +kernel), List.mem_of_getElem? (i := 312) (by decide +kernel), List.mem_of_getElem? (i := 313) (by decide +kernel)⟩
theorem lw_p18 : lw_okq (⟨"OneLantern$Row", "sayOn", "(I)V"⟩, 10) := ⟨⟨by decide +kernel, by decide +kernel⟩, List.mem_of_getElem? (i := 23) (by decide +kernel), List.mem_of_getElem? (i := 323) (by decide +kernel), List.mem_of_getElem? (i := 324) (by decide +kernel)⟩
theorem lw_p19 : lw_okq (⟨"OneLantern$Row", "says", "(II)Z"⟩, 10) := ⟨⟨by decide +kernel, by decide +kernel⟩, List.mem_of_getElem? (i := 23) (by decide +kernel), List.mem_of_getElem? (i := 327) (by decide +kernel), List.mem_of_getElem? (i := 328) (by decide +kernel)⟩
theorem lw_p20 : lw_okq (⟨"OneLantern", "lookAhead", "()V"⟩, 8) := ⟨⟨by decide +kernel, by decide +kernel⟩, List.mem_of_getElem? (i := 15) (by decide +kernel), List.mem_of_getElem? (i := 335) (by decide +kernel), List.mem_of_getElem? (i := 336) (by decide +kernel)⟩
theorem lw_p21 : lw_okq (⟨"OneLantern$Row", "takeFrom", "(LOneLantern$Row;)V"⟩, 10) := ⟨⟨by decide +kernel, by decide +kernel⟩, List.mem_of_getElem? (i := 23) (by decide +kernel), List.mem_of_getElem? (i := 339) (by decide +kernel), List.mem_of_getElem? (i := 340) (by decide +kernel)⟩
theorem lw_p22 : lw_okq (⟨"OneLantern", "stumbledIn", "(I)I"⟩, 8) := ⟨⟨by decide +kernel, by decide +kernel⟩, List.mem_of_getElem? (i := 15) (by decide +kernel), List.mem_of_getElem? (i := 347) (by decide +kernel), List.mem_of_getElem? (i := 348) (by decide +kernel)⟩
theorem lw_p23 : lw_okq (⟨"OneLantern$Row", "setRoot", "(IZ)V"⟩, 10) := ⟨⟨by decide +kernel, by decide +kernel⟩, List.mem_of_getElem? (i := 23) (by decide +kernel), List.mem_of_getElem? (i := 382) (by decide +kernel), List.mem_of_getElem? (i := 383) (by decide +kernel)⟩
theorem lw_p24 : lw_okq (⟨"OneLantern", "stumblesNoMore", "(II)Z"⟩, 8) := ⟨⟨by decide +kernel, by decide +kernel⟩, List.mem_of_getElem? (i := 15) (by decide +kernel), List.mem_of_getElem? (i := 390) (by decide +kernel), List.mem_of_getElem? (i := 391) (by decide +kernel)⟩
theorem lw_p25 : lw_okq (⟨"OneLantern$Tape", "add", "(B)V"⟩, 2) := ⟨⟨by decide +kernel, by decide +kernel⟩, List.mem_of_getElem? (i := 76) (by decide +kernel), List.mem_of_getElem? (i := 402) (by decide +kernel), List.mem_of_getElem? (i := 403) (by decide +kernel)⟩
theorem lw_p26 : lw_okq (⟨"OneLantern$NightReader", "tellTo", "(LOneLantern$Row;)I"⟩, 5) := ⟨⟨by decide +kernel, by decide +kernel⟩, List.mem_of_getElem? (i := 92) (by decide +kernel), List.mem_of_getElem? (i := 414) (by decide +kernel), List.mem_of_getElem? (i := 415) (by decide +kernel)⟩
theorem lw_p27 : lw_okq (⟨"OneLantern$NightReader", "next", "()V"⟩, 5) := ⟨⟨by decide +kernel, by decide +kernel⟩, List.mem_of_getElem? (i := 92) (by decide +kernel), List.mem_of_getElem? (i := 418) (by decide +kernel), List.mem_of_getElem? (i := 419) (by decide +kernel)⟩
theorem lw_p28 : lw_okq (⟨"OneLantern$NightReader", "behindBlanks", "()I"⟩, 5) := ⟨⟨by decide +kernel, by decide +kernel⟩, List.mem_of_getElem? (i := 92) (by decide +kernel), List.mem_of_getElem? (i := 422) (by decide +kernel), List.mem_of_getElem? (i := 423) (by decide +kernel)⟩
theorem lw_p29 : lw_okq (⟨"OneLantern$Tape", "at", "(I)I"⟩, 2) := ⟨⟨by decide +kernel, by decide +kernel⟩, List.mem_of_getElem? (i := 76) (by decide +kernel), List.mem_of_getElem? (i := 426) (by decide +kernel), List.mem_of_getElem? (i := 427) (by decide +kernel)⟩
theorem lw_p30 : lw_okq (⟨"OneLantern$NightReader", "takeNumber", "()V"⟩, 5) := ⟨⟨by decide +kernel, by decide +kernel⟩, List.mem_of_getElem? (i := 92) (by decide +kernel), List.mem_of_getElem? (i := 434) (by decide +kernel), List.mem_of_getElem? (i := 435) (by decide +kernel)⟩
theorem lw_p31 : lw_okq (⟨"OneLantern$NightReader", "takeWord", "()V"⟩, 5) := ⟨⟨by decide +kernel, by decide +kernel⟩, List.mem_of_getElem? (i := 92) (by decide +kernel), List.mem_of_getElem? (i := 441) (by decide +kernel), List.mem_of_getElem? (i := 442) (by decide +kernel)⟩
def lw_privs_2 : List (MethodName × Nat) := [(⟨"OneLantern$Row", "walk", "(I)V"⟩, 10), (⟨"OneLantern$Row", "isWarned", "(I)Z"⟩, 10), (⟨"OneLantern$Row", "sayOn", "(I)V"⟩, 10), (⟨"OneLantern$Row", "says", "(II)Z"⟩, 10), (⟨"OneLantern", "lookAhead", "()V"⟩, 8), (⟨"OneLantern$Row", "takeFrom", "(LOneLantern$Row;)V"⟩, 10), (⟨"OneLantern", "stumbledIn", "(I)I"⟩, 8), (⟨"OneLantern$Row", "setRoot", "(IZ)V"⟩, 10), (⟨"OneLantern", "stumblesNoMore", "(II)Z"⟩, 8), (⟨"OneLantern$Tape", "add", "(B)V"⟩, 2), (⟨"OneLantern$NightReader", "tellTo", "(LOneLantern$Row;)I"⟩, 5), (⟨"OneLantern$NightReader", "next", "()V"⟩, 5), (⟨"OneLantern$NightReader", "behindBlanks", "()I"⟩, 5), (⟨"OneLantern$Tape", "at", "(I)I"⟩, 2), (⟨"OneLantern$NightReader", "takeNumber", "()V"⟩, 5), (⟨"OneLantern$NightReader", "takeWord", "()V"⟩, 5)]
theorem lw_r2 : ∀ q ∈ lw_privs_2, lw_okq q := List.forall_mem_cons.mpr ⟨lw_p16, List.forall_mem_cons.mpr ⟨lw_p17, List.forall_mem_cons.mpr ⟨lw_p18, List.forall_mem_cons.mpr ⟨lw_p19, List.forall_mem_cons.mpr ⟨lw_p20, List.forall_mem_cons.mpr ⟨lw_p21, List.forall_mem_cons.mpr ⟨lw_p22, List.forall_mem_cons.mpr ⟨lw_p23, List.forall_mem_cons.mpr ⟨lw_p24, List.forall_mem_cons.mpr ⟨lw_p25, List.forall_mem_cons.mpr ⟨lw_p26, List.forall_mem_cons.mpr ⟨lw_p27, List.forall_mem_cons.mpr ⟨lw_p28, List.forall_mem_cons.mpr ⟨lw_p29, List.forall_mem_cons.mpr ⟨lw_p30, List.forall_mem_cons.mpr ⟨lw_p31, fun _ h => absurd h List.not_mem_nil⟩⟩⟩⟩⟩⟩⟩⟩⟩⟩⟩⟩⟩⟩⟩⟩
theorem lw_p32 : lw_okq (⟨"OneLantern$NightReader", "isWord", "(Ljava/lang/String;)Z"⟩, 5) := ⟨⟨by decide +kernel, by decide +kernel⟩, List.mem_of_getElem? (i := 92) (by decide +kernel), List.mem_of_getElem? (i := 461) (by decide +kernel), List.mem_of_getElem? (i := 462) (by decide +kernel)⟩
theorem lw_p33 : lw_okq (⟨"OneLantern$NightReader", "item", "(LOneLantern$Row;)Z"⟩, 5) := ⟨⟨by decide +kernel, by decide +kernel⟩, List.mem_of_getElem? (i := 92) (by decide +kernel), List.mem_of_getElem? (i := 513) (by decide +kernel), List.mem_of_getElem? (i := 514) (by decide +kernel)⟩
theorem lw_p34 : lw_okq (⟨"OneLantern$NightReader", "kindItem", "(LOneLantern$Row;)Z"⟩, 5) := ⟨⟨by decide +kernel, by decide +kernel⟩, List.mem_of_getElem? (i := 92) (by decide +kernel), List.mem_of_getElem? (i := 518) (by decide +kernel), List.mem_of_getElem? (i := 519) (by decide +kernel)⟩
theorem lw_p35 : lw_okq (⟨"OneLantern$NightReader", "nextIsNumber", "(I)Z"⟩, 5) := ⟨⟨by decide +kernel, by decide +kernel⟩, List.mem_of_getElem? (i := 92) (by decide +kernel), List.mem_of_getElem? (i := 524) (by decide +kernel), List.mem_of_getElem? (i := 525) (by decide +kernel)⟩
theorem lw_p36 : lw_okq (⟨"OneLantern$NightReader", "rootItem", "(LOneLantern$Row;Z)Z"⟩, 5) := ⟨⟨by decide +kernel, by decide +kernel⟩, List.mem_of_getElem? (i := 92) (by decide +kernel), List.mem_of_getElem? (i := 528) (by decide +kernel), List.mem_of_getElem? (i := 529) (by decide +kernel)⟩
theorem lw_p37 : lw_okq (⟨"OneLantern$NightReader", "lanternItem", "(LOneLantern$Row;)Z"⟩, 5) := ⟨⟨by decide +kernel, by decide +kernel⟩, List.mem_of_getElem? (i := 92) (by decide +kernel), List.mem_of_getElem? (i := 533) (by decide +kernel), List.mem_of_getElem? (i := 534) (by decide +kernel)⟩
theorem lw_p38 : lw_okq (⟨"OneLantern$NightReader", "brightItem", "(LOneLantern$Row;)Z"⟩, 5) := ⟨⟨by decide +kernel, by decide +kernel⟩, List.mem_of_getElem? (i := 92) (by decide +kernel), List.mem_of_getElem? (i := 537) (by decide +kernel), List.mem_of_getElem? (i := 538) (by decide +kernel)⟩
theorem lw_p39 : lw_okq (⟨"OneLantern$NightReader", "swapItem", "(LOneLantern$Row;)Z"⟩, 5) := ⟨⟨by decide +kernel, by decide +kernel⟩, List.mem_of_getElem? (i := 92) (by decide +kernel), List.mem_of_getElem? (i := 541) (by decide +kernel), List.mem_of_getElem? (i := 542) (by decide +kernel)⟩
theorem lw_p40 : lw_okq (⟨"OneLantern$Sheet", "renew", "(II)V"⟩, 3) := ⟨⟨by decide +kernel, by decide +kernel⟩, List.mem_of_getElem? (i := 115) (by decide +kernel), List.mem_of_getElem? (i := 557) (by decide +kernel), List.mem_of_getElem? (i := 558) (by decide +kernel)⟩
theorem lw_p41 : lw_okq (⟨"OneLantern$Sheet", "isMissing", "()Z"⟩, 3) := ⟨⟨by decide +kernel, by decide +kernel⟩, List.mem_of_getElem? (i := 115) (by decide +kernel), List.mem_of_getElem? (i := 565) (by decide +kernel), List.mem_of_getElem? (i := 566) (by decide +kernel)⟩
theorem lw_p42 : lw_okq (⟨"OneLantern$Sheet", "put", "(IJ)V"⟩, 3) := ⟨⟨by decide +kernel, by decide +kernel⟩, List.mem_of_getElem? (i := 115) (by decide +kernel), List.mem_of_getElem? (i := 570) (by decide +kernel), List.mem_of_getElem? (i := 571) (by decide +kernel)⟩
theorem lw_p43 : lw_okq (⟨"OneLantern$Sheet", "cut", "(J)J"⟩, 3) := ⟨⟨by decide +kernel, by decide +kernel⟩, List.mem_of_getElem? (i := 115) (by decide +kernel), List.mem_of_getElem? (i := 574) (by decide +kernel), List.mem_of_getElem? (i := 575) (by decide +kernel)⟩
theorem lw_p44 : lw_okq (⟨"OneLantern$Sheet", "spans", "(II)Z"⟩, 3) := ⟨⟨by decide +kernel, by decide +kernel⟩, List.mem_of_getElem? (i := 115) (by decide +kernel), List.mem_of_getElem? (i := 582) (by decide +kernel), List.mem_of_getElem? (i := 583) (by decide +kernel)⟩
theorem lw_p45 : lw_okq (⟨"OneLantern", "findingOfBook", "(II)I"⟩, 8) := ⟨⟨by decide +kernel, by decide +kernel⟩, List.mem_of_getElem? (i := 15) (by decide +kernel), List.mem_of_getElem? (i := 599) (by decide +kernel), List.mem_of_getElem? (i := 600) (by decide +kernel)⟩
theorem lw_p46 : lw_okq (⟨"OneLantern", "stumblesJustAs", "(LOneLantern$Sheet;I)Z"⟩, 8) := ⟨⟨by decide +kernel, by decide +kernel⟩, List.mem_of_getElem? (i := 15) (by decide +kernel), List.mem_of_getElem? (i := 607) (by decide +kernel), List.mem_of_getElem? (i := 608) (by decide +kernel)⟩
theorem lw_p47 : lw_okq (⟨"OneLantern$Row", "allNerve", "()I"⟩, 10) := ⟨⟨by decide +kernel, by decide +kernel⟩, List.mem_of_getElem? (i := 23) (by decide +kernel), List.mem_of_getElem? (i := 633) (by decide +kernel), List.mem_of_getElem? (i := 634) (by decide +kernel)⟩
def lw_privs_3 : List (MethodName × Nat) := [(⟨"OneLantern$NightReader", "isWord", "(Ljava/lang/String;)Z"⟩, 5), (⟨"OneLantern$NightReader", "item", "(LOneLantern$Row;)Z"⟩, 5), (⟨"OneLantern$NightReader", "kindItem", "(LOneLantern$Row;)Z"⟩, 5), (⟨"OneLantern$NightReader", "nextIsNumber", "(I)Z"⟩, 5), (⟨"OneLantern$NightReader", "rootItem", "(LOneLantern$Row;Z)Z"⟩, 5), (⟨"OneLantern$NightReader", "lanternItem", "(LOneLantern$Row;)Z"⟩, 5), (⟨"OneLantern$NightReader", "brightItem", "(LOneLantern$Row;)Z"⟩, 5), (⟨"OneLantern$NightReader", "swapItem", "(LOneLantern$Row;)Z"⟩, 5), (⟨"OneLantern$Sheet", "renew", "(II)V"⟩, 3), (⟨"OneLantern$Sheet", "isMissing", "()Z"⟩, 3), (⟨"OneLantern$Sheet", "put", "(IJ)V"⟩, 3), (⟨"OneLantern$Sheet", "cut", "(J)J"⟩, 3), (⟨"OneLantern$Sheet", "spans", "(II)Z"⟩, 3), (⟨"OneLantern", "findingOfBook", "(II)I"⟩, 8), (⟨"OneLantern", "stumblesJustAs", "(LOneLantern$Sheet;I)Z"⟩, 8), (⟨"OneLantern$Row", "allNerve", "()I"⟩, 10)]
theorem lw_r3 : ∀ q ∈ lw_privs_3, lw_okq q := List.forall_mem_cons.mpr ⟨lw_p32, List.forall_mem_cons.mpr ⟨lw_p33, List.forall_mem_cons.mpr ⟨lw_p34, List.forall_mem_cons.mpr ⟨lw_p35, List.forall_mem_cons.mpr ⟨lw_p36, List.forall_mem_cons.mpr ⟨lw_p37, List.forall_mem_cons.mpr ⟨lw_p38, List.forall_mem_cons.mpr ⟨lw_p39, List.forall_mem_cons.mpr ⟨lw_p40, List.forall_mem_cons.mpr ⟨lw_p41, List.forall_mem_cons.mpr ⟨lw_p42, List.forall_mem_cons.mpr ⟨lw_p43, List.forall_mem_cons.mpr ⟨lw_p44, List.forall_mem_cons.mpr ⟨lw_p45, List.forall_mem_cons.mpr ⟨lw_p46, List.forall_mem_cons.mpr ⟨lw_p47, fun _ h => absurd h List.not_mem_nil⟩⟩⟩⟩⟩⟩⟩⟩⟩⟩⟩⟩⟩⟩⟩⟩
theorem lw_p48 : lw_okq (⟨"OneLanternModel", "becomes", "(II)I"⟩, 17) := ⟨⟨by decide +kernel, by decide +kernel⟩, List.mem_of_getElem? (i := 641) (by decide +kernel), List.mem_of_getElem? (i := 707) (by decide +kernel), List.mem_of_getElem? (i := 708) (by decide +kernel)⟩
theorem lw_p49 : lw_okq (⟨"OneLanternModel", "finds", "(I)I"⟩, 17) := ⟨⟨by decide +kernel, by decide +kernel⟩, List.mem_of_getElem? (i := 641) (by decide +kernel), List.mem_of_getElem? (i := 712) (by decide +kernel), List.mem_of_getElem? (i := 713) (by decide +kernel)⟩
theorem lw_p50 : lw_okq (⟨"OneLanternModel", "isPlace", "(I)Z"⟩, 17) := ⟨⟨by decide +kernel, by decide +kernel⟩, List.mem_of_getElem? (i := 641) (by decide +kernel), List.mem_of_getElem? (i := 720) (by decide +kernel), List.mem_of_getElem? (i := 721) (by decide +kernel)⟩
theorem lw_p51 : lw_okq (⟨"OneLanternModel", "litOnes", "()I"⟩, 17) := ⟨⟨by decide +kernel, by decide +kernel⟩, List.mem_of_getElem? (i := 641) (by decide +kernel), List.mem_of_getElem? (i := 733) (by decide +kernel), List.mem_of_getElem? (i := 734) (by decide +kernel)⟩
theorem lw_p52 : lw_okq (⟨"OneLanternModel", "isLit", "(I)Z"⟩, 17) := ⟨⟨by decide +kernel, by decide +kernel⟩, List.mem_of_getElem? (i := 641) (by decide +kernel), List.mem_of_getElem? (i := 737) (by decide +kernel), List.mem_of_getElem? (i := 738) (by decide +kernel)⟩
theorem lw_p53 : lw_okq (⟨"OneLanternModel", "shadesOf", "(I)I"⟩, 17) := ⟨⟨by decide +kernel, by decide +kernel⟩, List.mem_of_getElem? (i := 641) (by decide +kernel), List.mem_of_getElem? (i := 741) (by decide +kernel), List.mem_of_getElem? (i := 742) (by decide +kernel)⟩
theorem lw_p54 : lw_okq (⟨"OneLanternModel", "its", "(II)I"⟩, 17) := ⟨⟨by decide +kernel, by decide +kernel⟩, List.mem_of_getElem? (i := 641) (by decide +kernel), List.mem_of_getElem? (i := 745) (by decide +kernel), List.mem_of_getElem? (i := 746) (by decide +kernel)⟩
theorem lw_p55 : lw_okq (⟨"OneLanternModel", "farOf", "(I)I"⟩, 17) := ⟨⟨by decide +kernel, by decide +kernel⟩, List.mem_of_getElem? (i := 641) (by decide +kernel), List.mem_of_getElem? (i := 752) (by decide +kernel), List.mem_of_getElem? (i := 753) (by decide +kernel)⟩
theorem lw_p56 : lw_okq (⟨"OneLanternModel", "rootedOnes", "()I"⟩, 17) := ⟨⟨by decide +kernel, by decide +kernel⟩, List.mem_of_getElem? (i := 641) (by decide +kernel), List.mem_of_getElem? (i := 756) (by decide +kernel), List.mem_of_getElem? (i := 757) (by decide +kernel)⟩
theorem lw_p57 : lw_okq (⟨"OneLanternModel", "isAtRoot", "(I)Z"⟩, 17) := ⟨⟨by decide +kernel, by decide +kernel⟩, List.mem_of_getElem? (i := 641) (by decide +kernel), List.mem_of_getElem? (i := 760) (by decide +kernel), List.mem_of_getElem? (i := 761) (by decide +kernel)⟩
theorem lw_p58 : lw_okq (⟨"OneLanternModel", "paceOf", "(I)I"⟩, 17) := ⟨⟨by decide +kernel, by decide +kernel⟩, List.mem_of_getElem? (i := 641) (by decide +kernel), List.mem_of_getElem? (i := 764) (by decide +kernel), List.mem_of_getElem? (i := 765) (by decide +kernel)⟩
theorem lw_p59 : lw_okq (⟨"OneLanternModel", "heardOnes", "()I"⟩, 17) := ⟨⟨by decide +kernel, by decide +kernel⟩, List.mem_of_getElem? (i := 641) (by decide +kernel), List.mem_of_getElem? (i := 768) (by decide +kernel), List.mem_of_getElem? (i := 769) (by decide +kernel)⟩
theorem lw_p60 : lw_okq (⟨"OneLanternModel", "together", "(I)I"⟩, 17) := ⟨⟨by decide +kernel, by decide +kernel⟩, List.mem_of_getElem? (i := 641) (by decide +kernel), List.mem_of_getElem? (i := 772) (by decide +kernel), List.mem_of_getElem? (i := 773) (by decide +kernel)⟩
theorem lw_p61 : lw_okq (⟨"OneLanternModel", "adds", "(I)I"⟩, 17) := ⟨⟨by decide +kernel, by decide +kernel⟩, List.mem_of_getElem? (i := 641) (by decide +kernel), List.mem_of_getElem? (i := 785) (by decide +kernel), List.mem_of_getElem? (i := 786) (by decide +kernel)⟩
theorem lw_p62 : lw_okq (⟨"OneLanternModel", "isSeeing", "(I)Z"⟩, 17) := ⟨⟨by decide +kernel, by decide +kernel⟩, List.mem_of_getElem? (i := 641) (by decide +kernel), List.mem_of_getElem? (i := 793) (by decide +kernel), List.mem_of_getElem? (i := 794) (by decide +kernel)⟩
theorem lw_p63 : lw_okq (⟨"OneLanternModel", "isHeeding", "(I)Z"⟩, 17) := ⟨⟨by decide +kernel, by decide +kernel⟩, List.mem_of_getElem? (i := 641) (by decide +kernel), List.mem_of_getElem? (i := 797) (by decide +kernel), List.mem_of_getElem? (i := 798) (by decide +kernel)⟩
def lw_privs_4 : List (MethodName × Nat) := [(⟨"OneLanternModel", "becomes", "(II)I"⟩, 17), (⟨"OneLanternModel", "finds", "(I)I"⟩, 17), (⟨"OneLanternModel", "isPlace", "(I)Z"⟩, 17), (⟨"OneLanternModel", "litOnes", "()I"⟩, 17), (⟨"OneLanternModel", "isLit", "(I)Z"⟩, 17), (⟨"OneLanternModel", "shadesOf", "(I)I"⟩, 17), (⟨"OneLanternModel", "its", "(II)I"⟩, 17), (⟨"OneLanternModel", "farOf", "(I)I"⟩, 17), (⟨"OneLanternModel", "rootedOnes", "()I"⟩, 17), (⟨"OneLanternModel", "isAtRoot", "(I)Z"⟩, 17), (⟨"OneLanternModel", "paceOf", "(I)I"⟩, 17), (⟨"OneLanternModel", "heardOnes", "()I"⟩, 17), (⟨"OneLanternModel", "together", "(I)I"⟩, 17), (⟨"OneLanternModel", "adds", "(I)I"⟩, 17), (⟨"OneLanternModel", "isSeeing", "(I)Z"⟩, 17), (⟨"OneLanternModel", "isHeeding", "(I)Z"⟩, 17)]
theorem lw_r4 : ∀ q ∈ lw_privs_4, lw_okq q := List.forall_mem_cons.mpr ⟨lw_p48, List.forall_mem_cons.mpr ⟨lw_p49, List.forall_mem_cons.mpr ⟨lw_p50, List.forall_mem_cons.mpr ⟨lw_p51, List.forall_mem_cons.mpr ⟨lw_p52, List.forall_mem_cons.mpr ⟨lw_p53, List.forall_mem_cons.mpr ⟨lw_p54, List.forall_mem_cons.mpr ⟨lw_p55, List.forall_mem_cons.mpr ⟨lw_p56, List.forall_mem_cons.mpr ⟨lw_p57, List.forall_mem_cons.mpr ⟨lw_p58, List.forall_mem_cons.mpr ⟨lw_p59, List.forall_mem_cons.mpr ⟨lw_p60, List.forall_mem_cons.mpr ⟨lw_p61, List.forall_mem_cons.mpr ⟨lw_p62, List.forall_mem_cons.mpr ⟨lw_p63, fun _ h => absurd h List.not_mem_nil⟩⟩⟩⟩⟩⟩⟩⟩⟩⟩⟩⟩⟩⟩⟩⟩
theorem lw_p64 : lw_okq (⟨"OneLanternModel", "swaps", "(II)V"⟩, 17) := ⟨⟨by decide +kernel, by decide +kernel⟩, List.mem_of_getElem? (i := 641) (by decide +kernel), List.mem_of_getElem? (i := 813) (by decide +kernel), List.mem_of_getElem? (i := 814) (by decide +kernel)⟩
theorem lw_p65 : lw_okq (⟨"OneLanternModel", "stepsGo", "(I)V"⟩, 17) := ⟨⟨by decide +kernel, by decide +kernel⟩, List.mem_of_getElem? (i := 641) (by decide +kernel), List.mem_of_getElem? (i := 836) (by decide +kernel), List.mem_of_getElem? (i := 837) (by decide +kernel)⟩
theorem lw_p66 : lw_okq (⟨"OneLanternModel", "step", "()V"⟩, 17) := ⟨⟨by decide +kernel, by decide +kernel⟩, List.mem_of_getElem? (i := 641) (by decide +kernel), List.mem_of_getElem? (i := 840) (by decide +kernel), List.mem_of_getElem? (i := 841) (by decide +kernel)⟩
theorem lw_p67 : lw_okq (⟨"OneLanternModel", "treads", "(I)V"⟩, 17) := ⟨⟨by decide +kernel, by decide +kernel⟩, List.mem_of_getElem? (i := 641) (by decide +kernel), List.mem_of_getElem? (i := 844) (by decide +kernel), List.mem_of_getElem? (i := 845) (by decide +kernel)⟩
theorem lw_p68 : lw_okq (⟨"OneLanternModel", "isSaying", "(I)Z"⟩, 17) := ⟨⟨by decide +kernel, by decide +kernel⟩, List.mem_of_getElem? (i := 641) (by decide +kernel), List.mem_of_getElem? (i := 848) (by decide +kernel), List.mem_of_getElem? (i := 849) (by decide +kernel)⟩
theorem lw_p69 : lw_okq (⟨"OneLanternModel", "behind", "(II)I"⟩, 17) := ⟨⟨by decide +kernel, by decide +kernel⟩, List.mem_of_getElem? (i := 641) (by decide +kernel), List.mem_of_getElem? (i := 860) (by decide +kernel), List.mem_of_getElem? (i := 861) (by decide +kernel)⟩
theorem lw_p70 : lw_okq (⟨"OneLanternModel", "laysAside", "()V"⟩, 17) := ⟨⟨by decide +kernel, by decide +kernel⟩, List.mem_of_getElem? (i := 641) (by decide +kernel), List.mem_of_getElem? (i := 864) (by decide +kernel), List.mem_of_getElem? (i := 865) (by decide +kernel)⟩
theorem lw_p71 : lw_okq (⟨"OneLanternModel", "takesBack", "(I)I"⟩, 17) := ⟨⟨by decide +kernel, by decide +kernel⟩, List.mem_of_getElem? (i := 641) (by decide +kernel), List.mem_of_getElem? (i := 868) (by decide +kernel), List.mem_of_getElem? (i := 869) (by decide +kernel)⟩
theorem lw_p72 : lw_okq (⟨"OneLanternModel", "toldAt", "(I)I"⟩, 17) := ⟨⟨by decide +kernel, by decide +kernel⟩, List.mem_of_getElem? (i := 641) (by decide +kernel), List.mem_of_getElem? (i := 880) (by decide +kernel), List.mem_of_getElem? (i := 881) (by decide +kernel)⟩
theorem lw_p73 : lw_okq (⟨"OneLanternModel", "leastBy", "(IIII)I"⟩, 17) := ⟨⟨by decide +kernel, by decide +kernel⟩, List.mem_of_getElem? (i := 641) (by decide +kernel), List.mem_of_getElem? (i := 897) (by decide +kernel), List.mem_of_getElem? (i := 898) (by decide +kernel)⟩
theorem lw_p74 : lw_okq (⟨"OneLanternModel", "saves", "()V"⟩, 17) := ⟨⟨by decide +kernel, by decide +kernel⟩, List.mem_of_getElem? (i := 641) (by decide +kernel), List.mem_of_getElem? (i := 940) (by decide +kernel), List.mem_of_getElem? (i := 941) (by decide +kernel)⟩
theorem lw_p75 : lw_okq (⟨"OneLanternModel", "token", "()V"⟩, 17) := ⟨⟨by decide +kernel, by decide +kernel⟩, List.mem_of_getElem? (i := 641) (by decide +kernel), List.mem_of_getElem? (i := 944) (by decide +kernel), List.mem_of_getElem? (i := 945) (by decide +kernel)⟩
theorem lw_p76 : lw_okq (⟨"OneLanternModel", "byteAt", "(I)I"⟩, 17) := ⟨⟨by decide +kernel, by decide +kernel⟩, List.mem_of_getElem? (i := 641) (by decide +kernel), List.mem_of_getElem? (i := 948) (by decide +kernel), List.mem_of_getElem? (i := 949) (by decide +kernel)⟩
theorem lw_p77 : lw_okq (⟨"OneLanternModel", "item", "()V"⟩, 17) := ⟨⟨by decide +kernel, by decide +kernel⟩, List.mem_of_getElem? (i := 641) (by decide +kernel), List.mem_of_getElem? (i := 962) (by decide +kernel), List.mem_of_getElem? (i := 963) (by decide +kernel)⟩
theorem lw_p78 : lw_okq (⟨"OneLanternModel", "kindHere", "()I"⟩, 17) := ⟨⟨by decide +kernel, by decide +kernel⟩, List.mem_of_getElem? (i := 641) (by decide +kernel), List.mem_of_getElem? (i := 966) (by decide +kernel), List.mem_of_getElem? (i := 967) (by decide +kernel)⟩
theorem lw_p79 : lw_okq (⟨"OneLanternModel", "word", "()J"⟩, 17) := ⟨⟨by decide +kernel, by decide +kernel⟩, List.mem_of_getElem? (i := 641) (by decide +kernel), List.mem_of_getElem? (i := 970) (by decide +kernel), List.mem_of_getElem? (i := 971) (by decide +kernel)⟩
def lw_privs_5 : List (MethodName × Nat) := [(⟨"OneLanternModel", "swaps", "(II)V"⟩, 17), (⟨"OneLanternModel", "stepsGo", "(I)V"⟩, 17), (⟨"OneLanternModel", "step", "()V"⟩, 17), (⟨"OneLanternModel", "treads", "(I)V"⟩, 17), (⟨"OneLanternModel", "isSaying", "(I)Z"⟩, 17), (⟨"OneLanternModel", "behind", "(II)I"⟩, 17), (⟨"OneLanternModel", "laysAside", "()V"⟩, 17), (⟨"OneLanternModel", "takesBack", "(I)I"⟩, 17), (⟨"OneLanternModel", "toldAt", "(I)I"⟩, 17), (⟨"OneLanternModel", "leastBy", "(IIII)I"⟩, 17), (⟨"OneLanternModel", "saves", "()V"⟩, 17), (⟨"OneLanternModel", "token", "()V"⟩, 17), (⟨"OneLanternModel", "byteAt", "(I)I"⟩, 17), (⟨"OneLanternModel", "item", "()V"⟩, 17), (⟨"OneLanternModel", "kindHere", "()I"⟩, 17), (⟨"OneLanternModel", "word", "()J"⟩, 17)]
theorem lw_r5 : ∀ q ∈ lw_privs_5, lw_okq q := List.forall_mem_cons.mpr ⟨lw_p64, List.forall_mem_cons.mpr ⟨lw_p65, List.forall_mem_cons.mpr ⟨lw_p66, List.forall_mem_cons.mpr ⟨lw_p67, List.forall_mem_cons.mpr ⟨lw_p68, List.forall_mem_cons.mpr ⟨lw_p69, List.forall_mem_cons.mpr ⟨lw_p70, List.forall_mem_cons.mpr ⟨lw_p71, List.forall_mem_cons.mpr ⟨lw_p72, List.forall_mem_cons.mpr ⟨lw_p73, List.forall_mem_cons.mpr ⟨lw_p74, List.forall_mem_cons.mpr ⟨lw_p75, List.forall_mem_cons.mpr ⟨lw_p76, List.forall_mem_cons.mpr ⟨lw_p77, List.forall_mem_cons.mpr ⟨lw_p78, List.forall_mem_cons.mpr ⟨lw_p79, fun _ h => absurd h List.not_mem_nil⟩⟩⟩⟩⟩⟩⟩⟩⟩⟩⟩⟩⟩⟩⟩⟩
theorem lw_p80 : lw_okq (⟨"OneLanternModel", "walkerItem", "(I)V"⟩, 17) := ⟨⟨by decide +kernel, by decide +kernel⟩, List.mem_of_getElem? (i := 641) (by decide +kernel), List.mem_of_getElem? (i := 982) (by decide +kernel), List.mem_of_getElem? (i := 983) (by decide +kernel)⟩
theorem lw_p81 : lw_okq (⟨"OneLanternModel", "must", "(Z)V"⟩, 17) := ⟨⟨by decide +kernel, by decide +kernel⟩, List.mem_of_getElem? (i := 641) (by decide +kernel), List.mem_of_getElem? (i := 986) (by decide +kernel), List.mem_of_getElem? (i := 987) (by decide +kernel)⟩
theorem lw_p82 : lw_okq (⟨"OneLanternModel", "number", "(II)V"⟩, 17) := ⟨⟨by decide +kernel, by decide +kernel⟩, List.mem_of_getElem? (i := 641) (by decide +kernel), List.mem_of_getElem? (i := 991) (by decide +kernel), List.mem_of_getElem? (i := 992) (by decide +kernel)⟩
theorem lw_p83 : lw_okq (⟨"OneLanternModel", "rootItem", "(Z)V"⟩, 17) := ⟨⟨by decide +kernel, by decide +kernel⟩, List.mem_of_getElem? (i := 641) (by decide +kernel), List.mem_of_getElem? (i := 997) (by decide +kernel), List.mem_of_getElem? (i := 998) (by decide +kernel)⟩
theorem lw_p84 : lw_okq (⟨"OneLanternModel", "toldItem", "(II)V"⟩, 17) := ⟨⟨by decide +kernel, by decide +kernel⟩, List.mem_of_getElem? (i := 641) (by decide +kernel), List.mem_of_getElem? (i := 1002) (by decide +kernel), List.mem_of_getElem? (i := 1003) (by decide +kernel)⟩
theorem lw_p85 : lw_okq (⟨"OneLanternModel", "swapItem", "()V"⟩, 17) := ⟨⟨by decide +kernel, by decide +kernel⟩, List.mem_of_getElem? (i := 641) (by decide +kernel), List.mem_of_getElem? (i := 1008) (by decide +kernel), List.mem_of_getElem? (i := 1009) (by decide +kernel)⟩
theorem lw_p86 : lw_okq (⟨"OneLanternModel", "numberHere", "()I"⟩, 17) := ⟨⟨by decide +kernel, by decide +kernel⟩, List.mem_of_getElem? (i := 641) (by decide +kernel), List.mem_of_getElem? (i := 1012) (by decide +kernel), List.mem_of_getElem? (i := 1013) (by decide +kernel)⟩
theorem lw_p87 : lw_okq (⟨"OneLanternModel", "putsBack", "()V"⟩, 17) := ⟨⟨by decide +kernel, by decide +kernel⟩, List.mem_of_getElem? (i := 641) (by decide +kernel), List.mem_of_getElem? (i := 1016) (by decide +kernel), List.mem_of_getElem? (i := 1017) (by decide +kernel)⟩
theorem lw_p88 : lw_okq (⟨"OneLanternModel", "wrongSheet", "(I)I"⟩, 17) := ⟨⟨by decide +kernel, by decide +kernel⟩, List.mem_of_getElem? (i := 641) (by decide +kernel), List.mem_of_getElem? (i := 1033) (by decide +kernel), List.mem_of_getElem? (i := 1034) (by decide +kernel)⟩
theorem lw_p89 : lw_okq (⟨"OneLanternModel", "isBook", "(II)Z"⟩, 17) := ⟨⟨by decide +kernel, by decide +kernel⟩, List.mem_of_getElem? (i := 641) (by decide +kernel), List.mem_of_getElem? (i := 1057) (by decide +kernel), List.mem_of_getElem? (i := 1058) (by decide +kernel)⟩
theorem lw_p90 : lw_okq (⟨"OneLanternModel", "rootsMany", "()I"⟩, 17) := ⟨⟨by decide +kernel, by decide +kernel⟩, List.mem_of_getElem? (i := 641) (by decide +kernel), List.mem_of_getElem? (i := 1077) (by decide +kernel), List.mem_of_getElem? (i := 1078) (by decide +kernel)⟩
def lw_privs_6 : List (MethodName × Nat) := [(⟨"OneLanternModel", "walkerItem", "(I)V"⟩, 17), (⟨"OneLanternModel", "must", "(Z)V"⟩, 17), (⟨"OneLanternModel", "number", "(II)V"⟩, 17), (⟨"OneLanternModel", "rootItem", "(Z)V"⟩, 17), (⟨"OneLanternModel", "toldItem", "(II)V"⟩, 17), (⟨"OneLanternModel", "swapItem", "()V"⟩, 17), (⟨"OneLanternModel", "numberHere", "()I"⟩, 17), (⟨"OneLanternModel", "putsBack", "()V"⟩, 17), (⟨"OneLanternModel", "wrongSheet", "(I)I"⟩, 17), (⟨"OneLanternModel", "isBook", "(II)Z"⟩, 17), (⟨"OneLanternModel", "rootsMany", "()I"⟩, 17)]
theorem lw_r6 : ∀ q ∈ lw_privs_6, lw_okq q := List.forall_mem_cons.mpr ⟨lw_p80, List.forall_mem_cons.mpr ⟨lw_p81, List.forall_mem_cons.mpr ⟨lw_p82, List.forall_mem_cons.mpr ⟨lw_p83, List.forall_mem_cons.mpr ⟨lw_p84, List.forall_mem_cons.mpr ⟨lw_p85, List.forall_mem_cons.mpr ⟨lw_p86, List.forall_mem_cons.mpr ⟨lw_p87, List.forall_mem_cons.mpr ⟨lw_p88, List.forall_mem_cons.mpr ⟨lw_p89, List.forall_mem_cons.mpr ⟨lw_p90, fun _ h => absurd h List.not_mem_nil⟩⟩⟩⟩⟩⟩⟩⟩⟩⟩⟩
def lw_privs : List (MethodName × Nat) := lw_privs_1 ++ (lw_privs_2 ++ (lw_privs_3 ++ (lw_privs_4 ++ (lw_privs_5 ++ (lw_privs_6)))))
def lw_tbl : List Cond := k2_sels lw_privs ++ tables_1
theorem lw_privs_ok : ∀ q ∈ lw_privs, lw_okq q := by
  show ∀ q ∈ lw_privs_1 ++ (lw_privs_2 ++ (lw_privs_3 ++ (lw_privs_4 ++ (lw_privs_5 ++ (lw_privs_6))))), lw_okq q
  exact List.forall_mem_append.mpr ⟨lw_r1, List.forall_mem_append.mpr ⟨lw_r2, List.forall_mem_append.mpr ⟨lw_r3, List.forall_mem_append.mpr ⟨lw_r4, List.forall_mem_append.mpr ⟨lw_r5, lw_r6⟩⟩⟩⟩⟩
end
section
def RX0 : String := "OneLantern$NightReader"
def TX0 : u_T := fun k => match k with
  | 0 => ("OneLantern$NightReader", "tape", "LOneLantern$Tape;", true)
  | 1 => ("OneLantern$NightReader", "token", "I", false)
  | 2 => ("OneLantern$NightReader", "start", "I", false)
  | 3 => ("OneLantern$NightReader", "behind", "I", false)
  | _ => ("OneLantern$NightReader", "number", "I", false)
def tyX0 : Nat → FieldType := fun k => match k with
  | 0 => .object "OneLantern$Tape"
  | 1 => .int
  | 2 => .int
  | 3 => .int
  | _ => .int
abbrev wsX00 : List Cond := u_ws RX0 TX0 5
theorem nmX0 : ∀ a, a < 5 → ∀ b, b < 5 → a ≠ b → (TX0 a).2.1 ≠ (TX0 b).2.1 := by decide +kernel
theorem tyX0_ok : ∀ k, k < 5 → parseFieldDescriptor (TX0 k).2.2.1 = some (tyX0 k) := by decide +kernel
abbrev cX0_init : ByteArray := prog_2_method_1_code
def yX0_init : MethodName := ⟨RX0, "<init>", "(LOneLantern$Tape;)V"⟩
abbrev cX0_tellTo : ByteArray := prog_2_method_2_code
def yX0_tellTo : MethodName := ⟨RX0, "tellTo", "(LOneLantern$Row;)I"⟩
abbrev cX0_item : ByteArray := prog_2_method_3_code
def yX0_item : MethodName := ⟨RX0, "item", "(LOneLantern$Row;)Z"⟩
abbrev cX0_kindItem : ByteArray := prog_2_method_4_code
def yX0_kindItem : MethodName := ⟨RX0, "kindItem", "(LOneLantern$Row;)Z"⟩
abbrev cX0_rootItem : ByteArray := prog_2_method_5_code
def yX0_rootItem : MethodName := ⟨RX0, "rootItem", "(LOneLantern$Row;Z)Z"⟩
abbrev cX0_lanternItem : ByteArray := prog_2_method_6_code
def yX0_lanternItem : MethodName := ⟨RX0, "lanternItem", "(LOneLantern$Row;)Z"⟩
abbrev cX0_brightItem : ByteArray := prog_2_method_7_code
def yX0_brightItem : MethodName := ⟨RX0, "brightItem", "(LOneLantern$Row;)Z"⟩
abbrev cX0_swapItem : ByteArray := prog_2_method_8_code
def yX0_swapItem : MethodName := ⟨RX0, "swapItem", "(LOneLantern$Row;)Z"⟩
abbrev cX0_nextIsNumber : ByteArray := prog_2_method_9_code
def yX0_nextIsNumber : MethodName := ⟨RX0, "nextIsNumber", "(I)Z"⟩
abbrev cX0_next : ByteArray := prog_2_method_10_code
def yX0_next : MethodName := ⟨RX0, "next", "()V"⟩
abbrev cX0_behindBlanks : ByteArray := prog_2_method_11_code
def yX0_behindBlanks : MethodName := ⟨RX0, "behindBlanks", "()I"⟩
abbrev cX0_takeNumber : ByteArray := prog_2_method_12_code
def yX0_takeNumber : MethodName := ⟨RX0, "takeNumber", "()V"⟩
abbrev cX0_takeWord : ByteArray := prog_2_method_13_code
def yX0_takeWord : MethodName := ⟨RX0, "takeWord", "()V"⟩
abbrev cX0_isWord : ByteArray := prog_2_method_14_code
def yX0_isWord : MethodName := ⟨RX0, "isWord", "(Ljava/lang/String;)Z"⟩
abbrev cX0_textOf : ByteArray := prog_2_method_15_code
def yX0_textOf : MethodName := ⟨RX0, "textOf", "(I)Ljava/lang/String;"⟩
abbrev cX0_isDigit : ByteArray := prog_2_method_16_code
def yX0_isDigit : MethodName := ⟨RX0, "isDigit", "(I)Z"⟩
abbrev cX0_isLetter : ByteArray := prog_2_method_17_code
def yX0_isLetter : MethodName := ⟨RX0, "isLetter", "(I)Z"⟩
def RX1 : String := "OneLantern$Row"
def TX1 : u_T := fun k => match k with
  | 0 => ("OneLantern$Row", "step", "I", false)
  | 1 => ("OneLantern$Row", "roots", "I", false)
  | 2 => ("OneLantern$Row", "lantern", "I", false)
  | 3 => ("OneLantern$Row", "bright", "I", false)
  | 4 => ("OneLantern$Row", "count", "I", false)
  | 5 => ("OneLantern$Row", "kinds", "[I", true)
  | 6 => ("OneLantern$Row", "heard", "[I", true)
  | 7 => ("OneLantern$Row", "stumbled", "[I", true)
  | 8 => ("OneLantern$Row", "nerves", "[I", true)
  | _ => ("OneLantern$Row", "fallen", "I", false)
def tyX1 : Nat → FieldType := fun k => match k with
  | 0 => .int
  | 1 => .int
  | 2 => .int
  | 3 => .int
  | 4 => .int
  | 5 => .array .int
  | 6 => .array .int
  | 7 => .array .int
  | 8 => .array .int
  | _ => .int
abbrev wsX10 : List Cond := u_ws RX1 TX1 10
theorem nmX1 : ∀ a, a < 10 → ∀ b, b < 10 → a ≠ b → (TX1 a).2.1 ≠ (TX1 b).2.1 := by decide +kernel
theorem tyX1_ok : ∀ k, k < 10 → parseFieldDescriptor (TX1 k).2.2.1 = some (tyX1 k) := by decide +kernel
abbrev cX1_init : ByteArray := prog_3_method_1_code
def yX1_init : MethodName := ⟨RX1, "<init>", "()V"⟩
abbrev cX1_takeFrom : ByteArray := prog_3_method_2_code
def yX1_takeFrom : MethodName := ⟨RX1, "takeFrom", "(LOneLantern$Row;)V"⟩
abbrev cX1_has : ByteArray := prog_3_method_3_code
def yX1_has : MethodName := ⟨RX1, "has", "(I)Z"⟩
abbrev cX1_isFull : ByteArray := prog_3_method_4_code
def yX1_isFull : MethodName := ⟨RX1, "isFull", "()Z"⟩
abbrev cX1_add : ByteArray := prog_3_method_5_code
def yX1_add : MethodName := ⟨RX1, "add", "(I)V"⟩
abbrev cX1_exchange : ByteArray := prog_3_method_6_code
def yX1_exchange : MethodName := ⟨RX1, "exchange", "(II)V"⟩
abbrev cX1_exchangeIn : ByteArray := prog_3_method_7_code
def yX1_exchangeIn : MethodName := ⟨RX1, "exchangeIn", "([III)V"⟩
abbrev cX1_setRoot : ByteArray := prog_3_method_8_code
def yX1_setRoot : MethodName := ⟨RX1, "setRoot", "(IZ)V"⟩
abbrev cX1_paceOf : ByteArray := prog_3_method_9_code
def yX1_paceOf : MethodName := ⟨RX1, "paceOf", "(I)I"⟩
abbrev cX1_litSet : ByteArray := prog_3_method_10_code
def yX1_litSet : MethodName := ⟨RX1, "litSet", "()I"⟩
abbrev cX1_atRootSet : ByteArray := prog_3_method_11_code
def yX1_atRootSet : MethodName := ⟨RX1, "atRootSet", "()I"⟩
abbrev cX1_heardSet : ByteArray := prog_3_method_12_code
def yX1_heardSet : MethodName := ⟨RX1, "heardSet", "()I"⟩
abbrev cX1_allStumbled : ByteArray := prog_3_method_13_code
def yX1_allStumbled : MethodName := ⟨RX1, "allStumbled", "()I"⟩
abbrev cX1_allNerve : ByteArray := prog_3_method_14_code
def yX1_allNerve : MethodName := ⟨RX1, "allNerve", "()I"⟩
abbrev cX1_seeingSet : ByteArray := prog_3_method_15_code
def yX1_seeingSet : MethodName := ⟨RX1, "seeingSet", "()I"⟩
abbrev cX1_sees : ByteArray := prog_3_method_16_code
def yX1_sees : MethodName := ⟨RX1, "sees", "(IZ)Z"⟩
abbrev cX1_heeds : ByteArray := prog_3_method_17_code
def yX1_heeds : MethodName := ⟨RX1, "heeds", "(I)Z"⟩
abbrev cX1_says : ByteArray := prog_3_method_18_code
def yX1_says : MethodName := ⟨RX1, "says", "(II)Z"⟩
abbrev cX1_isWarned : ByteArray := prog_3_method_19_code
def yX1_isWarned : MethodName := ⟨RX1, "isWarned", "(I)Z"⟩
abbrev cX1_goSteps : ByteArray := prog_3_method_20_code
def yX1_goSteps : MethodName := ⟨RX1, "goSteps", "(I)V"⟩
abbrev cX1_goStep : ByteArray := prog_3_method_21_code
def yX1_goStep : MethodName := ⟨RX1, "goStep", "()V"⟩
abbrev cX1_walk : ByteArray := prog_3_method_22_code
def yX1_walk : MethodName := ⟨RX1, "walk", "(I)V"⟩
abbrev cX1_sayOn : ByteArray := prog_3_method_23_code
def yX1_sayOn : MethodName := ⟨RX1, "sayOn", "(I)V"⟩
def RX2 : String := "OneLantern$Sheet"
def TX2 : u_T := fun k => match k with
  | 0 => ("OneLantern$Sheet", "bits", "I", false)
  | 1 => ("OneLantern$Sheet", "size", "I", false)
  | _ => ("OneLantern$Sheet", "numbers", "[J", true)
def tyX2 : Nat → FieldType := fun k => match k with
  | 0 => .int
  | 1 => .int
  | _ => .array .long
abbrev wsX20 : List Cond := u_ws RX2 TX2 3
theorem nmX2 : ∀ a, a < 3 → ∀ b, b < 3 → a ≠ b → (TX2 a).2.1 ≠ (TX2 b).2.1 := by decide +kernel
theorem tyX2_ok : ∀ k, k < 3 → parseFieldDescriptor (TX2 k).2.2.1 = some (tyX2 k) := by decide +kernel
abbrev cX2_init : ByteArray := prog_4_method_1_code
def yX2_init : MethodName := ⟨RX2, "<init>", "()V"⟩
abbrev cX2_isMissing : ByteArray := prog_4_method_2_code
def yX2_isMissing : MethodName := ⟨RX2, "isMissing", "()Z"⟩
abbrev cX2_renew : ByteArray := prog_4_method_3_code
def yX2_renew : MethodName := ⟨RX2, "renew", "(II)V"⟩
abbrev cX2_spans : ByteArray := prog_4_method_4_code
def yX2_spans : MethodName := ⟨RX2, "spans", "(II)Z"⟩
abbrev cX2_put : ByteArray := prog_4_method_5_code
def yX2_put : MethodName := ⟨RX2, "put", "(IJ)V"⟩
abbrev cX2_cut : ByteArray := prog_4_method_6_code
def yX2_cut : MethodName := ⟨RX2, "cut", "(J)J"⟩
def RX3 : String := "OneLantern$Tape"
def TX3 : u_T := fun k => match k with
  | 0 => ("OneLantern$Tape", "bytes", "[B", true)
  | _ => ("OneLantern$Tape", "length", "I", false)
def tyX3 : Nat → FieldType := fun k => match k with
  | 0 => .array .byte
  | _ => .int
abbrev wsX30 : List Cond := u_ws RX3 TX3 2
theorem nmX3 : ∀ a, a < 2 → ∀ b, b < 2 → a ≠ b → (TX3 a).2.1 ≠ (TX3 b).2.1 := by decide +kernel
theorem tyX3_ok : ∀ k, k < 2 → parseFieldDescriptor (TX3 k).2.2.1 = some (tyX3 k) := by decide +kernel
abbrev cX3_init : ByteArray := prog_5_method_1_code
def yX3_init : MethodName := ⟨RX3, "<init>", "()V"⟩
abbrev cX3_add : ByteArray := prog_5_method_2_code
def yX3_add : MethodName := ⟨RX3, "add", "(B)V"⟩
abbrev cX3_at : ByteArray := prog_5_method_3_code
def yX3_at : MethodName := ⟨RX3, "at", "(I)I"⟩
def RX4 : String := "OneLantern"
def TX4 : u_T := fun k => match k with
  | 0 => ("OneLantern", "row", "LOneLantern$Row;", true)
  | 1 => ("OneLantern", "ahead", "LOneLantern$Row;", true)
  | 2 => ("OneLantern", "kept", "LOneLantern$Row;", true)
  | 3 => ("OneLantern", "isKept", "Z", false)
  | 4 => ("OneLantern", "tape", "LOneLantern$Tape;", true)
  | 5 => ("OneLantern", "reader", "LOneLantern$NightReader;", true)
  | 6 => ("OneLantern", "sheets", "[LOneLantern$Sheet;", true)
  | _ => ("OneLantern", "told", "[I", true)
def tyX4 : Nat → FieldType := fun k => match k with
  | 0 => .object "OneLantern$Row"
  | 1 => .object "OneLantern$Row"
  | 2 => .object "OneLantern$Row"
  | 3 => .boolean
  | 4 => .object "OneLantern$Tape"
  | 5 => .object "OneLantern$NightReader"
  | 6 => .array (.object "OneLantern$Sheet")
  | _ => .array .int
abbrev wsX40 : List Cond := u_ws RX4 TX4 8
theorem nmX4 : ∀ a, a < 8 → ∀ b, b < 8 → a ≠ b → (TX4 a).2.1 ≠ (TX4 b).2.1 := by decide +kernel
theorem tyX4_ok : ∀ k, k < 8 → parseFieldDescriptor (TX4 k).2.2.1 = some (tyX4 k) := by decide +kernel
abbrev cX4_init : ByteArray := prog_1_method_1_code
def yX4_init : MethodName := ⟨RX4, "<init>", "()V"⟩
abbrev cX4_roots : ByteArray := prog_1_method_2_code
def yX4_roots : MethodName := ⟨RX4, "roots", "(I)I"⟩
abbrev cX4_lantern : ByteArray := prog_1_method_3_code
def yX4_lantern : MethodName := ⟨RX4, "lantern", "(I)I"⟩
abbrev cX4_bright : ByteArray := prog_1_method_4_code
def yX4_bright : MethodName := ⟨RX4, "bright", "(I)I"⟩
abbrev cX4_now : ByteArray := prog_1_method_5_code
def yX4_now : MethodName := ⟨RX4, "now", "(I)I"⟩
abbrev cX4_walker : ByteArray := prog_1_method_6_code
def yX4_walker : MethodName := ⟨RX4, "walker", "(I)I"⟩
abbrev cX4_of : ByteArray := prog_1_method_7_code
def yX4_of : MethodName := ⟨RX4, "of", "(II)I"⟩
abbrev cX4_set : ByteArray := prog_1_method_8_code
def yX4_set : MethodName := ⟨RX4, "set", "(III)I"⟩
abbrev cX4_swap : ByteArray := prog_1_method_9_code
def yX4_swap : MethodName := ⟨RX4, "swap", "(II)I"⟩
abbrev cX4_turn : ByteArray := prog_1_method_10_code
def yX4_turn : MethodName := ⟨RX4, "turn", "(II)I"⟩
abbrev cX4_as : ByteArray := prog_1_method_11_code
def yX4_as : MethodName := ⟨RX4, "as", "(II)I"⟩
abbrev cX4_steps : ByteArray := prog_1_method_12_code
def yX4_steps : MethodName := ⟨RX4, "steps", "(I)I"⟩
abbrev cX4_on : ByteArray := prog_1_method_13_code
def yX4_on : MethodName := ⟨RX4, "on", "(III)I"⟩
abbrev cX4_falls : ByteArray := prog_1_method_14_code
def yX4_falls : MethodName := ⟨RX4, "falls", "(I)I"⟩
abbrev cX4_trips : ByteArray := prog_1_method_15_code
def yX4_trips : MethodName := ⟨RX4, "trips", "(I)I"⟩
abbrev cX4_hears : ByteArray := prog_1_method_16_code
def yX4_hears : MethodName := ⟨RX4, "hears", "(I)I"⟩
abbrev cX4_carry : ByteArray := prog_1_method_17_code
def yX4_carry : MethodName := ⟨RX4, "carry", "(I)I"⟩
abbrev cX4_order : ByteArray := prog_1_method_18_code
def yX4_order : MethodName := ⟨RX4, "order", "(I)I"⟩
abbrev cX4_kind : ByteArray := prog_1_method_19_code
def yX4_kind : MethodName := ⟨RX4, "kind", "(II)I"⟩
abbrev cX4_least : ByteArray := prog_1_method_20_code
def yX4_least : MethodName := ⟨RX4, "least", "(II)I"⟩
abbrev cX4_clear : ByteArray := prog_1_method_21_code
def yX4_clear : MethodName := ⟨RX4, "clear", "(I)I"⟩
abbrev cX4_nerve : ByteArray := prog_1_method_22_code
def yX4_nerve : MethodName := ⟨RX4, "nerve", "(II)I"⟩
abbrev cX4_worst : ByteArray := prog_1_method_23_code
def yX4_worst : MethodName := ⟨RX4, "worst", "(I)I"⟩
abbrev cX4_feed : ByteArray := prog_1_method_24_code
def yX4_feed : MethodName := ⟨RX4, "feed", "(II)I"⟩
abbrev cX4_wipe : ByteArray := prog_1_method_25_code
def yX4_wipe : MethodName := ⟨RX4, "wipe", "()I"⟩
abbrev cX4_night : ByteArray := prog_1_method_26_code
def yX4_night : MethodName := ⟨RX4, "night", "()I"⟩
abbrev cX4_sheet : ByteArray := prog_1_method_27_code
def yX4_sheet : MethodName := ⟨RX4, "sheet", "(III)I"⟩
abbrev cX4_write : ByteArray := prog_1_method_28_code
def yX4_write : MethodName := ⟨RX4, "write", "(IIJ)J"⟩
abbrev cX4_copy : ByteArray := prog_1_method_29_code
def yX4_copy : MethodName := ⟨RX4, "copy", "(IIIII)I"⟩
abbrev cX4_lays : ByteArray := prog_1_method_30_code
def yX4_lays : MethodName := ⟨RX4, "lays", "(I)I"⟩
abbrev cX4_book : ByteArray := prog_1_method_31_code
def yX4_book : MethodName := ⟨RX4, "book", "(II)I"⟩
abbrev cX4_read : ByteArray := prog_1_method_32_code
def yX4_read : MethodName := ⟨RX4, "read", "(II)I"⟩
abbrev cX4_image : ByteArray := prog_1_method_33_code
def yX4_image : MethodName := ⟨RX4, "image", "()I"⟩
abbrev cX4_undo : ByteArray := prog_1_method_34_code
def yX4_undo : MethodName := ⟨RX4, "undo", "()I"⟩
abbrev cX4_tear : ByteArray := prog_1_method_35_code
def yX4_tear : MethodName := ⟨RX4, "tear", "()I"⟩
abbrev cX4_count : ByteArray := prog_1_method_36_code
def yX4_count : MethodName := ⟨RX4, "count", "(I)I"⟩
abbrev cX4_status : ByteArray := prog_1_method_37_code
def yX4_status : MethodName := ⟨RX4, "status", "(I)I"⟩
abbrev cX4_tell : ByteArray := prog_1_method_38_code
def yX4_tell : MethodName := ⟨RX4, "tell", "(I)I"⟩
abbrev cX4_put : ByteArray := prog_1_method_39_code
def yX4_put : MethodName := ⟨RX4, "put", "([IIII)I"⟩
abbrev cX4_lookAhead : ByteArray := prog_1_method_40_code
def yX4_lookAhead : MethodName := ⟨RX4, "lookAhead", "()V"⟩
abbrev cX4_stumbledIn : ByteArray := prog_1_method_41_code
def yX4_stumbledIn : MethodName := ⟨RX4, "stumbledIn", "(I)I"⟩
abbrev cX4_findingOfBook : ByteArray := prog_1_method_42_code
def yX4_findingOfBook : MethodName := ⟨RX4, "findingOfBook", "(II)I"⟩
abbrev cX4_stumblesNoMore : ByteArray := prog_1_method_43_code
def yX4_stumblesNoMore : MethodName := ⟨RX4, "stumblesNoMore", "(II)Z"⟩
abbrev cX4_stumblesJustAs : ByteArray := prog_1_method_44_code
def yX4_stumblesJustAs : MethodName := ⟨RX4, "stumblesJustAs", "(LOneLantern$Sheet;I)Z"⟩
abbrev cX4_within : ByteArray := prog_1_method_45_code
def yX4_within : MethodName := ⟨RX4, "within", "(III)Z"⟩
abbrev cX4_isIn : ByteArray := prog_1_method_46_code
def yX4_isIn : MethodName := ⟨RX4, "isIn", "(II)Z"⟩
abbrev cX4_isKind : ByteArray := prog_1_method_47_code
def yX4_isKind : MethodName := ⟨RX4, "isKind", "(I)Z"⟩
abbrev cX4_isSheet : ByteArray := prog_1_method_48_code
def yX4_isSheet : MethodName := ⟨RX4, "isSheet", "(I)Z"⟩
abbrev cX4_isWidth : ByteArray := prog_1_method_49_code
def yX4_isWidth : MethodName := ⟨RX4, "isWidth", "(I)Z"⟩
abbrev cX4_isUnder : ByteArray := prog_1_method_50_code
def yX4_isUnder : MethodName := ⟨RX4, "isUnder", "(II)Z"⟩
abbrev cX4_shadeOf : ByteArray := prog_1_method_51_code
def yX4_shadeOf : MethodName := ⟨RX4, "shadeOf", "(I)I"⟩
def RX5 : String := "OneLanternModel"
def TX5 : u_T := fun k => match k with
  | 0 => ("OneLanternModel", "s", "[I", true)
  | 1 => ("OneLanternModel", "keptS", "[I", true)
  | 2 => ("OneLanternModel", "other", "[I", true)
  | 3 => ("OneLanternModel", "aside", "[I", true)
  | 4 => ("OneLanternModel", "statuses", "[I", true)
  | 5 => ("OneLanternModel", "isKept", "Z", false)
  | 6 => ("OneLanternModel", "fallen", "I", false)
  | 7 => ("OneLanternModel", "tape", "[I", true)
  | 8 => ("OneLanternModel", "taped", "I", false)
  | 9 => ("OneLanternModel", "from", "I", false)
  | 10 => ("OneLanternModel", "to", "I", false)
  | 11 => ("OneLanternModel", "value", "I", false)
  | 12 => ("OneLanternModel", "isWrong", "Z", false)
  | 13 => ("OneLanternModel", "bitsOf", "[I", true)
  | 14 => ("OneLanternModel", "sizeOf", "[I", true)
  | 15 => ("OneLanternModel", "numbers", "[J", true)
  | _ => ("OneLanternModel", "moved", "[J", true)
def tyX5 : Nat → FieldType := fun k => match k with
  | 0 => .array .int
  | 1 => .array .int
  | 2 => .array .int
  | 3 => .array .int
  | 4 => .array .int
  | 5 => .boolean
  | 6 => .int
  | 7 => .array .int
  | 8 => .int
  | 9 => .int
  | 10 => .int
  | 11 => .int
  | 12 => .boolean
  | 13 => .array .int
  | 14 => .array .int
  | 15 => .array .long
  | _ => .array .long
abbrev wsX50 : List Cond := u_ws RX5 TX5 17
theorem nmX5 : ∀ a, a < 17 → ∀ b, b < 17 → a ≠ b → (TX5 a).2.1 ≠ (TX5 b).2.1 := by decide +kernel
theorem tyX5_ok : ∀ k, k < 17 → parseFieldDescriptor (TX5 k).2.2.1 = some (tyX5 k) := by decide +kernel
abbrev cX5_init : ByteArray := prog_7_method_1_code
def yX5_init : MethodName := ⟨RX5, "<init>", "()V"⟩
abbrev cX5_in : ByteArray := prog_7_method_2_code
def yX5_in : MethodName := ⟨RX5, "in", "(JJJ)Z"⟩
abbrev cX5_finds : ByteArray := prog_7_method_3_code
def yX5_finds : MethodName := ⟨RX5, "finds", "(I)I"⟩
abbrev cX5_saves : ByteArray := prog_7_method_4_code
def yX5_saves : MethodName := ⟨RX5, "saves", "()V"⟩
abbrev cX5_putsBack : ByteArray := prog_7_method_5_code
def yX5_putsBack : MethodName := ⟨RX5, "putsBack", "()V"⟩
abbrev cX5_laysAside : ByteArray := prog_7_method_6_code
def yX5_laysAside : MethodName := ⟨RX5, "laysAside", "()V"⟩
abbrev cX5_takesBack : ByteArray := prog_7_method_7_code
def yX5_takesBack : MethodName := ⟨RX5, "takesBack", "(I)I"⟩
abbrev cX5_becomes : ByteArray := prog_7_method_8_code
def yX5_becomes : MethodName := ⟨RX5, "becomes", "(II)I"⟩
abbrev cX5_spot : ByteArray := prog_7_method_9_code
def yX5_spot : MethodName := ⟨RX5, "spot", "(II)I"⟩
abbrev cX5_its : ByteArray := prog_7_method_10_code
def yX5_its : MethodName := ⟨RX5, "its", "(II)I"⟩
abbrev cX5_isPlace : ByteArray := prog_7_method_11_code
def yX5_isPlace : MethodName := ⟨RX5, "isPlace", "(I)Z"⟩
abbrev cX5_isKind : ByteArray := prog_7_method_13_code
def yX5_isKind : MethodName := ⟨RX5, "isKind", "(I)Z"⟩
abbrev cX5_together : ByteArray := prog_7_method_14_code
def yX5_together : MethodName := ⟨RX5, "together", "(I)I"⟩
abbrev cX5_paceOf : ByteArray := prog_7_method_15_code
def yX5_paceOf : MethodName := ⟨RX5, "paceOf", "(I)I"⟩
abbrev cX5_isAtRoot : ByteArray := prog_7_method_16_code
def yX5_isAtRoot : MethodName := ⟨RX5, "isAtRoot", "(I)Z"⟩
abbrev cX5_roots : ByteArray := prog_7_method_17_code
def yX5_roots : MethodName := ⟨RX5, "roots", "(I)I"⟩
abbrev cX5_lantern : ByteArray := prog_7_method_18_code
def yX5_lantern : MethodName := ⟨RX5, "lantern", "(I)I"⟩
abbrev cX5_bright : ByteArray := prog_7_method_19_code
def yX5_bright : MethodName := ⟨RX5, "bright", "(I)I"⟩
abbrev cX5_shadesOf : ByteArray := prog_7_method_20_code
def yX5_shadesOf : MethodName := ⟨RX5, "shadesOf", "(I)I"⟩
abbrev cX5_farOf : ByteArray := prog_7_method_21_code
def yX5_farOf : MethodName := ⟨RX5, "farOf", "(I)I"⟩
abbrev cX5_isLit : ByteArray := prog_7_method_22_code
def yX5_isLit : MethodName := ⟨RX5, "isLit", "(I)Z"⟩
abbrev cX5_litOnes : ByteArray := prog_7_method_23_code
def yX5_litOnes : MethodName := ⟨RX5, "litOnes", "()I"⟩
abbrev cX5_rootedOnes : ByteArray := prog_7_method_24_code
def yX5_rootedOnes : MethodName := ⟨RX5, "rootedOnes", "()I"⟩
abbrev cX5_heardOnes : ByteArray := prog_7_method_25_code
def yX5_heardOnes : MethodName := ⟨RX5, "heardOnes", "()I"⟩
abbrev cX5_now : ByteArray := prog_7_method_26_code
def yX5_now : MethodName := ⟨RX5, "now", "(I)I"⟩
abbrev cX5_isSeeing : ByteArray := prog_7_method_27_code
def yX5_isSeeing : MethodName := ⟨RX5, "isSeeing", "(I)Z"⟩
abbrev cX5_isHeeding : ByteArray := prog_7_method_28_code
def yX5_isHeeding : MethodName := ⟨RX5, "isHeeding", "(I)Z"⟩
abbrev cX5_isSaying : ByteArray := prog_7_method_29_code
def yX5_isSaying : MethodName := ⟨RX5, "isSaying", "(I)Z"⟩
abbrev cX5_adds : ByteArray := prog_7_method_30_code
def yX5_adds : MethodName := ⟨RX5, "adds", "(I)I"⟩
abbrev cX5_walker : ByteArray := prog_7_method_31_code
def yX5_walker : MethodName := ⟨RX5, "walker", "(I)I"⟩
abbrev cX5_of : ByteArray := prog_7_method_32_code
def yX5_of : MethodName := ⟨RX5, "of", "(II)I"⟩
abbrev cX5_set : ByteArray := prog_7_method_33_code
def yX5_set : MethodName := ⟨RX5, "set", "(III)I"⟩
abbrev cX5_swaps : ByteArray := prog_7_method_34_code
def yX5_swaps : MethodName := ⟨RX5, "swaps", "(II)V"⟩
abbrev cX5_swap : ByteArray := prog_7_method_35_code
def yX5_swap : MethodName := ⟨RX5, "swap", "(II)I"⟩
abbrev cX5_turn : ByteArray := prog_7_method_36_code
def yX5_turn : MethodName := ⟨RX5, "turn", "(II)I"⟩
abbrev cX5_isUnder : ByteArray := prog_7_method_37_code
def yX5_isUnder : MethodName := ⟨RX5, "isUnder", "(II)Z"⟩
abbrev cX5_as : ByteArray := prog_7_method_38_code
def yX5_as : MethodName := ⟨RX5, "as", "(II)I"⟩
abbrev cX5_treads : ByteArray := prog_7_method_39_code
def yX5_treads : MethodName := ⟨RX5, "treads", "(I)V"⟩
abbrev cX5_step : ByteArray := prog_7_method_40_code
def yX5_step : MethodName := ⟨RX5, "step", "()V"⟩
abbrev cX5_stepsGo : ByteArray := prog_7_method_41_code
def yX5_stepsGo : MethodName := ⟨RX5, "stepsGo", "(I)V"⟩
abbrev cX5_steps : ByteArray := prog_7_method_42_code
def yX5_steps : MethodName := ⟨RX5, "steps", "(I)I"⟩
abbrev cX5_isAhead : ByteArray := prog_7_method_43_code
def yX5_isAhead : MethodName := ⟨RX5, "isAhead", "(I)Z"⟩
abbrev cX5_behind : ByteArray := prog_7_method_44_code
def yX5_behind : MethodName := ⟨RX5, "behind", "(II)I"⟩
abbrev cX5_on : ByteArray := prog_7_method_45_code
def yX5_on : MethodName := ⟨RX5, "on", "(III)I"⟩
abbrev cX5_falls : ByteArray := prog_7_method_46_code
def yX5_falls : MethodName := ⟨RX5, "falls", "(I)I"⟩
abbrev cX5_toldAt : ByteArray := prog_7_method_47_code
def yX5_toldAt : MethodName := ⟨RX5, "toldAt", "(I)I"⟩
abbrev cX5_trips : ByteArray := prog_7_method_48_code
def yX5_trips : MethodName := ⟨RX5, "trips", "(I)I"⟩
abbrev cX5_hears : ByteArray := prog_7_method_49_code
def yX5_hears : MethodName := ⟨RX5, "hears", "(I)I"⟩
abbrev cX5_isSoon : ByteArray := prog_7_method_50_code
def yX5_isSoon : MethodName := ⟨RX5, "isSoon", "(I)Z"⟩
abbrev cX5_leastBy : ByteArray := prog_7_method_51_code
def yX5_leastBy : MethodName := ⟨RX5, "leastBy", "(IIII)I"⟩
abbrev cX5_carry : ByteArray := prog_7_method_52_code
def yX5_carry : MethodName := ⟨RX5, "carry", "(I)I"⟩
abbrev cX5_order : ByteArray := prog_7_method_53_code
def yX5_order : MethodName := ⟨RX5, "order", "(I)I"⟩
abbrev cX5_kind : ByteArray := prog_7_method_54_code
def yX5_kind : MethodName := ⟨RX5, "kind", "(II)I"⟩
abbrev cX5_least : ByteArray := prog_7_method_55_code
def yX5_least : MethodName := ⟨RX5, "least", "(II)I"⟩
abbrev cX5_clear : ByteArray := prog_7_method_56_code
def yX5_clear : MethodName := ⟨RX5, "clear", "(I)I"⟩
abbrev cX5_nerve : ByteArray := prog_7_method_57_code
def yX5_nerve : MethodName := ⟨RX5, "nerve", "(II)I"⟩
abbrev cX5_worst : ByteArray := prog_7_method_58_code
def yX5_worst : MethodName := ⟨RX5, "worst", "(I)I"⟩
abbrev cX5_feed : ByteArray := prog_7_method_59_code
def yX5_feed : MethodName := ⟨RX5, "feed", "(II)I"⟩
abbrev cX5_wipe : ByteArray := prog_7_method_60_code
def yX5_wipe : MethodName := ⟨RX5, "wipe", "()I"⟩
abbrev cX5_byteAt : ByteArray := prog_7_method_61_code
def yX5_byteAt : MethodName := ⟨RX5, "byteAt", "(I)I"⟩
abbrev cX5_isLetter : ByteArray := prog_7_method_62_code
def yX5_isLetter : MethodName := ⟨RX5, "isLetter", "(I)Z"⟩
abbrev cX5_isDigit : ByteArray := prog_7_method_63_code
def yX5_isDigit : MethodName := ⟨RX5, "isDigit", "(I)Z"⟩
abbrev cX5_token : ByteArray := prog_7_method_64_code
def yX5_token : MethodName := ⟨RX5, "token", "()V"⟩
abbrev cX5_must : ByteArray := prog_7_method_65_code
def yX5_must : MethodName := ⟨RX5, "must", "(Z)V"⟩
abbrev cX5_word : ByteArray := prog_7_method_66_code
def yX5_word : MethodName := ⟨RX5, "word", "()J"⟩
abbrev cX5_number : ByteArray := prog_7_method_67_code
def yX5_number : MethodName := ⟨RX5, "number", "(II)V"⟩
abbrev cX5_kindHere : ByteArray := prog_7_method_68_code
def yX5_kindHere : MethodName := ⟨RX5, "kindHere", "()I"⟩
abbrev cX5_walkerItem : ByteArray := prog_7_method_69_code
def yX5_walkerItem : MethodName := ⟨RX5, "walkerItem", "(I)V"⟩
abbrev cX5_rootItem : ByteArray := prog_7_method_70_code
def yX5_rootItem : MethodName := ⟨RX5, "rootItem", "(Z)V"⟩
abbrev cX5_toldItem : ByteArray := prog_7_method_71_code
def yX5_toldItem : MethodName := ⟨RX5, "toldItem", "(II)V"⟩
abbrev cX5_numberHere : ByteArray := prog_7_method_72_code
def yX5_numberHere : MethodName := ⟨RX5, "numberHere", "()I"⟩
abbrev cX5_swapItem : ByteArray := prog_7_method_73_code
def yX5_swapItem : MethodName := ⟨RX5, "swapItem", "()V"⟩
abbrev cX5_item : ByteArray := prog_7_method_74_code
def yX5_item : MethodName := ⟨RX5, "item", "()V"⟩
abbrev cX5_night : ByteArray := prog_7_method_75_code
def yX5_night : MethodName := ⟨RX5, "night", "()I"⟩
abbrev cX5_isOne : ByteArray := prog_7_method_76_code
def yX5_isOne : MethodName := ⟨RX5, "isOne", "(I)Z"⟩
abbrev cX5_sheet : ByteArray := prog_7_method_77_code
def yX5_sheet : MethodName := ⟨RX5, "sheet", "(III)I"⟩
abbrev cX5_narrowed : ByteArray := prog_7_method_78_code
def yX5_narrowed : MethodName := ⟨RX5, "narrowed", "(IJ)J"⟩
abbrev cX5_wrongSheet : ByteArray := prog_7_method_79_code
def yX5_wrongSheet : MethodName := ⟨RX5, "wrongSheet", "(I)I"⟩
abbrev cX5_write : ByteArray := prog_7_method_80_code
def yX5_write : MethodName := ⟨RX5, "write", "(IIJ)J"⟩
abbrev cX5_copy : ByteArray := prog_7_method_81_code
def yX5_copy : MethodName := ⟨RX5, "copy", "(IIIII)I"⟩
abbrev cX5_lays : ByteArray := prog_7_method_82_code
def yX5_lays : MethodName := ⟨RX5, "lays", "(I)I"⟩
abbrev cX5_book : ByteArray := prog_7_method_83_code
def yX5_book : MethodName := ⟨RX5, "book", "(II)I"⟩
abbrev cX5_isBook : ByteArray := prog_7_method_84_code
def yX5_isBook : MethodName := ⟨RX5, "isBook", "(II)Z"⟩
abbrev cX5_read : ByteArray := prog_7_method_85_code
def yX5_read : MethodName := ⟨RX5, "read", "(II)I"⟩
abbrev cX5_image : ByteArray := prog_7_method_86_code
def yX5_image : MethodName := ⟨RX5, "image", "()I"⟩
abbrev cX5_undo : ByteArray := prog_7_method_87_code
def yX5_undo : MethodName := ⟨RX5, "undo", "()I"⟩
abbrev cX5_tear : ByteArray := prog_7_method_88_code
def yX5_tear : MethodName := ⟨RX5, "tear", "()I"⟩
abbrev cX5_rootsMany : ByteArray := prog_7_method_89_code
def yX5_rootsMany : MethodName := ⟨RX5, "rootsMany", "()I"⟩
abbrev cX5_count : ByteArray := prog_7_method_90_code
def yX5_count : MethodName := ⟨RX5, "count", "(I)I"⟩
abbrev cX5_status : ByteArray := prog_7_method_91_code
def yX5_status : MethodName := ⟨RX5, "status", "(I)I"⟩
def RJ6 : String := "java/lang/Integer"
abbrev cJ6_bitCount_0f7a4 : ByteArray := prog_8_method_49_code
def yJ6_bitCount_0f7a4 : MethodName := ⟨RJ6, "bitCount", "(I)I"⟩
def RJ9 : String := "java/lang/Math"
abbrev cJ9_floorMod_7cf53 : ByteArray := prog_9_method_50_code
def yJ9_floorMod_7cf53 : MethodName := ⟨RJ9, "floorMod", "(II)I"⟩
abbrev cJ9_abs_0f7a4 : ByteArray := prog_9_method_59_code
def yJ9_abs_0f7a4 : MethodName := ⟨RJ9, "abs", "(I)I"⟩
abbrev cJ9_max_7cf53 : ByteArray := prog_9_method_65_code
def yJ9_max_7cf53 : MethodName := ⟨RJ9, "max", "(II)I"⟩
abbrev cJ9_min_7cf53 : ByteArray := prog_9_method_69_code
def yJ9_min_7cf53 : MethodName := ⟨RJ9, "min", "(II)I"⟩
def RJ0 : String := "java/lang/String"
abbrev cJ0_length_8abf5 : ByteArray := prog_10_method_54_code
def yJ0_length_8abf5 : MethodName := ⟨RJ0, "length", "()I"⟩
abbrev cJ0_charAt_5068e : ByteArray := prog_10_method_56_code
def yJ0_charAt_5068e : MethodName := ⟨RJ0, "charAt", "(I)C"⟩
abbrev cJ0_coder_7d493 : ByteArray := prog_10_method_152_code
def yJ0_coder_7d493 : MethodName := ⟨RJ0, "coder", "()B"⟩
abbrev cJ0_isLatin1_aae02 : ByteArray := prog_10_method_154_code
def yJ0_isLatin1_aae02 : MethodName := ⟨RJ0, "isLatin1", "()Z"⟩
abbrev cJ0_checkIndex_df160 : ByteArray := prog_10_method_155_code
def yJ0_checkIndex_df160 : MethodName := ⟨RJ0, "checkIndex", "(II)V"⟩
def RJ1 : String := "java/lang/StringLatin1"
abbrev cJ1_charAt_3b067 : ByteArray := prog_11_method_2_code
def yJ1_charAt_3b067 : MethodName := ⟨RJ1, "charAt", "([BI)C"⟩
def RJ2 : String := "java/lang/StringUTF16"
abbrev cJ2_getChar_3b067 : ByteArray := prog_12_method_5_code
def yJ2_getChar_3b067 : MethodName := ⟨RJ2, "getChar", "([BI)C"⟩
abbrev cJ2_length_9d52b : ByteArray := prog_12_method_6_code
def yJ2_length_9d52b : MethodName := ⟨RJ2, "length", "([B)I"⟩
abbrev cJ2_charAt_3b067 : ByteArray := prog_12_method_83_code
def yJ2_charAt_3b067 : MethodName := ⟨RJ2, "charAt", "([BI)C"⟩
abbrev cJ2_checkIndex_2214a : ByteArray := prog_12_method_91_code
def yJ2_checkIndex_2214a : MethodName := ⟨RJ2, "checkIndex", "(I[B)V"⟩
def RJ10 : String := "java/lang/System"
def RJ3 : String := "jdk/internal/util/Preconditions"
abbrev cJ3_checkIndex_8e157 : ByteArray := prog_14_method_11_code
def yJ3_checkIndex_8e157 : MethodName := ⟨RJ3, "checkIndex", "(IILjava/util/function/BiFunction;)I"⟩
def RL : String := "OneLanternLaw"
abbrev cL_law : ByteArray := code
def yL_law : MethodName := ⟨RL, "law", "([I)Z"⟩
abbrev vwCl : List vw_C := [(RX0, TX0, 5), (RX1, TX1, 10), (RX2, TX2, 3), (RX3, TX3, 2), (RX4, TX4, 8), (RX5, TX5, 17)]
end
section
theorem dX0_init_0 : decode cX0_init 0 = .ok (.aload_n 0, 1) := by decide +kernel
theorem dX0_init_1 : decode cX0_init 1 = .ok (.invokespecial 3, 3) := by decide +kernel
theorem dX0_init_4 : decode cX0_init 4 = .ok (.aload_n 0, 1) := by decide +kernel
theorem dX0_init_5 : decode cX0_init 5 = .ok (.aload_n 1, 1) := by decide +kernel
theorem dX0_init_6 : decode cX0_init 6 = .ok (.putfield 9, 3) := by decide +kernel
theorem dX0_init_9 : decode cX0_init 9 = .ok (.return_, 1) := by decide +kernel
theorem dX0_tellTo_0 : decode cX0_tellTo 0 = .ok (.aload_n 0, 1) := by decide +kernel
theorem dX0_tellTo_1 : decode cX0_tellTo 1 = .ok (.iconst 0, 1) := by decide +kernel
theorem dX0_tellTo_2 : decode cX0_tellTo 2 = .ok (.putfield 15, 3) := by decide +kernel
theorem dX0_tellTo_5 : decode cX0_tellTo 5 = .ok (.iconst 1, 1) := by decide +kernel
theorem dX0_tellTo_6 : decode cX0_tellTo 6 = .ok (.istore_n 2, 1) := by decide +kernel
theorem dX0_tellTo_7 : decode cX0_tellTo 7 = .ok (.iload_n 2, 1) := by decide +kernel
theorem dX0_tellTo_8 : decode cX0_tellTo 8 = .ok (.bipush 120, 2) := by decide +kernel
theorem dX0_tellTo_10 : decode cX0_tellTo 10 = .ok (.if_icmp .gt 55, 3) := by decide +kernel
theorem dX0_tellTo_13 : decode cX0_tellTo 13 = .ok (.aload_n 0, 1) := by decide +kernel
theorem dX0_tellTo_14 : decode cX0_tellTo 14 = .ok (.invokevirtual 19, 3) := by decide +kernel
theorem dX0_tellTo_17 : decode cX0_tellTo 17 = .ok (.aload_n 0, 1) := by decide +kernel
theorem dX0_tellTo_18 : decode cX0_tellTo 18 = .ok (.aload_n 1, 1) := by decide +kernel
theorem dX0_tellTo_19 : decode cX0_tellTo 19 = .ok (.invokevirtual 22, 3) := by decide +kernel
theorem dX0_tellTo_22 : decode cX0_tellTo 22 = .ok (.ifCond .ne 10, 3) := by decide +kernel
theorem dX0_tellTo_25 : decode cX0_tellTo 25 = .ok (.iconst (-1), 1) := by decide +kernel
theorem dX0_tellTo_26 : decode cX0_tellTo 26 = .ok (.aload_n 0, 1) := by decide +kernel
theorem dX0_tellTo_27 : decode cX0_tellTo 27 = .ok (.getfield 26, 3) := by decide +kernel
theorem dX0_tellTo_30 : decode cX0_tellTo 30 = .ok (.isub, 1) := by decide +kernel
theorem dX0_tellTo_31 : decode cX0_tellTo 31 = .ok (.ireturn, 1) := by decide +kernel
theorem dX0_tellTo_32 : decode cX0_tellTo 32 = .ok (.aload_n 0, 1) := by decide +kernel
theorem dX0_tellTo_33 : decode cX0_tellTo 33 = .ok (.getfield 29, 3) := by decide +kernel
theorem dX0_tellTo_36 : decode cX0_tellTo 36 = .ok (.bipush 14, 2) := by decide +kernel
theorem dX0_tellTo_38 : decode cX0_tellTo 38 = .ok (.if_icmp .ne 5, 3) := by decide +kernel
theorem dX0_tellTo_41 : decode cX0_tellTo 41 = .ok (.iload_n 2, 1) := by decide +kernel
theorem dX0_tellTo_42 : decode cX0_tellTo 42 = .ok (.ireturn, 1) := by decide +kernel
theorem dX0_tellTo_43 : decode cX0_tellTo 43 = .ok (.aload_n 0, 1) := by decide +kernel
theorem dX0_tellTo_44 : decode cX0_tellTo 44 = .ok (.getfield 29, 3) := by decide +kernel
theorem dX0_tellTo_47 : decode cX0_tellTo 47 = .ok (.bipush 13, 2) := by decide +kernel
theorem dX0_tellTo_49 : decode cX0_tellTo 49 = .ok (.if_icmp .eq 10, 3) := by decide +kernel
theorem dX0_tellTo_52 : decode cX0_tellTo 52 = .ok (.iconst (-1), 1) := by decide +kernel
theorem dX0_tellTo_53 : decode cX0_tellTo 53 = .ok (.aload_n 0, 1) := by decide +kernel
theorem dX0_tellTo_54 : decode cX0_tellTo 54 = .ok (.getfield 26, 3) := by decide +kernel
theorem dX0_tellTo_57 : decode cX0_tellTo 57 = .ok (.isub, 1) := by decide +kernel
theorem dX0_tellTo_58 : decode cX0_tellTo 58 = .ok (.ireturn, 1) := by decide +kernel
theorem dX0_tellTo_59 : decode cX0_tellTo 59 = .ok (.iinc 2 1, 3) := by decide +kernel
theorem dX0_tellTo_62 : decode cX0_tellTo 62 = .ok (.goto (-55), 3) := by decide +kernel
theorem dX0_tellTo_65 : decode cX0_tellTo 65 = .ok (.iconst (-1), 1) := by decide +kernel
theorem dX0_tellTo_66 : decode cX0_tellTo 66 = .ok (.aload_n 0, 1) := by decide +kernel
theorem dX0_tellTo_67 : decode cX0_tellTo 67 = .ok (.getfield 26, 3) := by decide +kernel
theorem dX0_tellTo_70 : decode cX0_tellTo 70 = .ok (.isub, 1) := by decide +kernel
theorem dX0_tellTo_71 : decode cX0_tellTo 71 = .ok (.ireturn, 1) := by decide +kernel
theorem dX0_item_0 : decode cX0_item 0 = .ok (.aload_n 0, 1) := by decide +kernel
theorem dX0_item_1 : decode cX0_item 1 = .ok (.getfield 29, 3) := by decide +kernel
theorem dX0_item_4 : decode cX0_item 4 = .ok (.invokestatic 32, 3) := by decide +kernel
theorem dX0_item_7 : decode cX0_item 7 = .ok (.ifCond .eq 9, 3) := by decide +kernel
theorem dX0_item_10 : decode cX0_item 10 = .ok (.aload_n 0, 1) := by decide +kernel
theorem dX0_item_11 : decode cX0_item 11 = .ok (.aload_n 1, 1) := by decide +kernel
theorem dX0_item_12 : decode cX0_item 12 = .ok (.invokevirtual 36, 3) := by decide +kernel
theorem dX0_item_15 : decode cX0_item 15 = .ok (.ireturn, 1) := by decide +kernel
theorem dX0_item_16 : decode cX0_item 16 = .ok (.aload_n 0, 1) := by decide +kernel
theorem dX0_item_17 : decode cX0_item 17 = .ok (.getfield 29, 3) := by decide +kernel
theorem dX0_item_20 : decode cX0_item 20 = .ok (.tableswitch 68 7 11 #[36, 43, 50, 56, 62], 36) := by decide +kernel
theorem dX0_item_56 : decode cX0_item 56 = .ok (.aload_n 0, 1) := by decide +kernel
theorem dX0_item_57 : decode cX0_item 57 = .ok (.aload_n 1, 1) := by decide +kernel
theorem dX0_item_58 : decode cX0_item 58 = .ok (.iconst 1, 1) := by decide +kernel
theorem dX0_item_59 : decode cX0_item 59 = .ok (.invokevirtual 39, 3) := by decide +kernel
theorem dX0_item_62 : decode cX0_item 62 = .ok (.ireturn, 1) := by decide +kernel
theorem dX0_item_63 : decode cX0_item 63 = .ok (.aload_n 0, 1) := by decide +kernel
theorem dX0_item_64 : decode cX0_item 64 = .ok (.aload_n 1, 1) := by decide +kernel
theorem dX0_item_65 : decode cX0_item 65 = .ok (.iconst 0, 1) := by decide +kernel
theorem dX0_item_66 : decode cX0_item 66 = .ok (.invokevirtual 39, 3) := by decide +kernel
theorem dX0_item_69 : decode cX0_item 69 = .ok (.ireturn, 1) := by decide +kernel
theorem dX0_item_70 : decode cX0_item 70 = .ok (.aload_n 0, 1) := by decide +kernel
theorem dX0_item_71 : decode cX0_item 71 = .ok (.aload_n 1, 1) := by decide +kernel
theorem dX0_item_72 : decode cX0_item 72 = .ok (.invokevirtual 43, 3) := by decide +kernel
theorem dX0_item_75 : decode cX0_item 75 = .ok (.ireturn, 1) := by decide +kernel
theorem dX0_item_76 : decode cX0_item 76 = .ok (.aload_n 0, 1) := by decide +kernel
theorem dX0_item_77 : decode cX0_item 77 = .ok (.aload_n 1, 1) := by decide +kernel
theorem dX0_item_78 : decode cX0_item 78 = .ok (.invokevirtual 46, 3) := by decide +kernel
theorem dX0_item_81 : decode cX0_item 81 = .ok (.ireturn, 1) := by decide +kernel
theorem dX0_item_82 : decode cX0_item 82 = .ok (.aload_n 0, 1) := by decide +kernel
theorem dX0_item_83 : decode cX0_item 83 = .ok (.aload_n 1, 1) := by decide +kernel
theorem dX0_item_84 : decode cX0_item 84 = .ok (.invokevirtual 49, 3) := by decide +kernel
theorem dX0_item_87 : decode cX0_item 87 = .ok (.ireturn, 1) := by decide +kernel
theorem dX0_item_88 : decode cX0_item 88 = .ok (.iconst 0, 1) := by decide +kernel
theorem dX0_item_89 : decode cX0_item 89 = .ok (.ireturn, 1) := by decide +kernel
theorem dX0_kindItem_0 : decode cX0_kindItem 0 = .ok (.aload_n 1, 1) := by decide +kernel
theorem dX0_kindItem_1 : decode cX0_kindItem 1 = .ok (.invokevirtual 52, 3) := by decide +kernel
theorem dX0_kindItem_4 : decode cX0_kindItem 4 = .ok (.ifCond .eq 5, 3) := by decide +kernel
theorem dX0_kindItem_7 : decode cX0_kindItem 7 = .ok (.iconst 0, 1) := by decide +kernel
theorem dX0_kindItem_8 : decode cX0_kindItem 8 = .ok (.ireturn, 1) := by decide +kernel
theorem dX0_kindItem_9 : decode cX0_kindItem 9 = .ok (.aload_n 1, 1) := by decide +kernel
theorem dX0_kindItem_10 : decode cX0_kindItem 10 = .ok (.aload_n 0, 1) := by decide +kernel
theorem dX0_kindItem_11 : decode cX0_kindItem 11 = .ok (.getfield 29, 3) := by decide +kernel
theorem dX0_kindItem_14 : decode cX0_kindItem 14 = .ok (.invokevirtual 58, 3) := by decide +kernel
theorem dX0_kindItem_17 : decode cX0_kindItem 17 = .ok (.aload_n 0, 1) := by decide +kernel
theorem dX0_kindItem_18 : decode cX0_kindItem 18 = .ok (.invokevirtual 19, 3) := by decide +kernel
theorem dX0_kindItem_21 : decode cX0_kindItem 21 = .ok (.aload_n 0, 1) := by decide +kernel
theorem dX0_kindItem_22 : decode cX0_kindItem 22 = .ok (.getfield 29, 3) := by decide +kernel
theorem dX0_kindItem_25 : decode cX0_kindItem 25 = .ok (.bipush 6, 2) := by decide +kernel
theorem dX0_kindItem_27 : decode cX0_kindItem 27 = .ok (.if_icmp .eq 5, 3) := by decide +kernel
theorem dX0_kindItem_30 : decode cX0_kindItem 30 = .ok (.iconst 1, 1) := by decide +kernel
theorem dX0_kindItem_31 : decode cX0_kindItem 31 = .ok (.ireturn, 1) := by decide +kernel
theorem dX0_kindItem_32 : decode cX0_kindItem 32 = .ok (.aload_n 0, 1) := by decide +kernel
theorem dX0_kindItem_33 : decode cX0_kindItem 33 = .ok (.bipush 99, 2) := by decide +kernel
theorem dX0_kindItem_35 : decode cX0_kindItem 35 = .ok (.invokevirtual 62, 3) := by decide +kernel
theorem dX0_kindItem_38 : decode cX0_kindItem 38 = .ok (.ifCond .ne 5, 3) := by decide +kernel
theorem dX0_kindItem_41 : decode cX0_kindItem 41 = .ok (.iconst 0, 1) := by decide +kernel
theorem dX0_kindItem_42 : decode cX0_kindItem 42 = .ok (.ireturn, 1) := by decide +kernel
theorem dX0_kindItem_43 : decode cX0_kindItem 43 = .ok (.aload_n 1, 1) := by decide +kernel
theorem dX0_kindItem_44 : decode cX0_kindItem 44 = .ok (.getfield 65, 3) := by decide +kernel
theorem dX0_kindItem_47 : decode cX0_kindItem 47 = .ok (.aload_n 1, 1) := by decide +kernel
theorem dX0_kindItem_48 : decode cX0_kindItem 48 = .ok (.getfield 69, 3) := by decide +kernel
theorem dX0_kindItem_51 : decode cX0_kindItem 51 = .ok (.iconst 1, 1) := by decide +kernel
theorem dX0_kindItem_52 : decode cX0_kindItem 52 = .ok (.isub, 1) := by decide +kernel
theorem dX0_kindItem_53 : decode cX0_kindItem 53 = .ok (.aload_n 0, 1) := by decide +kernel
theorem dX0_kindItem_54 : decode cX0_kindItem 54 = .ok (.getfield 72, 3) := by decide +kernel
theorem dX0_kindItem_57 : decode cX0_kindItem 57 = .ok (.iastore, 1) := by decide +kernel
theorem dX0_kindItem_58 : decode cX0_kindItem 58 = .ok (.aload_n 0, 1) := by decide +kernel
theorem dX0_kindItem_59 : decode cX0_kindItem 59 = .ok (.invokevirtual 19, 3) := by decide +kernel
theorem dX0_kindItem_62 : decode cX0_kindItem 62 = .ok (.iconst 1, 1) := by decide +kernel
theorem dX0_kindItem_63 : decode cX0_kindItem 63 = .ok (.ireturn, 1) := by decide +kernel
theorem dX0_rootItem_0 : decode cX0_rootItem 0 = .ok (.aload_n 0, 1) := by decide +kernel
theorem dX0_rootItem_1 : decode cX0_rootItem 1 = .ok (.bipush 29, 2) := by decide +kernel
theorem dX0_rootItem_3 : decode cX0_rootItem 3 = .ok (.invokevirtual 62, 3) := by decide +kernel
theorem dX0_rootItem_6 : decode cX0_rootItem 6 = .ok (.ifCond .ne 5, 3) := by decide +kernel
theorem dX0_rootItem_9 : decode cX0_rootItem 9 = .ok (.iconst 0, 1) := by decide +kernel
theorem dX0_rootItem_10 : decode cX0_rootItem 10 = .ok (.ireturn, 1) := by decide +kernel
theorem dX0_rootItem_11 : decode cX0_rootItem 11 = .ok (.aload_n 1, 1) := by decide +kernel
theorem dX0_rootItem_12 : decode cX0_rootItem 12 = .ok (.aload_n 0, 1) := by decide +kernel
theorem dX0_rootItem_13 : decode cX0_rootItem 13 = .ok (.getfield 72, 3) := by decide +kernel
theorem dX0_rootItem_16 : decode cX0_rootItem 16 = .ok (.iload_n 2, 1) := by decide +kernel
theorem dX0_rootItem_17 : decode cX0_rootItem 17 = .ok (.invokevirtual 75, 3) := by decide +kernel
theorem dX0_rootItem_20 : decode cX0_rootItem 20 = .ok (.aload_n 0, 1) := by decide +kernel
theorem dX0_rootItem_21 : decode cX0_rootItem 21 = .ok (.invokevirtual 19, 3) := by decide +kernel
theorem dX0_rootItem_24 : decode cX0_rootItem 24 = .ok (.iconst 1, 1) := by decide +kernel
theorem dX0_rootItem_25 : decode cX0_rootItem 25 = .ok (.ireturn, 1) := by decide +kernel
theorem dX0_lanternItem_0 : decode cX0_lanternItem 0 = .ok (.aload_n 0, 1) := by decide +kernel
theorem dX0_lanternItem_1 : decode cX0_lanternItem 1 = .ok (.aload_n 1, 1) := by decide +kernel
theorem dX0_lanternItem_2 : decode cX0_lanternItem 2 = .ok (.getfield 69, 3) := by decide +kernel
theorem dX0_lanternItem_5 : decode cX0_lanternItem 5 = .ok (.iconst 1, 1) := by decide +kernel
theorem dX0_lanternItem_6 : decode cX0_lanternItem 6 = .ok (.isub, 1) := by decide +kernel
theorem dX0_lanternItem_7 : decode cX0_lanternItem 7 = .ok (.invokevirtual 62, 3) := by decide +kernel
theorem dX0_lanternItem_10 : decode cX0_lanternItem 10 = .ok (.ifCond .ne 5, 3) := by decide +kernel
theorem dX0_lanternItem_13 : decode cX0_lanternItem 13 = .ok (.iconst 0, 1) := by decide +kernel
theorem dX0_lanternItem_14 : decode cX0_lanternItem 14 = .ok (.ireturn, 1) := by decide +kernel
theorem dX0_lanternItem_15 : decode cX0_lanternItem 15 = .ok (.aload_n 1, 1) := by decide +kernel
theorem dX0_lanternItem_16 : decode cX0_lanternItem 16 = .ok (.aload_n 0, 1) := by decide +kernel
theorem dX0_lanternItem_17 : decode cX0_lanternItem 17 = .ok (.getfield 72, 3) := by decide +kernel
theorem dX0_lanternItem_20 : decode cX0_lanternItem 20 = .ok (.putfield 79, 3) := by decide +kernel
theorem dX0_lanternItem_23 : decode cX0_lanternItem 23 = .ok (.aload_n 0, 1) := by decide +kernel
theorem dX0_lanternItem_24 : decode cX0_lanternItem 24 = .ok (.invokevirtual 19, 3) := by decide +kernel
theorem dX0_lanternItem_27 : decode cX0_lanternItem 27 = .ok (.iconst 1, 1) := by decide +kernel
theorem dX0_lanternItem_28 : decode cX0_lanternItem 28 = .ok (.ireturn, 1) := by decide +kernel
theorem dX0_brightItem_0 : decode cX0_brightItem 0 = .ok (.aload_n 0, 1) := by decide +kernel
theorem dX0_brightItem_1 : decode cX0_brightItem 1 = .ok (.bipush 9, 2) := by decide +kernel
theorem dX0_brightItem_3 : decode cX0_brightItem 3 = .ok (.invokevirtual 62, 3) := by decide +kernel
theorem dX0_brightItem_6 : decode cX0_brightItem 6 = .ok (.ifCond .ne 5, 3) := by decide +kernel
theorem dX0_brightItem_9 : decode cX0_brightItem 9 = .ok (.iconst 0, 1) := by decide +kernel
theorem dX0_brightItem_10 : decode cX0_brightItem 10 = .ok (.ireturn, 1) := by decide +kernel
theorem dX0_brightItem_11 : decode cX0_brightItem 11 = .ok (.aload_n 1, 1) := by decide +kernel
theorem dX0_brightItem_12 : decode cX0_brightItem 12 = .ok (.aload_n 0, 1) := by decide +kernel
theorem dX0_brightItem_13 : decode cX0_brightItem 13 = .ok (.getfield 72, 3) := by decide +kernel
theorem dX0_brightItem_16 : decode cX0_brightItem 16 = .ok (.putfield 82, 3) := by decide +kernel
theorem dX0_brightItem_19 : decode cX0_brightItem 19 = .ok (.aload_n 0, 1) := by decide +kernel
theorem dX0_brightItem_20 : decode cX0_brightItem 20 = .ok (.invokevirtual 19, 3) := by decide +kernel
theorem dX0_brightItem_23 : decode cX0_brightItem 23 = .ok (.iconst 1, 1) := by decide +kernel
theorem dX0_brightItem_24 : decode cX0_brightItem 24 = .ok (.ireturn, 1) := by decide +kernel
theorem dX0_swapItem_0 : decode cX0_swapItem 0 = .ok (.aload_n 0, 1) := by decide +kernel
theorem dX0_swapItem_1 : decode cX0_swapItem 1 = .ok (.aload_n 1, 1) := by decide +kernel
theorem dX0_swapItem_2 : decode cX0_swapItem 2 = .ok (.getfield 69, 3) := by decide +kernel
theorem dX0_swapItem_5 : decode cX0_swapItem 5 = .ok (.iconst 1, 1) := by decide +kernel
theorem dX0_swapItem_6 : decode cX0_swapItem 6 = .ok (.isub, 1) := by decide +kernel
theorem dX0_swapItem_7 : decode cX0_swapItem 7 = .ok (.invokevirtual 62, 3) := by decide +kernel
theorem dX0_swapItem_10 : decode cX0_swapItem 10 = .ok (.ifCond .ne 5, 3) := by decide +kernel
theorem dX0_swapItem_13 : decode cX0_swapItem 13 = .ok (.iconst 0, 1) := by decide +kernel
theorem dX0_swapItem_14 : decode cX0_swapItem 14 = .ok (.ireturn, 1) := by decide +kernel
theorem dX0_swapItem_15 : decode cX0_swapItem 15 = .ok (.aload_n 0, 1) := by decide +kernel
theorem dX0_swapItem_16 : decode cX0_swapItem 16 = .ok (.getfield 72, 3) := by decide +kernel
theorem dX0_swapItem_19 : decode cX0_swapItem 19 = .ok (.istore_n 2, 1) := by decide +kernel
theorem dX0_swapItem_20 : decode cX0_swapItem 20 = .ok (.aload_n 0, 1) := by decide +kernel
theorem dX0_swapItem_21 : decode cX0_swapItem 21 = .ok (.aload_n 1, 1) := by decide +kernel
theorem dX0_swapItem_22 : decode cX0_swapItem 22 = .ok (.getfield 69, 3) := by decide +kernel
theorem dX0_swapItem_25 : decode cX0_swapItem 25 = .ok (.iconst 1, 1) := by decide +kernel
theorem dX0_swapItem_26 : decode cX0_swapItem 26 = .ok (.isub, 1) := by decide +kernel
theorem dX0_swapItem_27 : decode cX0_swapItem 27 = .ok (.invokevirtual 62, 3) := by decide +kernel
theorem dX0_swapItem_30 : decode cX0_swapItem 30 = .ok (.ifCond .eq 11, 3) := by decide +kernel
theorem dX0_swapItem_33 : decode cX0_swapItem 33 = .ok (.aload_n 0, 1) := by decide +kernel
theorem dX0_swapItem_34 : decode cX0_swapItem 34 = .ok (.getfield 72, 3) := by decide +kernel
theorem dX0_swapItem_37 : decode cX0_swapItem 37 = .ok (.iload_n 2, 1) := by decide +kernel
theorem dX0_swapItem_38 : decode cX0_swapItem 38 = .ok (.if_icmp .ne 5, 3) := by decide +kernel
theorem dX0_swapItem_41 : decode cX0_swapItem 41 = .ok (.iconst 0, 1) := by decide +kernel
theorem dX0_swapItem_42 : decode cX0_swapItem 42 = .ok (.ireturn, 1) := by decide +kernel
theorem dX0_swapItem_43 : decode cX0_swapItem 43 = .ok (.aload_n 1, 1) := by decide +kernel
theorem dX0_swapItem_44 : decode cX0_swapItem 44 = .ok (.iload_n 2, 1) := by decide +kernel
theorem dX0_swapItem_45 : decode cX0_swapItem 45 = .ok (.aload_n 0, 1) := by decide +kernel
theorem dX0_swapItem_46 : decode cX0_swapItem 46 = .ok (.getfield 72, 3) := by decide +kernel
theorem dX0_swapItem_49 : decode cX0_swapItem 49 = .ok (.invokevirtual 85, 3) := by decide +kernel
theorem dX0_swapItem_52 : decode cX0_swapItem 52 = .ok (.aload_n 0, 1) := by decide +kernel
theorem dX0_swapItem_53 : decode cX0_swapItem 53 = .ok (.invokevirtual 19, 3) := by decide +kernel
theorem dX0_swapItem_56 : decode cX0_swapItem 56 = .ok (.iconst 1, 1) := by decide +kernel
theorem dX0_swapItem_57 : decode cX0_swapItem 57 = .ok (.ireturn, 1) := by decide +kernel
theorem dX0_nextIsNumber_0 : decode cX0_nextIsNumber 0 = .ok (.aload_n 0, 1) := by decide +kernel
theorem dX0_nextIsNumber_1 : decode cX0_nextIsNumber 1 = .ok (.aload_n 0, 1) := by decide +kernel
theorem dX0_nextIsNumber_2 : decode cX0_nextIsNumber 2 = .ok (.invokevirtual 89, 3) := by decide +kernel
theorem dX0_nextIsNumber_5 : decode cX0_nextIsNumber 5 = .ok (.putfield 26, 3) := by decide +kernel
theorem dX0_nextIsNumber_8 : decode cX0_nextIsNumber 8 = .ok (.aload_n 0, 1) := by decide +kernel
theorem dX0_nextIsNumber_9 : decode cX0_nextIsNumber 9 = .ok (.getfield 9, 3) := by decide +kernel
theorem dX0_nextIsNumber_12 : decode cX0_nextIsNumber 12 = .ok (.aload_n 0, 1) := by decide +kernel
theorem dX0_nextIsNumber_13 : decode cX0_nextIsNumber 13 = .ok (.getfield 26, 3) := by decide +kernel
theorem dX0_nextIsNumber_16 : decode cX0_nextIsNumber 16 = .ok (.invokevirtual 93, 3) := by decide +kernel
theorem dX0_nextIsNumber_19 : decode cX0_nextIsNumber 19 = .ok (.invokestatic 99, 3) := by decide +kernel
theorem dX0_nextIsNumber_22 : decode cX0_nextIsNumber 22 = .ok (.ifCond .ne 5, 3) := by decide +kernel
theorem dX0_nextIsNumber_25 : decode cX0_nextIsNumber 25 = .ok (.iconst 0, 1) := by decide +kernel
theorem dX0_nextIsNumber_26 : decode cX0_nextIsNumber 26 = .ok (.ireturn, 1) := by decide +kernel
theorem dX0_nextIsNumber_27 : decode cX0_nextIsNumber 27 = .ok (.aload_n 0, 1) := by decide +kernel
theorem dX0_nextIsNumber_28 : decode cX0_nextIsNumber 28 = .ok (.invokevirtual 102, 3) := by decide +kernel
theorem dX0_nextIsNumber_31 : decode cX0_nextIsNumber 31 = .ok (.aload_n 0, 1) := by decide +kernel
theorem dX0_nextIsNumber_32 : decode cX0_nextIsNumber 32 = .ok (.getfield 72, 3) := by decide +kernel
theorem dX0_nextIsNumber_35 : decode cX0_nextIsNumber 35 = .ok (.iload_n 1, 1) := by decide +kernel
theorem dX0_nextIsNumber_36 : decode cX0_nextIsNumber 36 = .ok (.if_icmp .gt 7, 3) := by decide +kernel
theorem dX0_nextIsNumber_39 : decode cX0_nextIsNumber 39 = .ok (.iconst 1, 1) := by decide +kernel
theorem dX0_nextIsNumber_40 : decode cX0_nextIsNumber 40 = .ok (.goto 4, 3) := by decide +kernel
theorem dX0_nextIsNumber_43 : decode cX0_nextIsNumber 43 = .ok (.iconst 0, 1) := by decide +kernel
theorem dX0_nextIsNumber_44 : decode cX0_nextIsNumber 44 = .ok (.ireturn, 1) := by decide +kernel
theorem dX0_next_0 : decode cX0_next 0 = .ok (.aload_n 0, 1) := by decide +kernel
theorem dX0_next_1 : decode cX0_next 1 = .ok (.aload_n 0, 1) := by decide +kernel
theorem dX0_next_2 : decode cX0_next 2 = .ok (.invokevirtual 89, 3) := by decide +kernel
theorem dX0_next_5 : decode cX0_next 5 = .ok (.putfield 26, 3) := by decide +kernel
theorem dX0_next_8 : decode cX0_next 8 = .ok (.aload_n 0, 1) := by decide +kernel
theorem dX0_next_9 : decode cX0_next 9 = .ok (.aload_n 0, 1) := by decide +kernel
theorem dX0_next_10 : decode cX0_next 10 = .ok (.getfield 26, 3) := by decide +kernel
theorem dX0_next_13 : decode cX0_next 13 = .ok (.iconst 1, 1) := by decide +kernel
theorem dX0_next_14 : decode cX0_next 14 = .ok (.iadd, 1) := by decide +kernel
theorem dX0_next_15 : decode cX0_next 15 = .ok (.putfield 15, 3) := by decide +kernel
theorem dX0_next_18 : decode cX0_next 18 = .ok (.aload_n 0, 1) := by decide +kernel
theorem dX0_next_19 : decode cX0_next 19 = .ok (.getfield 9, 3) := by decide +kernel
theorem dX0_next_22 : decode cX0_next 22 = .ok (.aload_n 0, 1) := by decide +kernel
theorem dX0_next_23 : decode cX0_next 23 = .ok (.getfield 26, 3) := by decide +kernel
theorem dX0_next_26 : decode cX0_next 26 = .ok (.invokevirtual 93, 3) := by decide +kernel
theorem dX0_next_29 : decode cX0_next 29 = .ok (.istore_n 1, 1) := by decide +kernel
theorem dX0_next_30 : decode cX0_next 30 = .ok (.aload_n 0, 1) := by decide +kernel
theorem dX0_next_31 : decode cX0_next 31 = .ok (.getfield 26, 3) := by decide +kernel
theorem dX0_next_34 : decode cX0_next 34 = .ok (.aload_n 0, 1) := by decide +kernel
theorem dX0_next_35 : decode cX0_next 35 = .ok (.getfield 9, 3) := by decide +kernel
theorem dX0_next_38 : decode cX0_next 38 = .ok (.getfield 105, 3) := by decide +kernel
theorem dX0_next_41 : decode cX0_next 41 = .ok (.if_icmp .lt 12, 3) := by decide +kernel
theorem dX0_next_44 : decode cX0_next 44 = .ok (.aload_n 0, 1) := by decide +kernel
theorem dX0_next_45 : decode cX0_next 45 = .ok (.bipush 14, 2) := by decide +kernel
theorem dX0_next_47 : decode cX0_next 47 = .ok (.putfield 29, 3) := by decide +kernel
theorem dX0_next_50 : decode cX0_next 50 = .ok (.goto 52, 3) := by decide +kernel
theorem dX0_next_53 : decode cX0_next 53 = .ok (.iload_n 1, 1) := by decide +kernel
theorem dX0_next_54 : decode cX0_next 54 = .ok (.bipush 59, 2) := by decide +kernel
theorem dX0_next_56 : decode cX0_next 56 = .ok (.if_icmp .ne 12, 3) := by decide +kernel
theorem dX0_next_59 : decode cX0_next 59 = .ok (.aload_n 0, 1) := by decide +kernel
theorem dX0_next_60 : decode cX0_next 60 = .ok (.bipush 13, 2) := by decide +kernel
theorem dX0_next_62 : decode cX0_next 62 = .ok (.putfield 29, 3) := by decide +kernel
theorem dX0_next_65 : decode cX0_next 65 = .ok (.goto 37, 3) := by decide +kernel
theorem dX0_next_68 : decode cX0_next 68 = .ok (.iload_n 1, 1) := by decide +kernel
theorem dX0_next_69 : decode cX0_next 69 = .ok (.invokestatic 99, 3) := by decide +kernel
theorem dX0_next_72 : decode cX0_next 72 = .ok (.ifCond .eq 10, 3) := by decide +kernel
theorem dX0_next_75 : decode cX0_next 75 = .ok (.aload_n 0, 1) := by decide +kernel
theorem dX0_next_76 : decode cX0_next 76 = .ok (.invokevirtual 102, 3) := by decide +kernel
theorem dX0_next_79 : decode cX0_next 79 = .ok (.goto 23, 3) := by decide +kernel
theorem dX0_next_82 : decode cX0_next 82 = .ok (.iload_n 1, 1) := by decide +kernel
theorem dX0_next_83 : decode cX0_next 83 = .ok (.invokestatic 108, 3) := by decide +kernel
theorem dX0_next_86 : decode cX0_next 86 = .ok (.ifCond .eq 10, 3) := by decide +kernel
theorem dX0_next_89 : decode cX0_next 89 = .ok (.aload_n 0, 1) := by decide +kernel
theorem dX0_next_90 : decode cX0_next 90 = .ok (.invokevirtual 111, 3) := by decide +kernel
theorem dX0_next_93 : decode cX0_next 93 = .ok (.goto 9, 3) := by decide +kernel
theorem dX0_next_96 : decode cX0_next 96 = .ok (.aload_n 0, 1) := by decide +kernel
theorem dX0_next_97 : decode cX0_next 97 = .ok (.bipush 15, 2) := by decide +kernel
theorem dX0_next_99 : decode cX0_next 99 = .ok (.putfield 29, 3) := by decide +kernel
theorem dX0_next_102 : decode cX0_next 102 = .ok (.return_, 1) := by decide +kernel
theorem dX0_behindBlanks_0 : decode cX0_behindBlanks 0 = .ok (.aload_n 0, 1) := by decide +kernel
theorem dX0_behindBlanks_1 : decode cX0_behindBlanks 1 = .ok (.getfield 15, 3) := by decide +kernel
theorem dX0_behindBlanks_4 : decode cX0_behindBlanks 4 = .ok (.istore_n 1, 1) := by decide +kernel
theorem dX0_behindBlanks_5 : decode cX0_behindBlanks 5 = .ok (.iload_n 1, 1) := by decide +kernel
theorem dX0_behindBlanks_6 : decode cX0_behindBlanks 6 = .ok (.aload_n 0, 1) := by decide +kernel
theorem dX0_behindBlanks_7 : decode cX0_behindBlanks 7 = .ok (.getfield 9, 3) := by decide +kernel
theorem dX0_behindBlanks_10 : decode cX0_behindBlanks 10 = .ok (.getfield 105, 3) := by decide +kernel
theorem dX0_behindBlanks_13 : decode cX0_behindBlanks 13 = .ok (.if_icmp .ge 22, 3) := by decide +kernel
theorem dX0_behindBlanks_16 : decode cX0_behindBlanks 16 = .ok (.aload_n 0, 1) := by decide +kernel
theorem dX0_behindBlanks_17 : decode cX0_behindBlanks 17 = .ok (.getfield 9, 3) := by decide +kernel
theorem dX0_behindBlanks_20 : decode cX0_behindBlanks 20 = .ok (.iload_n 1, 1) := by decide +kernel
theorem dX0_behindBlanks_21 : decode cX0_behindBlanks 21 = .ok (.invokevirtual 93, 3) := by decide +kernel
theorem dX0_behindBlanks_24 : decode cX0_behindBlanks 24 = .ok (.bipush 32, 2) := by decide +kernel
theorem dX0_behindBlanks_26 : decode cX0_behindBlanks 26 = .ok (.if_icmp .ne 9, 3) := by decide +kernel
theorem dX0_behindBlanks_29 : decode cX0_behindBlanks 29 = .ok (.iinc 1 1, 3) := by decide +kernel
theorem dX0_behindBlanks_32 : decode cX0_behindBlanks 32 = .ok (.goto (-27), 3) := by decide +kernel
theorem dX0_behindBlanks_35 : decode cX0_behindBlanks 35 = .ok (.iload_n 1, 1) := by decide +kernel
theorem dX0_behindBlanks_36 : decode cX0_behindBlanks 36 = .ok (.aload_n 0, 1) := by decide +kernel
theorem dX0_behindBlanks_37 : decode cX0_behindBlanks 37 = .ok (.getfield 9, 3) := by decide +kernel
theorem dX0_behindBlanks_40 : decode cX0_behindBlanks 40 = .ok (.getfield 105, 3) := by decide +kernel
theorem dX0_behindBlanks_43 : decode cX0_behindBlanks 43 = .ok (.invokestatic 114, 3) := by decide +kernel
theorem dX0_behindBlanks_46 : decode cX0_behindBlanks 46 = .ok (.ireturn, 1) := by decide +kernel
theorem dX0_takeNumber_0 : decode cX0_takeNumber 0 = .ok (.aload_n 0, 1) := by decide +kernel
theorem dX0_takeNumber_1 : decode cX0_takeNumber 1 = .ok (.bipush 12, 2) := by decide +kernel
theorem dX0_takeNumber_3 : decode cX0_takeNumber 3 = .ok (.putfield 29, 3) := by decide +kernel
theorem dX0_takeNumber_6 : decode cX0_takeNumber 6 = .ok (.aload_n 0, 1) := by decide +kernel
theorem dX0_takeNumber_7 : decode cX0_takeNumber 7 = .ok (.iconst 0, 1) := by decide +kernel
theorem dX0_takeNumber_8 : decode cX0_takeNumber 8 = .ok (.putfield 72, 3) := by decide +kernel
theorem dX0_takeNumber_11 : decode cX0_takeNumber 11 = .ok (.aload_n 0, 1) := by decide +kernel
theorem dX0_takeNumber_12 : decode cX0_takeNumber 12 = .ok (.getfield 26, 3) := by decide +kernel
theorem dX0_takeNumber_15 : decode cX0_takeNumber 15 = .ok (.istore_n 1, 1) := by decide +kernel
theorem dX0_takeNumber_16 : decode cX0_takeNumber 16 = .ok (.iload_n 1, 1) := by decide +kernel
theorem dX0_takeNumber_17 : decode cX0_takeNumber 17 = .ok (.aload_n 0, 1) := by decide +kernel
theorem dX0_takeNumber_18 : decode cX0_takeNumber 18 = .ok (.getfield 9, 3) := by decide +kernel
theorem dX0_takeNumber_21 : decode cX0_takeNumber 21 = .ok (.getfield 105, 3) := by decide +kernel
theorem dX0_takeNumber_24 : decode cX0_takeNumber 24 = .ok (.if_icmp .ge 52, 3) := by decide +kernel
theorem dX0_takeNumber_27 : decode cX0_takeNumber 27 = .ok (.aload_n 0, 1) := by decide +kernel
theorem dX0_takeNumber_28 : decode cX0_takeNumber 28 = .ok (.getfield 9, 3) := by decide +kernel
theorem dX0_takeNumber_31 : decode cX0_takeNumber 31 = .ok (.iload_n 1, 1) := by decide +kernel
theorem dX0_takeNumber_32 : decode cX0_takeNumber 32 = .ok (.invokevirtual 93, 3) := by decide +kernel
theorem dX0_takeNumber_35 : decode cX0_takeNumber 35 = .ok (.invokestatic 99, 3) := by decide +kernel
theorem dX0_takeNumber_38 : decode cX0_takeNumber 38 = .ok (.ifCond .eq 38, 3) := by decide +kernel
theorem dX0_takeNumber_41 : decode cX0_takeNumber 41 = .ok (.aload_n 0, 1) := by decide +kernel
theorem dX0_takeNumber_42 : decode cX0_takeNumber 42 = .ok (.bipush 10, 2) := by decide +kernel
theorem dX0_takeNumber_44 : decode cX0_takeNumber 44 = .ok (.aload_n 0, 1) := by decide +kernel
theorem dX0_takeNumber_45 : decode cX0_takeNumber 45 = .ok (.getfield 72, 3) := by decide +kernel
theorem dX0_takeNumber_48 : decode cX0_takeNumber 48 = .ok (.imul, 1) := by decide +kernel
theorem dX0_takeNumber_49 : decode cX0_takeNumber 49 = .ok (.aload_n 0, 1) := by decide +kernel
theorem dX0_takeNumber_50 : decode cX0_takeNumber 50 = .ok (.getfield 9, 3) := by decide +kernel
theorem dX0_takeNumber_53 : decode cX0_takeNumber 53 = .ok (.iload_n 1, 1) := by decide +kernel
theorem dX0_takeNumber_54 : decode cX0_takeNumber 54 = .ok (.invokevirtual 93, 3) := by decide +kernel
theorem dX0_takeNumber_57 : decode cX0_takeNumber 57 = .ok (.iadd, 1) := by decide +kernel
theorem dX0_takeNumber_58 : decode cX0_takeNumber 58 = .ok (.bipush 48, 2) := by decide +kernel
theorem dX0_takeNumber_60 : decode cX0_takeNumber 60 = .ok (.isub, 1) := by decide +kernel
theorem dX0_takeNumber_61 : decode cX0_takeNumber 61 = .ok (.sipush 1000, 3) := by decide +kernel
theorem dX0_takeNumber_64 : decode cX0_takeNumber 64 = .ok (.invokestatic 114, 3) := by decide +kernel
theorem dX0_takeNumber_67 : decode cX0_takeNumber 67 = .ok (.putfield 72, 3) := by decide +kernel
theorem dX0_takeNumber_70 : decode cX0_takeNumber 70 = .ok (.iinc 1 1, 3) := by decide +kernel
theorem dX0_takeNumber_73 : decode cX0_takeNumber 73 = .ok (.goto (-57), 3) := by decide +kernel
theorem dX0_takeNumber_76 : decode cX0_takeNumber 76 = .ok (.aload_n 0, 1) := by decide +kernel
theorem dX0_takeNumber_77 : decode cX0_takeNumber 77 = .ok (.iload_n 1, 1) := by decide +kernel
theorem dX0_takeNumber_78 : decode cX0_takeNumber 78 = .ok (.putfield 15, 3) := by decide +kernel
theorem dX0_takeNumber_81 : decode cX0_takeNumber 81 = .ok (.return_, 1) := by decide +kernel
theorem dX0_takeWord_0 : decode cX0_takeWord 0 = .ok (.aload_n 0, 1) := by decide +kernel
theorem dX0_takeWord_1 : decode cX0_takeWord 1 = .ok (.getfield 26, 3) := by decide +kernel
theorem dX0_takeWord_4 : decode cX0_takeWord 4 = .ok (.istore_n 1, 1) := by decide +kernel
theorem dX0_takeWord_5 : decode cX0_takeWord 5 = .ok (.iload_n 1, 1) := by decide +kernel
theorem dX0_takeWord_6 : decode cX0_takeWord 6 = .ok (.aload_n 0, 1) := by decide +kernel
theorem dX0_takeWord_7 : decode cX0_takeWord 7 = .ok (.getfield 9, 3) := by decide +kernel
theorem dX0_takeWord_10 : decode cX0_takeWord 10 = .ok (.getfield 105, 3) := by decide +kernel
theorem dX0_takeWord_13 : decode cX0_takeWord 13 = .ok (.if_icmp .ge 23, 3) := by decide +kernel
theorem dX0_takeWord_16 : decode cX0_takeWord 16 = .ok (.aload_n 0, 1) := by decide +kernel
theorem dX0_takeWord_17 : decode cX0_takeWord 17 = .ok (.getfield 9, 3) := by decide +kernel
theorem dX0_takeWord_20 : decode cX0_takeWord 20 = .ok (.iload_n 1, 1) := by decide +kernel
theorem dX0_takeWord_21 : decode cX0_takeWord 21 = .ok (.invokevirtual 93, 3) := by decide +kernel
theorem dX0_takeWord_24 : decode cX0_takeWord 24 = .ok (.invokestatic 108, 3) := by decide +kernel
theorem dX0_takeWord_27 : decode cX0_takeWord 27 = .ok (.ifCond .eq 9, 3) := by decide +kernel
theorem dX0_takeWord_30 : decode cX0_takeWord 30 = .ok (.iinc 1 1, 3) := by decide +kernel
theorem dX0_takeWord_33 : decode cX0_takeWord 33 = .ok (.goto (-28), 3) := by decide +kernel
theorem dX0_takeWord_36 : decode cX0_takeWord 36 = .ok (.aload_n 0, 1) := by decide +kernel
theorem dX0_takeWord_37 : decode cX0_takeWord 37 = .ok (.iload_n 1, 1) := by decide +kernel
theorem dX0_takeWord_38 : decode cX0_takeWord 38 = .ok (.putfield 15, 3) := by decide +kernel
theorem dX0_takeWord_41 : decode cX0_takeWord 41 = .ok (.aload_n 0, 1) := by decide +kernel
theorem dX0_takeWord_42 : decode cX0_takeWord 42 = .ok (.bipush 15, 2) := by decide +kernel
theorem dX0_takeWord_44 : decode cX0_takeWord 44 = .ok (.putfield 29, 3) := by decide +kernel
theorem dX0_takeWord_47 : decode cX0_takeWord 47 = .ok (.iconst 0, 1) := by decide +kernel
theorem dX0_takeWord_48 : decode cX0_takeWord 48 = .ok (.istore_n 2, 1) := by decide +kernel
theorem dX0_takeWord_49 : decode cX0_takeWord 49 = .ok (.iload_n 2, 1) := by decide +kernel
theorem dX0_takeWord_50 : decode cX0_takeWord 50 = .ok (.bipush 12, 2) := by decide +kernel
theorem dX0_takeWord_52 : decode cX0_takeWord 52 = .ok (.if_icmp .ge 25, 3) := by decide +kernel
theorem dX0_takeWord_55 : decode cX0_takeWord 55 = .ok (.aload_n 0, 1) := by decide +kernel
theorem dX0_takeWord_56 : decode cX0_takeWord 56 = .ok (.iload_n 2, 1) := by decide +kernel
theorem dX0_takeWord_57 : decode cX0_takeWord 57 = .ok (.invokestatic 120, 3) := by decide +kernel
theorem dX0_takeWord_60 : decode cX0_takeWord 60 = .ok (.invokevirtual 124, 3) := by decide +kernel
theorem dX0_takeWord_63 : decode cX0_takeWord 63 = .ok (.ifCond .eq 8, 3) := by decide +kernel
theorem dX0_takeWord_66 : decode cX0_takeWord 66 = .ok (.aload_n 0, 1) := by decide +kernel
theorem dX0_takeWord_67 : decode cX0_takeWord 67 = .ok (.iload_n 2, 1) := by decide +kernel
theorem dX0_takeWord_68 : decode cX0_takeWord 68 = .ok (.putfield 29, 3) := by decide +kernel
theorem dX0_takeWord_71 : decode cX0_takeWord 71 = .ok (.iinc 2 1, 3) := by decide +kernel
theorem dX0_takeWord_74 : decode cX0_takeWord 74 = .ok (.goto (-25), 3) := by decide +kernel
theorem dX0_takeWord_77 : decode cX0_takeWord 77 = .ok (.return_, 1) := by decide +kernel
theorem dX0_isWord_0 : decode cX0_isWord 0 = .ok (.aload_n 1, 1) := by decide +kernel
theorem dX0_isWord_1 : decode cX0_isWord 1 = .ok (.invokevirtual 128, 3) := by decide +kernel
theorem dX0_isWord_4 : decode cX0_isWord 4 = .ok (.aload_n 0, 1) := by decide +kernel
theorem dX0_isWord_5 : decode cX0_isWord 5 = .ok (.getfield 15, 3) := by decide +kernel
theorem dX0_isWord_8 : decode cX0_isWord 8 = .ok (.aload_n 0, 1) := by decide +kernel
theorem dX0_isWord_9 : decode cX0_isWord 9 = .ok (.getfield 26, 3) := by decide +kernel
theorem dX0_isWord_12 : decode cX0_isWord 12 = .ok (.isub, 1) := by decide +kernel
theorem dX0_isWord_13 : decode cX0_isWord 13 = .ok (.if_icmp .eq 5, 3) := by decide +kernel
theorem dX0_isWord_16 : decode cX0_isWord 16 = .ok (.iconst 0, 1) := by decide +kernel
theorem dX0_isWord_17 : decode cX0_isWord 17 = .ok (.ireturn, 1) := by decide +kernel
theorem dX0_isWord_18 : decode cX0_isWord 18 = .ok (.iconst 0, 1) := by decide +kernel
theorem dX0_isWord_19 : decode cX0_isWord 19 = .ok (.istore_n 2, 1) := by decide +kernel
theorem dX0_isWord_20 : decode cX0_isWord 20 = .ok (.iload_n 2, 1) := by decide +kernel
theorem dX0_isWord_21 : decode cX0_isWord 21 = .ok (.aload_n 1, 1) := by decide +kernel
theorem dX0_isWord_22 : decode cX0_isWord 22 = .ok (.invokevirtual 128, 3) := by decide +kernel
theorem dX0_isWord_25 : decode cX0_isWord 25 = .ok (.if_icmp .ge 32, 3) := by decide +kernel
theorem dX0_isWord_28 : decode cX0_isWord 28 = .ok (.aload_n 1, 1) := by decide +kernel
theorem dX0_isWord_29 : decode cX0_isWord 29 = .ok (.iload_n 2, 1) := by decide +kernel
theorem dX0_isWord_30 : decode cX0_isWord 30 = .ok (.invokevirtual 132, 3) := by decide +kernel
theorem dX0_isWord_33 : decode cX0_isWord 33 = .ok (.aload_n 0, 1) := by decide +kernel
theorem dX0_isWord_34 : decode cX0_isWord 34 = .ok (.getfield 9, 3) := by decide +kernel
theorem dX0_isWord_37 : decode cX0_isWord 37 = .ok (.aload_n 0, 1) := by decide +kernel
theorem dX0_isWord_38 : decode cX0_isWord 38 = .ok (.getfield 26, 3) := by decide +kernel
theorem dX0_isWord_41 : decode cX0_isWord 41 = .ok (.iload_n 2, 1) := by decide +kernel
theorem dX0_isWord_42 : decode cX0_isWord 42 = .ok (.iadd, 1) := by decide +kernel
theorem dX0_isWord_43 : decode cX0_isWord 43 = .ok (.invokevirtual 93, 3) := by decide +kernel
theorem dX0_isWord_46 : decode cX0_isWord 46 = .ok (.if_icmp .eq 5, 3) := by decide +kernel
theorem dX0_isWord_49 : decode cX0_isWord 49 = .ok (.iconst 0, 1) := by decide +kernel
theorem dX0_isWord_50 : decode cX0_isWord 50 = .ok (.ireturn, 1) := by decide +kernel
theorem dX0_isWord_51 : decode cX0_isWord 51 = .ok (.iinc 2 1, 3) := by decide +kernel
theorem dX0_isWord_54 : decode cX0_isWord 54 = .ok (.goto (-34), 3) := by decide +kernel
theorem dX0_isWord_57 : decode cX0_isWord 57 = .ok (.iconst 1, 1) := by decide +kernel
theorem dX0_isWord_58 : decode cX0_isWord 58 = .ok (.ireturn, 1) := by decide +kernel
theorem dX0_textOf_0 : decode cX0_textOf 0 = .ok (.iload_n 0, 1) := by decide +kernel
theorem dX0_textOf_1 : decode cX0_textOf 1 = .ok (.tableswitch 99 0 11 #[63, 66, 69, 72, 75, 78, 81, 84, 87, 90, 93, 96], 63) := by decide +kernel
theorem dX0_textOf_64 : decode cX0_textOf 64 = .ok (.ldc 136, 2) := by decide +kernel
theorem dX0_textOf_66 : decode cX0_textOf 66 = .ok (.areturn, 1) := by decide +kernel
theorem dX0_textOf_67 : decode cX0_textOf 67 = .ok (.ldc 138, 2) := by decide +kernel
theorem dX0_textOf_69 : decode cX0_textOf 69 = .ok (.areturn, 1) := by decide +kernel
theorem dX0_textOf_70 : decode cX0_textOf 70 = .ok (.ldc 140, 2) := by decide +kernel
theorem dX0_textOf_72 : decode cX0_textOf 72 = .ok (.areturn, 1) := by decide +kernel
theorem dX0_textOf_73 : decode cX0_textOf 73 = .ok (.ldc 142, 2) := by decide +kernel
theorem dX0_textOf_75 : decode cX0_textOf 75 = .ok (.areturn, 1) := by decide +kernel
theorem dX0_textOf_76 : decode cX0_textOf 76 = .ok (.ldc 144, 2) := by decide +kernel
theorem dX0_textOf_78 : decode cX0_textOf 78 = .ok (.areturn, 1) := by decide +kernel
theorem dX0_textOf_79 : decode cX0_textOf 79 = .ok (.ldc 146, 2) := by decide +kernel
theorem dX0_textOf_81 : decode cX0_textOf 81 = .ok (.areturn, 1) := by decide +kernel
theorem dX0_textOf_82 : decode cX0_textOf 82 = .ok (.ldc 148, 2) := by decide +kernel
theorem dX0_textOf_84 : decode cX0_textOf 84 = .ok (.areturn, 1) := by decide +kernel
theorem dX0_textOf_85 : decode cX0_textOf 85 = .ok (.ldc 150, 2) := by decide +kernel
theorem dX0_textOf_87 : decode cX0_textOf 87 = .ok (.areturn, 1) := by decide +kernel
theorem dX0_textOf_88 : decode cX0_textOf 88 = .ok (.ldc 152, 2) := by decide +kernel
theorem dX0_textOf_90 : decode cX0_textOf 90 = .ok (.areturn, 1) := by decide +kernel
theorem dX0_textOf_91 : decode cX0_textOf 91 = .ok (.ldc 154, 2) := by decide +kernel
theorem dX0_textOf_93 : decode cX0_textOf 93 = .ok (.areturn, 1) := by decide +kernel
theorem dX0_textOf_94 : decode cX0_textOf 94 = .ok (.ldc 155, 2) := by decide +kernel
theorem dX0_textOf_96 : decode cX0_textOf 96 = .ok (.areturn, 1) := by decide +kernel
theorem dX0_textOf_97 : decode cX0_textOf 97 = .ok (.ldc 156, 2) := by decide +kernel
theorem dX0_textOf_99 : decode cX0_textOf 99 = .ok (.areturn, 1) := by decide +kernel
theorem dX0_textOf_100 : decode cX0_textOf 100 = .ok (.ldc 158, 2) := by decide +kernel
theorem dX0_textOf_102 : decode cX0_textOf 102 = .ok (.areturn, 1) := by decide +kernel
theorem dX0_isDigit_0 : decode cX0_isDigit 0 = .ok (.iload_n 0, 1) := by decide +kernel
theorem dX0_isDigit_1 : decode cX0_isDigit 1 = .ok (.bipush 48, 2) := by decide +kernel
theorem dX0_isDigit_3 : decode cX0_isDigit 3 = .ok (.if_icmp .lt 13, 3) := by decide +kernel
theorem dX0_isDigit_6 : decode cX0_isDigit 6 = .ok (.iload_n 0, 1) := by decide +kernel
theorem dX0_isDigit_7 : decode cX0_isDigit 7 = .ok (.bipush 57, 2) := by decide +kernel
theorem dX0_isDigit_9 : decode cX0_isDigit 9 = .ok (.if_icmp .gt 7, 3) := by decide +kernel
theorem dX0_isDigit_12 : decode cX0_isDigit 12 = .ok (.iconst 1, 1) := by decide +kernel
theorem dX0_isDigit_13 : decode cX0_isDigit 13 = .ok (.goto 4, 3) := by decide +kernel
theorem dX0_isDigit_16 : decode cX0_isDigit 16 = .ok (.iconst 0, 1) := by decide +kernel
theorem dX0_isDigit_17 : decode cX0_isDigit 17 = .ok (.ireturn, 1) := by decide +kernel
theorem dX0_isLetter_0 : decode cX0_isLetter 0 = .ok (.iload_n 0, 1) := by decide +kernel
theorem dX0_isLetter_1 : decode cX0_isLetter 1 = .ok (.bipush 97, 2) := by decide +kernel
theorem dX0_isLetter_3 : decode cX0_isLetter 3 = .ok (.if_icmp .lt 13, 3) := by decide +kernel
theorem dX0_isLetter_6 : decode cX0_isLetter 6 = .ok (.iload_n 0, 1) := by decide +kernel
theorem dX0_isLetter_7 : decode cX0_isLetter 7 = .ok (.bipush 122, 2) := by decide +kernel
theorem dX0_isLetter_9 : decode cX0_isLetter 9 = .ok (.if_icmp .gt 7, 3) := by decide +kernel
theorem dX0_isLetter_12 : decode cX0_isLetter 12 = .ok (.iconst 1, 1) := by decide +kernel
theorem dX0_isLetter_13 : decode cX0_isLetter 13 = .ok (.goto 4, 3) := by decide +kernel
theorem dX0_isLetter_16 : decode cX0_isLetter 16 = .ok (.iconst 0, 1) := by decide +kernel
theorem dX0_isLetter_17 : decode cX0_isLetter 17 = .ok (.ireturn, 1) := by decide +kernel
theorem dX1_init_0 : decode cX1_init 0 = .ok (.aload_n 0, 1) := by decide +kernel
theorem dX1_init_1 : decode cX1_init 1 = .ok (.invokespecial 3, 3) := by decide +kernel
theorem dX1_init_4 : decode cX1_init 4 = .ok (.aload_n 0, 1) := by decide +kernel
theorem dX1_init_5 : decode cX1_init 5 = .ok (.ldc 9, 2) := by decide +kernel
theorem dX1_init_7 : decode cX1_init 7 = .ok (.putfield 10, 3) := by decide +kernel
theorem dX1_init_10 : decode cX1_init 10 = .ok (.aload_n 0, 1) := by decide +kernel
theorem dX1_init_11 : decode cX1_init 11 = .ok (.iconst 3, 1) := by decide +kernel
theorem dX1_init_12 : decode cX1_init 12 = .ok (.putfield 16, 3) := by decide +kernel
theorem dX1_init_15 : decode cX1_init 15 = .ok (.aload_n 0, 1) := by decide +kernel
theorem dX1_init_16 : decode cX1_init 16 = .ok (.bipush 8, 2) := by decide +kernel
theorem dX1_init_18 : decode cX1_init 18 = .ok (.newarray .int, 2) := by decide +kernel
theorem dX1_init_20 : decode cX1_init 20 = .ok (.putfield 19, 3) := by decide +kernel
theorem dX1_init_23 : decode cX1_init 23 = .ok (.aload_n 0, 1) := by decide +kernel
theorem dX1_init_24 : decode cX1_init 24 = .ok (.bipush 8, 2) := by decide +kernel
theorem dX1_init_26 : decode cX1_init 26 = .ok (.newarray .int, 2) := by decide +kernel
theorem dX1_init_28 : decode cX1_init 28 = .ok (.putfield 23, 3) := by decide +kernel
theorem dX1_init_31 : decode cX1_init 31 = .ok (.aload_n 0, 1) := by decide +kernel
theorem dX1_init_32 : decode cX1_init 32 = .ok (.bipush 8, 2) := by decide +kernel
theorem dX1_init_34 : decode cX1_init 34 = .ok (.newarray .int, 2) := by decide +kernel
theorem dX1_init_36 : decode cX1_init 36 = .ok (.putfield 26, 3) := by decide +kernel
theorem dX1_init_39 : decode cX1_init 39 = .ok (.aload_n 0, 1) := by decide +kernel
theorem dX1_init_40 : decode cX1_init 40 = .ok (.bipush 8, 2) := by decide +kernel
theorem dX1_init_42 : decode cX1_init 42 = .ok (.newarray .int, 2) := by decide +kernel
theorem dX1_init_44 : decode cX1_init 44 = .ok (.putfield 29, 3) := by decide +kernel
theorem dX1_init_47 : decode cX1_init 47 = .ok (.return_, 1) := by decide +kernel
theorem dX1_takeFrom_0 : decode cX1_takeFrom 0 = .ok (.aload_n 0, 1) := by decide +kernel
theorem dX1_takeFrom_1 : decode cX1_takeFrom 1 = .ok (.aload_n 1, 1) := by decide +kernel
theorem dX1_takeFrom_2 : decode cX1_takeFrom 2 = .ok (.getfield 32, 3) := by decide +kernel
theorem dX1_takeFrom_5 : decode cX1_takeFrom 5 = .ok (.putfield 32, 3) := by decide +kernel
theorem dX1_takeFrom_8 : decode cX1_takeFrom 8 = .ok (.aload_n 0, 1) := by decide +kernel
theorem dX1_takeFrom_9 : decode cX1_takeFrom 9 = .ok (.aload_n 1, 1) := by decide +kernel
theorem dX1_takeFrom_10 : decode cX1_takeFrom 10 = .ok (.getfield 10, 3) := by decide +kernel
theorem dX1_takeFrom_13 : decode cX1_takeFrom 13 = .ok (.putfield 10, 3) := by decide +kernel
theorem dX1_takeFrom_16 : decode cX1_takeFrom 16 = .ok (.aload_n 0, 1) := by decide +kernel
theorem dX1_takeFrom_17 : decode cX1_takeFrom 17 = .ok (.aload_n 1, 1) := by decide +kernel
theorem dX1_takeFrom_18 : decode cX1_takeFrom 18 = .ok (.getfield 35, 3) := by decide +kernel
theorem dX1_takeFrom_21 : decode cX1_takeFrom 21 = .ok (.putfield 35, 3) := by decide +kernel
theorem dX1_takeFrom_24 : decode cX1_takeFrom 24 = .ok (.aload_n 0, 1) := by decide +kernel
theorem dX1_takeFrom_25 : decode cX1_takeFrom 25 = .ok (.aload_n 1, 1) := by decide +kernel
theorem dX1_takeFrom_26 : decode cX1_takeFrom 26 = .ok (.getfield 16, 3) := by decide +kernel
theorem dX1_takeFrom_29 : decode cX1_takeFrom 29 = .ok (.putfield 16, 3) := by decide +kernel
theorem dX1_takeFrom_32 : decode cX1_takeFrom 32 = .ok (.aload_n 0, 1) := by decide +kernel
theorem dX1_takeFrom_33 : decode cX1_takeFrom 33 = .ok (.aload_n 1, 1) := by decide +kernel
theorem dX1_takeFrom_34 : decode cX1_takeFrom 34 = .ok (.getfield 38, 3) := by decide +kernel
theorem dX1_takeFrom_37 : decode cX1_takeFrom 37 = .ok (.putfield 38, 3) := by decide +kernel
theorem dX1_takeFrom_40 : decode cX1_takeFrom 40 = .ok (.iconst 0, 1) := by decide +kernel
theorem dX1_takeFrom_41 : decode cX1_takeFrom 41 = .ok (.istore_n 2, 1) := by decide +kernel
theorem dX1_takeFrom_42 : decode cX1_takeFrom 42 = .ok (.iload_n 2, 1) := by decide +kernel
theorem dX1_takeFrom_43 : decode cX1_takeFrom 43 = .ok (.bipush 8, 2) := by decide +kernel
theorem dX1_takeFrom_45 : decode cX1_takeFrom 45 = .ok (.if_icmp .ge 57, 3) := by decide +kernel
theorem dX1_takeFrom_48 : decode cX1_takeFrom 48 = .ok (.aload_n 0, 1) := by decide +kernel
theorem dX1_takeFrom_49 : decode cX1_takeFrom 49 = .ok (.getfield 19, 3) := by decide +kernel
theorem dX1_takeFrom_52 : decode cX1_takeFrom 52 = .ok (.iload_n 2, 1) := by decide +kernel
theorem dX1_takeFrom_53 : decode cX1_takeFrom 53 = .ok (.aload_n 1, 1) := by decide +kernel
theorem dX1_takeFrom_54 : decode cX1_takeFrom 54 = .ok (.getfield 19, 3) := by decide +kernel
theorem dX1_takeFrom_57 : decode cX1_takeFrom 57 = .ok (.iload_n 2, 1) := by decide +kernel
theorem dX1_takeFrom_58 : decode cX1_takeFrom 58 = .ok (.iaload, 1) := by decide +kernel
theorem dX1_takeFrom_59 : decode cX1_takeFrom 59 = .ok (.iastore, 1) := by decide +kernel
theorem dX1_takeFrom_60 : decode cX1_takeFrom 60 = .ok (.aload_n 0, 1) := by decide +kernel
theorem dX1_takeFrom_61 : decode cX1_takeFrom 61 = .ok (.getfield 23, 3) := by decide +kernel
theorem dX1_takeFrom_64 : decode cX1_takeFrom 64 = .ok (.iload_n 2, 1) := by decide +kernel
theorem dX1_takeFrom_65 : decode cX1_takeFrom 65 = .ok (.aload_n 1, 1) := by decide +kernel
theorem dX1_takeFrom_66 : decode cX1_takeFrom 66 = .ok (.getfield 23, 3) := by decide +kernel
theorem dX1_takeFrom_69 : decode cX1_takeFrom 69 = .ok (.iload_n 2, 1) := by decide +kernel
theorem dX1_takeFrom_70 : decode cX1_takeFrom 70 = .ok (.iaload, 1) := by decide +kernel
theorem dX1_takeFrom_71 : decode cX1_takeFrom 71 = .ok (.iastore, 1) := by decide +kernel
theorem dX1_takeFrom_72 : decode cX1_takeFrom 72 = .ok (.aload_n 0, 1) := by decide +kernel
theorem dX1_takeFrom_73 : decode cX1_takeFrom 73 = .ok (.getfield 26, 3) := by decide +kernel
theorem dX1_takeFrom_76 : decode cX1_takeFrom 76 = .ok (.iload_n 2, 1) := by decide +kernel
theorem dX1_takeFrom_77 : decode cX1_takeFrom 77 = .ok (.aload_n 1, 1) := by decide +kernel
theorem dX1_takeFrom_78 : decode cX1_takeFrom 78 = .ok (.getfield 26, 3) := by decide +kernel
theorem dX1_takeFrom_81 : decode cX1_takeFrom 81 = .ok (.iload_n 2, 1) := by decide +kernel
theorem dX1_takeFrom_82 : decode cX1_takeFrom 82 = .ok (.iaload, 1) := by decide +kernel
theorem dX1_takeFrom_83 : decode cX1_takeFrom 83 = .ok (.iastore, 1) := by decide +kernel
theorem dX1_takeFrom_84 : decode cX1_takeFrom 84 = .ok (.aload_n 0, 1) := by decide +kernel
theorem dX1_takeFrom_85 : decode cX1_takeFrom 85 = .ok (.getfield 29, 3) := by decide +kernel
theorem dX1_takeFrom_88 : decode cX1_takeFrom 88 = .ok (.iload_n 2, 1) := by decide +kernel
theorem dX1_takeFrom_89 : decode cX1_takeFrom 89 = .ok (.aload_n 1, 1) := by decide +kernel
theorem dX1_takeFrom_90 : decode cX1_takeFrom 90 = .ok (.getfield 29, 3) := by decide +kernel
theorem dX1_takeFrom_93 : decode cX1_takeFrom 93 = .ok (.iload_n 2, 1) := by decide +kernel
theorem dX1_takeFrom_94 : decode cX1_takeFrom 94 = .ok (.iaload, 1) := by decide +kernel
theorem dX1_takeFrom_95 : decode cX1_takeFrom 95 = .ok (.iastore, 1) := by decide +kernel
theorem dX1_takeFrom_96 : decode cX1_takeFrom 96 = .ok (.iinc 2 1, 3) := by decide +kernel
theorem dX1_takeFrom_99 : decode cX1_takeFrom 99 = .ok (.goto (-57), 3) := by decide +kernel
theorem dX1_takeFrom_102 : decode cX1_takeFrom 102 = .ok (.return_, 1) := by decide +kernel
theorem dX1_has_0 : decode cX1_has 0 = .ok (.iload_n 1, 1) := by decide +kernel
theorem dX1_has_1 : decode cX1_has 1 = .ok (.ifCond .lt 15, 3) := by decide +kernel
theorem dX1_has_4 : decode cX1_has 4 = .ok (.iload_n 1, 1) := by decide +kernel
theorem dX1_has_5 : decode cX1_has 5 = .ok (.aload_n 0, 1) := by decide +kernel
theorem dX1_has_6 : decode cX1_has 6 = .ok (.getfield 38, 3) := by decide +kernel
theorem dX1_has_9 : decode cX1_has 9 = .ok (.if_icmp .ge 7, 3) := by decide +kernel
theorem dX1_has_12 : decode cX1_has 12 = .ok (.iconst 1, 1) := by decide +kernel
theorem dX1_has_13 : decode cX1_has 13 = .ok (.goto 4, 3) := by decide +kernel
theorem dX1_has_16 : decode cX1_has 16 = .ok (.iconst 0, 1) := by decide +kernel
theorem dX1_has_17 : decode cX1_has 17 = .ok (.ireturn, 1) := by decide +kernel
theorem dX1_isFull_0 : decode cX1_isFull 0 = .ok (.aload_n 0, 1) := by decide +kernel
theorem dX1_isFull_1 : decode cX1_isFull 1 = .ok (.getfield 38, 3) := by decide +kernel
theorem dX1_isFull_4 : decode cX1_isFull 4 = .ok (.bipush 8, 2) := by decide +kernel
theorem dX1_isFull_6 : decode cX1_isFull 6 = .ok (.if_icmp .lt 7, 3) := by decide +kernel
theorem dX1_isFull_9 : decode cX1_isFull 9 = .ok (.iconst 1, 1) := by decide +kernel
theorem dX1_isFull_10 : decode cX1_isFull 10 = .ok (.goto 4, 3) := by decide +kernel
theorem dX1_isFull_13 : decode cX1_isFull 13 = .ok (.iconst 0, 1) := by decide +kernel
theorem dX1_isFull_14 : decode cX1_isFull 14 = .ok (.ireturn, 1) := by decide +kernel
theorem dX1_add_0 : decode cX1_add 0 = .ok (.aload_n 0, 1) := by decide +kernel
theorem dX1_add_1 : decode cX1_add 1 = .ok (.invokevirtual 41, 3) := by decide +kernel
theorem dX1_add_4 : decode cX1_add 4 = .ok (.ifCond .eq 4, 3) := by decide +kernel
theorem dX1_add_7 : decode cX1_add 7 = .ok (.return_, 1) := by decide +kernel
theorem dX1_add_8 : decode cX1_add 8 = .ok (.aload_n 0, 1) := by decide +kernel
theorem dX1_add_9 : decode cX1_add 9 = .ok (.getfield 19, 3) := by decide +kernel
theorem dX1_add_12 : decode cX1_add 12 = .ok (.aload_n 0, 1) := by decide +kernel
theorem dX1_add_13 : decode cX1_add 13 = .ok (.getfield 38, 3) := by decide +kernel
theorem dX1_add_16 : decode cX1_add 16 = .ok (.iload_n 1, 1) := by decide +kernel
theorem dX1_add_17 : decode cX1_add 17 = .ok (.iastore, 1) := by decide +kernel
theorem dX1_add_18 : decode cX1_add 18 = .ok (.aload_n 0, 1) := by decide +kernel
theorem dX1_add_19 : decode cX1_add 19 = .ok (.getfield 23, 3) := by decide +kernel
theorem dX1_add_22 : decode cX1_add 22 = .ok (.aload_n 0, 1) := by decide +kernel
theorem dX1_add_23 : decode cX1_add 23 = .ok (.getfield 38, 3) := by decide +kernel
theorem dX1_add_26 : decode cX1_add 26 = .ok (.iconst 0, 1) := by decide +kernel
theorem dX1_add_27 : decode cX1_add 27 = .ok (.iastore, 1) := by decide +kernel
theorem dX1_add_28 : decode cX1_add 28 = .ok (.aload_n 0, 1) := by decide +kernel
theorem dX1_add_29 : decode cX1_add 29 = .ok (.getfield 26, 3) := by decide +kernel
theorem dX1_add_32 : decode cX1_add 32 = .ok (.aload_n 0, 1) := by decide +kernel
theorem dX1_add_33 : decode cX1_add 33 = .ok (.getfield 38, 3) := by decide +kernel
theorem dX1_add_36 : decode cX1_add 36 = .ok (.iconst 0, 1) := by decide +kernel
theorem dX1_add_37 : decode cX1_add 37 = .ok (.iastore, 1) := by decide +kernel
theorem dX1_add_38 : decode cX1_add 38 = .ok (.aload_n 0, 1) := by decide +kernel
theorem dX1_add_39 : decode cX1_add 39 = .ok (.getfield 29, 3) := by decide +kernel
theorem dX1_add_42 : decode cX1_add 42 = .ok (.aload_n 0, 1) := by decide +kernel
theorem dX1_add_43 : decode cX1_add 43 = .ok (.getfield 38, 3) := by decide +kernel
theorem dX1_add_46 : decode cX1_add 46 = .ok (.bipush 50, 2) := by decide +kernel
theorem dX1_add_48 : decode cX1_add 48 = .ok (.iastore, 1) := by decide +kernel
theorem dX1_add_49 : decode cX1_add 49 = .ok (.aload_n 0, 1) := by decide +kernel
theorem dX1_add_50 : decode cX1_add 50 = .ok (.dup, 1) := by decide +kernel
theorem dX1_add_51 : decode cX1_add 51 = .ok (.getfield 38, 3) := by decide +kernel
theorem dX1_add_54 : decode cX1_add 54 = .ok (.iconst 1, 1) := by decide +kernel
theorem dX1_add_55 : decode cX1_add 55 = .ok (.iadd, 1) := by decide +kernel
theorem dX1_add_56 : decode cX1_add 56 = .ok (.putfield 38, 3) := by decide +kernel
theorem dX1_add_59 : decode cX1_add 59 = .ok (.return_, 1) := by decide +kernel
theorem dX1_exchange_0 : decode cX1_exchange 0 = .ok (.aload_n 0, 1) := by decide +kernel
theorem dX1_exchange_1 : decode cX1_exchange 1 = .ok (.iload_n 1, 1) := by decide +kernel
theorem dX1_exchange_2 : decode cX1_exchange 2 = .ok (.invokevirtual 45, 3) := by decide +kernel
theorem dX1_exchange_5 : decode cX1_exchange 5 = .ok (.ifCond .eq 11, 3) := by decide +kernel
theorem dX1_exchange_8 : decode cX1_exchange 8 = .ok (.aload_n 0, 1) := by decide +kernel
theorem dX1_exchange_9 : decode cX1_exchange 9 = .ok (.iload_n 2, 1) := by decide +kernel
theorem dX1_exchange_10 : decode cX1_exchange 10 = .ok (.invokevirtual 45, 3) := by decide +kernel
theorem dX1_exchange_13 : decode cX1_exchange 13 = .ok (.ifCond .ne 4, 3) := by decide +kernel
theorem dX1_exchange_16 : decode cX1_exchange 16 = .ok (.return_, 1) := by decide +kernel
theorem dX1_exchange_17 : decode cX1_exchange 17 = .ok (.aload_n 0, 1) := by decide +kernel
theorem dX1_exchange_18 : decode cX1_exchange 18 = .ok (.getfield 19, 3) := by decide +kernel
theorem dX1_exchange_21 : decode cX1_exchange 21 = .ok (.iload_n 1, 1) := by decide +kernel
theorem dX1_exchange_22 : decode cX1_exchange 22 = .ok (.iload_n 2, 1) := by decide +kernel
theorem dX1_exchange_23 : decode cX1_exchange 23 = .ok (.invokestatic 49, 3) := by decide +kernel
theorem dX1_exchange_26 : decode cX1_exchange 26 = .ok (.aload_n 0, 1) := by decide +kernel
theorem dX1_exchange_27 : decode cX1_exchange 27 = .ok (.getfield 23, 3) := by decide +kernel
theorem dX1_exchange_30 : decode cX1_exchange 30 = .ok (.iload_n 1, 1) := by decide +kernel
theorem dX1_exchange_31 : decode cX1_exchange 31 = .ok (.iload_n 2, 1) := by decide +kernel
theorem dX1_exchange_32 : decode cX1_exchange 32 = .ok (.invokestatic 49, 3) := by decide +kernel
theorem dX1_exchange_35 : decode cX1_exchange 35 = .ok (.aload_n 0, 1) := by decide +kernel
theorem dX1_exchange_36 : decode cX1_exchange 36 = .ok (.getfield 26, 3) := by decide +kernel
theorem dX1_exchange_39 : decode cX1_exchange 39 = .ok (.iload_n 1, 1) := by decide +kernel
theorem dX1_exchange_40 : decode cX1_exchange 40 = .ok (.iload_n 2, 1) := by decide +kernel
theorem dX1_exchange_41 : decode cX1_exchange 41 = .ok (.invokestatic 49, 3) := by decide +kernel
theorem dX1_exchange_44 : decode cX1_exchange 44 = .ok (.aload_n 0, 1) := by decide +kernel
theorem dX1_exchange_45 : decode cX1_exchange 45 = .ok (.getfield 29, 3) := by decide +kernel
theorem dX1_exchange_48 : decode cX1_exchange 48 = .ok (.iload_n 1, 1) := by decide +kernel
theorem dX1_exchange_49 : decode cX1_exchange 49 = .ok (.iload_n 2, 1) := by decide +kernel
theorem dX1_exchange_50 : decode cX1_exchange 50 = .ok (.invokestatic 49, 3) := by decide +kernel
theorem dX1_exchange_53 : decode cX1_exchange 53 = .ok (.return_, 1) := by decide +kernel
theorem dX1_exchangeIn_0 : decode cX1_exchangeIn 0 = .ok (.aload_n 0, 1) := by decide +kernel
theorem dX1_exchangeIn_1 : decode cX1_exchangeIn 1 = .ok (.iload_n 1, 1) := by decide +kernel
theorem dX1_exchangeIn_2 : decode cX1_exchangeIn 2 = .ok (.iaload, 1) := by decide +kernel
theorem dX1_exchangeIn_3 : decode cX1_exchangeIn 3 = .ok (.istore_n 3, 1) := by decide +kernel
theorem dX1_exchangeIn_4 : decode cX1_exchangeIn 4 = .ok (.aload_n 0, 1) := by decide +kernel
theorem dX1_exchangeIn_5 : decode cX1_exchangeIn 5 = .ok (.iload_n 1, 1) := by decide +kernel
theorem dX1_exchangeIn_6 : decode cX1_exchangeIn 6 = .ok (.aload_n 0, 1) := by decide +kernel
theorem dX1_exchangeIn_7 : decode cX1_exchangeIn 7 = .ok (.iload_n 2, 1) := by decide +kernel
theorem dX1_exchangeIn_8 : decode cX1_exchangeIn 8 = .ok (.iaload, 1) := by decide +kernel
theorem dX1_exchangeIn_9 : decode cX1_exchangeIn 9 = .ok (.iastore, 1) := by decide +kernel
theorem dX1_exchangeIn_10 : decode cX1_exchangeIn 10 = .ok (.aload_n 0, 1) := by decide +kernel
theorem dX1_exchangeIn_11 : decode cX1_exchangeIn 11 = .ok (.iload_n 2, 1) := by decide +kernel
theorem dX1_exchangeIn_12 : decode cX1_exchangeIn 12 = .ok (.iload_n 3, 1) := by decide +kernel
theorem dX1_exchangeIn_13 : decode cX1_exchangeIn 13 = .ok (.iastore, 1) := by decide +kernel
theorem dX1_exchangeIn_14 : decode cX1_exchangeIn 14 = .ok (.return_, 1) := by decide +kernel
theorem dX1_setRoot_0 : decode cX1_setRoot 0 = .ok (.iload_n 2, 1) := by decide +kernel
theorem dX1_setRoot_1 : decode cX1_setRoot 1 = .ok (.ifCond .eq 18, 3) := by decide +kernel
theorem dX1_setRoot_4 : decode cX1_setRoot 4 = .ok (.aload_n 0, 1) := by decide +kernel
theorem dX1_setRoot_5 : decode cX1_setRoot 5 = .ok (.dup, 1) := by decide +kernel
theorem dX1_setRoot_6 : decode cX1_setRoot 6 = .ok (.getfield 10, 3) := by decide +kernel
theorem dX1_setRoot_9 : decode cX1_setRoot 9 = .ok (.iconst 1, 1) := by decide +kernel
theorem dX1_setRoot_10 : decode cX1_setRoot 10 = .ok (.iload_n 1, 1) := by decide +kernel
theorem dX1_setRoot_11 : decode cX1_setRoot 11 = .ok (.ishl, 1) := by decide +kernel
theorem dX1_setRoot_12 : decode cX1_setRoot 12 = .ok (.ior, 1) := by decide +kernel
theorem dX1_setRoot_13 : decode cX1_setRoot 13 = .ok (.putfield 10, 3) := by decide +kernel
theorem dX1_setRoot_16 : decode cX1_setRoot 16 = .ok (.goto 17, 3) := by decide +kernel
theorem dX1_setRoot_19 : decode cX1_setRoot 19 = .ok (.aload_n 0, 1) := by decide +kernel
theorem dX1_setRoot_20 : decode cX1_setRoot 20 = .ok (.dup, 1) := by decide +kernel
theorem dX1_setRoot_21 : decode cX1_setRoot 21 = .ok (.getfield 10, 3) := by decide +kernel
theorem dX1_setRoot_24 : decode cX1_setRoot 24 = .ok (.iconst 1, 1) := by decide +kernel
theorem dX1_setRoot_25 : decode cX1_setRoot 25 = .ok (.iload_n 1, 1) := by decide +kernel
theorem dX1_setRoot_26 : decode cX1_setRoot 26 = .ok (.ishl, 1) := by decide +kernel
theorem dX1_setRoot_27 : decode cX1_setRoot 27 = .ok (.iconst (-1), 1) := by decide +kernel
theorem dX1_setRoot_28 : decode cX1_setRoot 28 = .ok (.ixor, 1) := by decide +kernel
theorem dX1_setRoot_29 : decode cX1_setRoot 29 = .ok (.iand, 1) := by decide +kernel
theorem dX1_setRoot_30 : decode cX1_setRoot 30 = .ok (.putfield 10, 3) := by decide +kernel
theorem dX1_setRoot_33 : decode cX1_setRoot 33 = .ok (.return_, 1) := by decide +kernel
theorem dX1_paceOf_0 : decode cX1_paceOf 0 = .ok (.aload_n 0, 1) := by decide +kernel
theorem dX1_paceOf_1 : decode cX1_paceOf 1 = .ok (.getfield 32, 3) := by decide +kernel
theorem dX1_paceOf_4 : decode cX1_paceOf 4 = .ok (.iload_n 1, 1) := by decide +kernel
theorem dX1_paceOf_5 : decode cX1_paceOf 5 = .ok (.isub, 1) := by decide +kernel
theorem dX1_paceOf_6 : decode cX1_paceOf 6 = .ok (.bipush 30, 2) := by decide +kernel
theorem dX1_paceOf_8 : decode cX1_paceOf 8 = .ok (.invokestatic 53, 3) := by decide +kernel
theorem dX1_paceOf_11 : decode cX1_paceOf 11 = .ok (.ireturn, 1) := by decide +kernel
theorem dX1_litSet_0 : decode cX1_litSet 0 = .ok (.aload_n 0, 1) := by decide +kernel
theorem dX1_litSet_1 : decode cX1_litSet 1 = .ok (.aload_n 0, 1) := by decide +kernel
theorem dX1_litSet_2 : decode cX1_litSet 2 = .ok (.getfield 35, 3) := by decide +kernel
theorem dX1_litSet_5 : decode cX1_litSet 5 = .ok (.invokevirtual 45, 3) := by decide +kernel
theorem dX1_litSet_8 : decode cX1_litSet 8 = .ok (.ifCond .ne 5, 3) := by decide +kernel
theorem dX1_litSet_11 : decode cX1_litSet 11 = .ok (.iconst 0, 1) := by decide +kernel
theorem dX1_litSet_12 : decode cX1_litSet 12 = .ok (.ireturn, 1) := by decide +kernel
theorem dX1_litSet_13 : decode cX1_litSet 13 = .ok (.iconst 0, 1) := by decide +kernel
theorem dX1_litSet_14 : decode cX1_litSet 14 = .ok (.istore_n 1, 1) := by decide +kernel
theorem dX1_litSet_15 : decode cX1_litSet 15 = .ok (.iconst 0, 1) := by decide +kernel
theorem dX1_litSet_16 : decode cX1_litSet 16 = .ok (.istore_n 2, 1) := by decide +kernel
theorem dX1_litSet_17 : decode cX1_litSet 17 = .ok (.iload_n 2, 1) := by decide +kernel
theorem dX1_litSet_18 : decode cX1_litSet 18 = .ok (.aload_n 0, 1) := by decide +kernel
theorem dX1_litSet_19 : decode cX1_litSet 19 = .ok (.getfield 35, 3) := by decide +kernel
theorem dX1_litSet_22 : decode cX1_litSet 22 = .ok (.if_icmp .gt 28, 3) := by decide +kernel
theorem dX1_litSet_25 : decode cX1_litSet 25 = .ok (.aload_n 0, 1) := by decide +kernel
theorem dX1_litSet_26 : decode cX1_litSet 26 = .ok (.getfield 35, 3) := by decide +kernel
theorem dX1_litSet_29 : decode cX1_litSet 29 = .ok (.iload_n 2, 1) := by decide +kernel
theorem dX1_litSet_30 : decode cX1_litSet 30 = .ok (.isub, 1) := by decide +kernel
theorem dX1_litSet_31 : decode cX1_litSet 31 = .ok (.aload_n 0, 1) := by decide +kernel
theorem dX1_litSet_32 : decode cX1_litSet 32 = .ok (.getfield 16, 3) := by decide +kernel
theorem dX1_litSet_35 : decode cX1_litSet 35 = .ok (.if_icmp .gt 9, 3) := by decide +kernel
theorem dX1_litSet_38 : decode cX1_litSet 38 = .ok (.iload_n 1, 1) := by decide +kernel
theorem dX1_litSet_39 : decode cX1_litSet 39 = .ok (.iconst 1, 1) := by decide +kernel
theorem dX1_litSet_40 : decode cX1_litSet 40 = .ok (.iload_n 2, 1) := by decide +kernel
theorem dX1_litSet_41 : decode cX1_litSet 41 = .ok (.ishl, 1) := by decide +kernel
theorem dX1_litSet_42 : decode cX1_litSet 42 = .ok (.ior, 1) := by decide +kernel
theorem dX1_litSet_43 : decode cX1_litSet 43 = .ok (.istore_n 1, 1) := by decide +kernel
theorem dX1_litSet_44 : decode cX1_litSet 44 = .ok (.iinc 2 1, 3) := by decide +kernel
theorem dX1_litSet_47 : decode cX1_litSet 47 = .ok (.goto (-30), 3) := by decide +kernel
theorem dX1_litSet_50 : decode cX1_litSet 50 = .ok (.aload_n 0, 1) := by decide +kernel
theorem dX1_litSet_51 : decode cX1_litSet 51 = .ok (.getfield 16, 3) := by decide +kernel
theorem dX1_litSet_54 : decode cX1_litSet 54 = .ok (.istore_n 2, 1) := by decide +kernel
theorem dX1_litSet_55 : decode cX1_litSet 55 = .ok (.aload_n 0, 1) := by decide +kernel
theorem dX1_litSet_56 : decode cX1_litSet 56 = .ok (.getfield 35, 3) := by decide +kernel
theorem dX1_litSet_59 : decode cX1_litSet 59 = .ok (.iconst 1, 1) := by decide +kernel
theorem dX1_litSet_60 : decode cX1_litSet 60 = .ok (.iadd, 1) := by decide +kernel
theorem dX1_litSet_61 : decode cX1_litSet 61 = .ok (.istore_n 3, 1) := by decide +kernel
theorem dX1_litSet_62 : decode cX1_litSet 62 = .ok (.iload_n 3, 1) := by decide +kernel
theorem dX1_litSet_63 : decode cX1_litSet 63 = .ok (.aload_n 0, 1) := by decide +kernel
theorem dX1_litSet_64 : decode cX1_litSet 64 = .ok (.getfield 38, 3) := by decide +kernel
theorem dX1_litSet_67 : decode cX1_litSet 67 = .ok (.if_icmp .ge 37, 3) := by decide +kernel
theorem dX1_litSet_70 : decode cX1_litSet 70 = .ok (.iload_n 3, 1) := by decide +kernel
theorem dX1_litSet_71 : decode cX1_litSet 71 = .ok (.aload_n 0, 1) := by decide +kernel
theorem dX1_litSet_72 : decode cX1_litSet 72 = .ok (.getfield 35, 3) := by decide +kernel
theorem dX1_litSet_75 : decode cX1_litSet 75 = .ok (.isub, 1) := by decide +kernel
theorem dX1_litSet_76 : decode cX1_litSet 76 = .ok (.iload_n 2, 1) := by decide +kernel
theorem dX1_litSet_77 : decode cX1_litSet 77 = .ok (.if_icmp .gt 9, 3) := by decide +kernel
theorem dX1_litSet_80 : decode cX1_litSet 80 = .ok (.iload_n 1, 1) := by decide +kernel
theorem dX1_litSet_81 : decode cX1_litSet 81 = .ok (.iconst 1, 1) := by decide +kernel
theorem dX1_litSet_82 : decode cX1_litSet 82 = .ok (.iload_n 3, 1) := by decide +kernel
theorem dX1_litSet_83 : decode cX1_litSet 83 = .ok (.ishl, 1) := by decide +kernel
theorem dX1_litSet_84 : decode cX1_litSet 84 = .ok (.ior, 1) := by decide +kernel
theorem dX1_litSet_85 : decode cX1_litSet 85 = .ok (.istore_n 1, 1) := by decide +kernel
theorem dX1_litSet_86 : decode cX1_litSet 86 = .ok (.iload_n 2, 1) := by decide +kernel
theorem dX1_litSet_87 : decode cX1_litSet 87 = .ok (.aload_n 0, 1) := by decide +kernel
theorem dX1_litSet_88 : decode cX1_litSet 88 = .ok (.getfield 19, 3) := by decide +kernel
theorem dX1_litSet_91 : decode cX1_litSet 91 = .ok (.iload_n 3, 1) := by decide +kernel
theorem dX1_litSet_92 : decode cX1_litSet 92 = .ok (.iaload, 1) := by decide +kernel
theorem dX1_litSet_93 : decode cX1_litSet 93 = .ok (.invokestatic 59, 3) := by decide +kernel
theorem dX1_litSet_96 : decode cX1_litSet 96 = .ok (.isub, 1) := by decide +kernel
theorem dX1_litSet_97 : decode cX1_litSet 97 = .ok (.istore_n 2, 1) := by decide +kernel
theorem dX1_litSet_98 : decode cX1_litSet 98 = .ok (.iinc 3 1, 3) := by decide +kernel
theorem dX1_litSet_101 : decode cX1_litSet 101 = .ok (.goto (-39), 3) := by decide +kernel
theorem dX1_litSet_104 : decode cX1_litSet 104 = .ok (.iload_n 1, 1) := by decide +kernel
theorem dX1_litSet_105 : decode cX1_litSet 105 = .ok (.ireturn, 1) := by decide +kernel
theorem dX1_atRootSet_0 : decode cX1_atRootSet 0 = .ok (.iconst 0, 1) := by decide +kernel
theorem dX1_atRootSet_1 : decode cX1_atRootSet 1 = .ok (.istore_n 1, 1) := by decide +kernel
theorem dX1_atRootSet_2 : decode cX1_atRootSet 2 = .ok (.iconst 0, 1) := by decide +kernel
theorem dX1_atRootSet_3 : decode cX1_atRootSet 3 = .ok (.istore_n 2, 1) := by decide +kernel
theorem dX1_atRootSet_4 : decode cX1_atRootSet 4 = .ok (.iload_n 2, 1) := by decide +kernel
theorem dX1_atRootSet_5 : decode cX1_atRootSet 5 = .ok (.aload_n 0, 1) := by decide +kernel
theorem dX1_atRootSet_6 : decode cX1_atRootSet 6 = .ok (.getfield 38, 3) := by decide +kernel
theorem dX1_atRootSet_9 : decode cX1_atRootSet 9 = .ok (.if_icmp .ge 30, 3) := by decide +kernel
theorem dX1_atRootSet_12 : decode cX1_atRootSet 12 = .ok (.aload_n 0, 1) := by decide +kernel
theorem dX1_atRootSet_13 : decode cX1_atRootSet 13 = .ok (.getfield 10, 3) := by decide +kernel
theorem dX1_atRootSet_16 : decode cX1_atRootSet 16 = .ok (.aload_n 0, 1) := by decide +kernel
theorem dX1_atRootSet_17 : decode cX1_atRootSet 17 = .ok (.iload_n 2, 1) := by decide +kernel
theorem dX1_atRootSet_18 : decode cX1_atRootSet 18 = .ok (.invokevirtual 63, 3) := by decide +kernel
theorem dX1_atRootSet_21 : decode cX1_atRootSet 21 = .ok (.invokestatic 66, 3) := by decide +kernel
theorem dX1_atRootSet_24 : decode cX1_atRootSet 24 = .ok (.ifCond .eq 9, 3) := by decide +kernel
theorem dX1_atRootSet_27 : decode cX1_atRootSet 27 = .ok (.iload_n 1, 1) := by decide +kernel
theorem dX1_atRootSet_28 : decode cX1_atRootSet 28 = .ok (.iconst 1, 1) := by decide +kernel
theorem dX1_atRootSet_29 : decode cX1_atRootSet 29 = .ok (.iload_n 2, 1) := by decide +kernel
theorem dX1_atRootSet_30 : decode cX1_atRootSet 30 = .ok (.ishl, 1) := by decide +kernel
theorem dX1_atRootSet_31 : decode cX1_atRootSet 31 = .ok (.ior, 1) := by decide +kernel
theorem dX1_atRootSet_32 : decode cX1_atRootSet 32 = .ok (.istore_n 1, 1) := by decide +kernel
theorem dX1_atRootSet_33 : decode cX1_atRootSet 33 = .ok (.iinc 2 1, 3) := by decide +kernel
theorem dX1_atRootSet_36 : decode cX1_atRootSet 36 = .ok (.goto (-32), 3) := by decide +kernel
theorem dX1_atRootSet_39 : decode cX1_atRootSet 39 = .ok (.iload_n 1, 1) := by decide +kernel
theorem dX1_atRootSet_40 : decode cX1_atRootSet 40 = .ok (.ireturn, 1) := by decide +kernel
theorem dX1_heardSet_0 : decode cX1_heardSet 0 = .ok (.iconst 0, 1) := by decide +kernel
theorem dX1_heardSet_1 : decode cX1_heardSet 1 = .ok (.istore_n 1, 1) := by decide +kernel
theorem dX1_heardSet_2 : decode cX1_heardSet 2 = .ok (.iconst 0, 1) := by decide +kernel
theorem dX1_heardSet_3 : decode cX1_heardSet 3 = .ok (.istore_n 2, 1) := by decide +kernel
theorem dX1_heardSet_4 : decode cX1_heardSet 4 = .ok (.iload_n 2, 1) := by decide +kernel
theorem dX1_heardSet_5 : decode cX1_heardSet 5 = .ok (.aload_n 0, 1) := by decide +kernel
theorem dX1_heardSet_6 : decode cX1_heardSet 6 = .ok (.getfield 38, 3) := by decide +kernel
theorem dX1_heardSet_9 : decode cX1_heardSet 9 = .ok (.if_icmp .ge 20, 3) := by decide +kernel
theorem dX1_heardSet_12 : decode cX1_heardSet 12 = .ok (.iload_n 1, 1) := by decide +kernel
theorem dX1_heardSet_13 : decode cX1_heardSet 13 = .ok (.aload_n 0, 1) := by decide +kernel
theorem dX1_heardSet_14 : decode cX1_heardSet 14 = .ok (.getfield 23, 3) := by decide +kernel
theorem dX1_heardSet_17 : decode cX1_heardSet 17 = .ok (.iload_n 2, 1) := by decide +kernel
theorem dX1_heardSet_18 : decode cX1_heardSet 18 = .ok (.iaload, 1) := by decide +kernel
theorem dX1_heardSet_19 : decode cX1_heardSet 19 = .ok (.iload_n 2, 1) := by decide +kernel
theorem dX1_heardSet_20 : decode cX1_heardSet 20 = .ok (.ishl, 1) := by decide +kernel
theorem dX1_heardSet_21 : decode cX1_heardSet 21 = .ok (.ior, 1) := by decide +kernel
theorem dX1_heardSet_22 : decode cX1_heardSet 22 = .ok (.istore_n 1, 1) := by decide +kernel
theorem dX1_heardSet_23 : decode cX1_heardSet 23 = .ok (.iinc 2 1, 3) := by decide +kernel
theorem dX1_heardSet_26 : decode cX1_heardSet 26 = .ok (.goto (-22), 3) := by decide +kernel
theorem dX1_heardSet_29 : decode cX1_heardSet 29 = .ok (.iload_n 1, 1) := by decide +kernel
theorem dX1_heardSet_30 : decode cX1_heardSet 30 = .ok (.ireturn, 1) := by decide +kernel
theorem dX1_allStumbled_0 : decode cX1_allStumbled 0 = .ok (.iconst 0, 1) := by decide +kernel
theorem dX1_allStumbled_1 : decode cX1_allStumbled 1 = .ok (.istore_n 1, 1) := by decide +kernel
theorem dX1_allStumbled_2 : decode cX1_allStumbled 2 = .ok (.iconst 0, 1) := by decide +kernel
theorem dX1_allStumbled_3 : decode cX1_allStumbled 3 = .ok (.istore_n 2, 1) := by decide +kernel
theorem dX1_allStumbled_4 : decode cX1_allStumbled 4 = .ok (.iload_n 2, 1) := by decide +kernel
theorem dX1_allStumbled_5 : decode cX1_allStumbled 5 = .ok (.aload_n 0, 1) := by decide +kernel
theorem dX1_allStumbled_6 : decode cX1_allStumbled 6 = .ok (.getfield 38, 3) := by decide +kernel
theorem dX1_allStumbled_9 : decode cX1_allStumbled 9 = .ok (.if_icmp .ge 18, 3) := by decide +kernel
theorem dX1_allStumbled_12 : decode cX1_allStumbled 12 = .ok (.iload_n 1, 1) := by decide +kernel
theorem dX1_allStumbled_13 : decode cX1_allStumbled 13 = .ok (.aload_n 0, 1) := by decide +kernel
theorem dX1_allStumbled_14 : decode cX1_allStumbled 14 = .ok (.getfield 26, 3) := by decide +kernel
theorem dX1_allStumbled_17 : decode cX1_allStumbled 17 = .ok (.iload_n 2, 1) := by decide +kernel
theorem dX1_allStumbled_18 : decode cX1_allStumbled 18 = .ok (.iaload, 1) := by decide +kernel
theorem dX1_allStumbled_19 : decode cX1_allStumbled 19 = .ok (.iadd, 1) := by decide +kernel
theorem dX1_allStumbled_20 : decode cX1_allStumbled 20 = .ok (.istore_n 1, 1) := by decide +kernel
theorem dX1_allStumbled_21 : decode cX1_allStumbled 21 = .ok (.iinc 2 1, 3) := by decide +kernel
theorem dX1_allStumbled_24 : decode cX1_allStumbled 24 = .ok (.goto (-20), 3) := by decide +kernel
theorem dX1_allStumbled_27 : decode cX1_allStumbled 27 = .ok (.iload_n 1, 1) := by decide +kernel
theorem dX1_allStumbled_28 : decode cX1_allStumbled 28 = .ok (.ireturn, 1) := by decide +kernel
theorem dX1_allNerve_0 : decode cX1_allNerve 0 = .ok (.iconst 0, 1) := by decide +kernel
theorem dX1_allNerve_1 : decode cX1_allNerve 1 = .ok (.istore_n 1, 1) := by decide +kernel
theorem dX1_allNerve_2 : decode cX1_allNerve 2 = .ok (.iconst 0, 1) := by decide +kernel
theorem dX1_allNerve_3 : decode cX1_allNerve 3 = .ok (.istore_n 2, 1) := by decide +kernel
theorem dX1_allNerve_4 : decode cX1_allNerve 4 = .ok (.iload_n 2, 1) := by decide +kernel
theorem dX1_allNerve_5 : decode cX1_allNerve 5 = .ok (.aload_n 0, 1) := by decide +kernel
theorem dX1_allNerve_6 : decode cX1_allNerve 6 = .ok (.getfield 38, 3) := by decide +kernel
theorem dX1_allNerve_9 : decode cX1_allNerve 9 = .ok (.if_icmp .ge 18, 3) := by decide +kernel
theorem dX1_allNerve_12 : decode cX1_allNerve 12 = .ok (.iload_n 1, 1) := by decide +kernel
theorem dX1_allNerve_13 : decode cX1_allNerve 13 = .ok (.aload_n 0, 1) := by decide +kernel
theorem dX1_allNerve_14 : decode cX1_allNerve 14 = .ok (.getfield 29, 3) := by decide +kernel
theorem dX1_allNerve_17 : decode cX1_allNerve 17 = .ok (.iload_n 2, 1) := by decide +kernel
theorem dX1_allNerve_18 : decode cX1_allNerve 18 = .ok (.iaload, 1) := by decide +kernel
theorem dX1_allNerve_19 : decode cX1_allNerve 19 = .ok (.iadd, 1) := by decide +kernel
theorem dX1_allNerve_20 : decode cX1_allNerve 20 = .ok (.istore_n 1, 1) := by decide +kernel
theorem dX1_allNerve_21 : decode cX1_allNerve 21 = .ok (.iinc 2 1, 3) := by decide +kernel
theorem dX1_allNerve_24 : decode cX1_allNerve 24 = .ok (.goto (-20), 3) := by decide +kernel
theorem dX1_allNerve_27 : decode cX1_allNerve 27 = .ok (.iload_n 1, 1) := by decide +kernel
theorem dX1_allNerve_28 : decode cX1_allNerve 28 = .ok (.ireturn, 1) := by decide +kernel
theorem dX1_seeingSet_0 : decode cX1_seeingSet 0 = .ok (.aload_n 0, 1) := by decide +kernel
theorem dX1_seeingSet_1 : decode cX1_seeingSet 1 = .ok (.invokevirtual 70, 3) := by decide +kernel
theorem dX1_seeingSet_4 : decode cX1_seeingSet 4 = .ok (.istore_n 1, 1) := by decide +kernel
theorem dX1_seeingSet_5 : decode cX1_seeingSet 5 = .ok (.iconst 0, 1) := by decide +kernel
theorem dX1_seeingSet_6 : decode cX1_seeingSet 6 = .ok (.istore_n 2, 1) := by decide +kernel
theorem dX1_seeingSet_7 : decode cX1_seeingSet 7 = .ok (.iconst 0, 1) := by decide +kernel
theorem dX1_seeingSet_8 : decode cX1_seeingSet 8 = .ok (.istore_n 3, 1) := by decide +kernel
theorem dX1_seeingSet_9 : decode cX1_seeingSet 9 = .ok (.iload_n 3, 1) := by decide +kernel
theorem dX1_seeingSet_10 : decode cX1_seeingSet 10 = .ok (.aload_n 0, 1) := by decide +kernel
theorem dX1_seeingSet_11 : decode cX1_seeingSet 11 = .ok (.getfield 38, 3) := by decide +kernel
theorem dX1_seeingSet_14 : decode cX1_seeingSet 14 = .ok (.if_icmp .ge 28, 3) := by decide +kernel
theorem dX1_seeingSet_17 : decode cX1_seeingSet 17 = .ok (.aload_n 0, 1) := by decide +kernel
theorem dX1_seeingSet_18 : decode cX1_seeingSet 18 = .ok (.iload_n 3, 1) := by decide +kernel
theorem dX1_seeingSet_19 : decode cX1_seeingSet 19 = .ok (.iload_n 1, 1) := by decide +kernel
theorem dX1_seeingSet_20 : decode cX1_seeingSet 20 = .ok (.iload_n 3, 1) := by decide +kernel
theorem dX1_seeingSet_21 : decode cX1_seeingSet 21 = .ok (.invokestatic 66, 3) := by decide +kernel
theorem dX1_seeingSet_24 : decode cX1_seeingSet 24 = .ok (.invokevirtual 74, 3) := by decide +kernel
theorem dX1_seeingSet_27 : decode cX1_seeingSet 27 = .ok (.ifCond .eq 9, 3) := by decide +kernel
theorem dX1_seeingSet_30 : decode cX1_seeingSet 30 = .ok (.iload_n 2, 1) := by decide +kernel
theorem dX1_seeingSet_31 : decode cX1_seeingSet 31 = .ok (.iconst 1, 1) := by decide +kernel
theorem dX1_seeingSet_32 : decode cX1_seeingSet 32 = .ok (.iload_n 3, 1) := by decide +kernel
theorem dX1_seeingSet_33 : decode cX1_seeingSet 33 = .ok (.ishl, 1) := by decide +kernel
theorem dX1_seeingSet_34 : decode cX1_seeingSet 34 = .ok (.ior, 1) := by decide +kernel
theorem dX1_seeingSet_35 : decode cX1_seeingSet 35 = .ok (.istore_n 2, 1) := by decide +kernel
theorem dX1_seeingSet_36 : decode cX1_seeingSet 36 = .ok (.iinc 3 1, 3) := by decide +kernel
theorem dX1_seeingSet_39 : decode cX1_seeingSet 39 = .ok (.goto (-30), 3) := by decide +kernel
theorem dX1_seeingSet_42 : decode cX1_seeingSet 42 = .ok (.iload_n 2, 1) := by decide +kernel
theorem dX1_seeingSet_43 : decode cX1_seeingSet 43 = .ok (.ireturn, 1) := by decide +kernel
theorem dX1_sees_0 : decode cX1_sees 0 = .ok (.iload_n 2, 1) := by decide +kernel
theorem dX1_sees_1 : decode cX1_sees 1 = .ok (.ifCond .eq 20, 3) := by decide +kernel
theorem dX1_sees_4 : decode cX1_sees 4 = .ok (.iload_n 1, 1) := by decide +kernel
theorem dX1_sees_5 : decode cX1_sees 5 = .ok (.aload_n 0, 1) := by decide +kernel
theorem dX1_sees_6 : decode cX1_sees 6 = .ok (.getfield 35, 3) := by decide +kernel
theorem dX1_sees_9 : decode cX1_sees 9 = .ok (.isub, 1) := by decide +kernel
theorem dX1_sees_10 : decode cX1_sees 10 = .ok (.invokestatic 78, 3) := by decide +kernel
theorem dX1_sees_13 : decode cX1_sees 13 = .ok (.iconst 2, 1) := by decide +kernel
theorem dX1_sees_14 : decode cX1_sees 14 = .ok (.if_icmp .gt 7, 3) := by decide +kernel
theorem dX1_sees_17 : decode cX1_sees 17 = .ok (.iconst 1, 1) := by decide +kernel
theorem dX1_sees_18 : decode cX1_sees 18 = .ok (.goto 4, 3) := by decide +kernel
theorem dX1_sees_21 : decode cX1_sees 21 = .ok (.iconst 0, 1) := by decide +kernel
theorem dX1_sees_22 : decode cX1_sees 22 = .ok (.istore_n 3, 1) := by decide +kernel
theorem dX1_sees_23 : decode cX1_sees 23 = .ok (.aload_n 0, 1) := by decide +kernel
theorem dX1_sees_24 : decode cX1_sees 24 = .ok (.getfield 19, 3) := by decide +kernel
theorem dX1_sees_27 : decode cX1_sees 27 = .ok (.iload_n 1, 1) := by decide +kernel
theorem dX1_sees_28 : decode cX1_sees 28 = .ok (.iaload, 1) := by decide +kernel
theorem dX1_sees_29 : decode cX1_sees 29 = .ok (.tableswitch 77 1 5 #[35, 77, 37, 39, 57], 35) := by decide +kernel
theorem dX1_sees_64 : decode cX1_sees 64 = .ok (.iload_n 3, 1) := by decide +kernel
theorem dX1_sees_65 : decode cX1_sees 65 = .ok (.ireturn, 1) := by decide +kernel
theorem dX1_sees_66 : decode cX1_sees 66 = .ok (.iconst 1, 1) := by decide +kernel
theorem dX1_sees_67 : decode cX1_sees 67 = .ok (.ireturn, 1) := by decide +kernel
theorem dX1_sees_68 : decode cX1_sees 68 = .ok (.iload_n 3, 1) := by decide +kernel
theorem dX1_sees_69 : decode cX1_sees 69 = .ok (.ifCond .eq 15, 3) := by decide +kernel
theorem dX1_sees_72 : decode cX1_sees 72 = .ok (.aload_n 0, 1) := by decide +kernel
theorem dX1_sees_73 : decode cX1_sees 73 = .ok (.getfield 35, 3) := by decide +kernel
theorem dX1_sees_76 : decode cX1_sees 76 = .ok (.iload_n 1, 1) := by decide +kernel
theorem dX1_sees_77 : decode cX1_sees 77 = .ok (.if_icmp .eq 7, 3) := by decide +kernel
theorem dX1_sees_80 : decode cX1_sees 80 = .ok (.iconst 1, 1) := by decide +kernel
theorem dX1_sees_81 : decode cX1_sees 81 = .ok (.goto 4, 3) := by decide +kernel
theorem dX1_sees_84 : decode cX1_sees 84 = .ok (.iconst 0, 1) := by decide +kernel
theorem dX1_sees_85 : decode cX1_sees 85 = .ok (.ireturn, 1) := by decide +kernel
theorem dX1_sees_86 : decode cX1_sees 86 = .ok (.iload_n 2, 1) := by decide +kernel
theorem dX1_sees_87 : decode cX1_sees 87 = .ok (.ifCond .eq 17, 3) := by decide +kernel
theorem dX1_sees_90 : decode cX1_sees 90 = .ok (.aload_n 0, 1) := by decide +kernel
theorem dX1_sees_91 : decode cX1_sees 91 = .ok (.getfield 32, 3) := by decide +kernel
theorem dX1_sees_94 : decode cX1_sees 94 = .ok (.iconst 3, 1) := by decide +kernel
theorem dX1_sees_95 : decode cX1_sees 95 = .ok (.irem, 1) := by decide +kernel
theorem dX1_sees_96 : decode cX1_sees 96 = .ok (.iconst 2, 1) := by decide +kernel
theorem dX1_sees_97 : decode cX1_sees 97 = .ok (.if_icmp .eq 7, 3) := by decide +kernel
theorem dX1_sees_100 : decode cX1_sees 100 = .ok (.iconst 1, 1) := by decide +kernel
theorem dX1_sees_101 : decode cX1_sees 101 = .ok (.goto 4, 3) := by decide +kernel
theorem dX1_sees_104 : decode cX1_sees 104 = .ok (.iconst 0, 1) := by decide +kernel
theorem dX1_sees_105 : decode cX1_sees 105 = .ok (.ireturn, 1) := by decide +kernel
theorem dX1_sees_106 : decode cX1_sees 106 = .ok (.iload_n 2, 1) := by decide +kernel
theorem dX1_sees_107 : decode cX1_sees 107 = .ok (.ireturn, 1) := by decide +kernel
theorem dX1_heeds_0 : decode cX1_heeds 0 = .ok (.aload_n 0, 1) := by decide +kernel
theorem dX1_heeds_1 : decode cX1_heeds 1 = .ok (.getfield 19, 3) := by decide +kernel
theorem dX1_heeds_4 : decode cX1_heeds 4 = .ok (.iload_n 1, 1) := by decide +kernel
theorem dX1_heeds_5 : decode cX1_heeds 5 = .ok (.iaload, 1) := by decide +kernel
theorem dX1_heeds_6 : decode cX1_heeds 6 = .ok (.lookupswitch 30 #[(2, 26), (5, 28)], 26) := by decide +kernel
theorem dX1_heeds_32 : decode cX1_heeds 32 = .ok (.iconst 1, 1) := by decide +kernel
theorem dX1_heeds_33 : decode cX1_heeds 33 = .ok (.ireturn, 1) := by decide +kernel
theorem dX1_heeds_34 : decode cX1_heeds 34 = .ok (.iconst 0, 1) := by decide +kernel
theorem dX1_heeds_35 : decode cX1_heeds 35 = .ok (.ireturn, 1) := by decide +kernel
theorem dX1_heeds_36 : decode cX1_heeds 36 = .ok (.aload_n 0, 1) := by decide +kernel
theorem dX1_heeds_37 : decode cX1_heeds 37 = .ok (.getfield 29, 3) := by decide +kernel
theorem dX1_heeds_40 : decode cX1_heeds 40 = .ok (.iload_n 1, 1) := by decide +kernel
theorem dX1_heeds_41 : decode cX1_heeds 41 = .ok (.iaload, 1) := by decide +kernel
theorem dX1_heeds_42 : decode cX1_heeds 42 = .ok (.bipush 30, 2) := by decide +kernel
theorem dX1_heeds_44 : decode cX1_heeds 44 = .ok (.if_icmp .lt 7, 3) := by decide +kernel
theorem dX1_heeds_47 : decode cX1_heeds 47 = .ok (.iconst 1, 1) := by decide +kernel
theorem dX1_heeds_48 : decode cX1_heeds 48 = .ok (.goto 4, 3) := by decide +kernel
theorem dX1_heeds_51 : decode cX1_heeds 51 = .ok (.iconst 0, 1) := by decide +kernel
theorem dX1_heeds_52 : decode cX1_heeds 52 = .ok (.ireturn, 1) := by decide +kernel
theorem dX1_says_0 : decode cX1_says 0 = .ok (.aload_n 0, 1) := by decide +kernel
theorem dX1_says_1 : decode cX1_says 1 = .ok (.getfield 81, 3) := by decide +kernel
theorem dX1_says_4 : decode cX1_says 4 = .ok (.iload_n 1, 1) := by decide +kernel
theorem dX1_says_5 : decode cX1_says 5 = .ok (.invokestatic 66, 3) := by decide +kernel
theorem dX1_says_8 : decode cX1_says 8 = .ok (.istore_n 3, 1) := by decide +kernel
theorem dX1_says_9 : decode cX1_says 9 = .ok (.iload_n 3, 1) := by decide +kernel
theorem dX1_says_10 : decode cX1_says 10 = .ok (.ifCond .ne 11, 3) := by decide +kernel
theorem dX1_says_13 : decode cX1_says 13 = .ok (.iload_n 2, 1) := by decide +kernel
theorem dX1_says_14 : decode cX1_says 14 = .ok (.iload_n 1, 1) := by decide +kernel
theorem dX1_says_15 : decode cX1_says 15 = .ok (.invokestatic 66, 3) := by decide +kernel
theorem dX1_says_18 : decode cX1_says 18 = .ok (.ifCond .eq 7, 3) := by decide +kernel
theorem dX1_says_21 : decode cX1_says 21 = .ok (.iconst 1, 1) := by decide +kernel
theorem dX1_says_22 : decode cX1_says 22 = .ok (.goto 4, 3) := by decide +kernel
theorem dX1_says_25 : decode cX1_says 25 = .ok (.iconst 0, 1) := by decide +kernel
theorem dX1_says_26 : decode cX1_says 26 = .ok (.istore 4, 2) := by decide +kernel
theorem dX1_says_28 : decode cX1_says 28 = .ok (.iload 4, 2) := by decide +kernel
theorem dX1_says_30 : decode cX1_says 30 = .ok (.ifCond .ne 13, 3) := by decide +kernel
theorem dX1_says_33 : decode cX1_says 33 = .ok (.aload_n 0, 1) := by decide +kernel
theorem dX1_says_34 : decode cX1_says 34 = .ok (.getfield 23, 3) := by decide +kernel
theorem dX1_says_37 : decode cX1_says 37 = .ok (.iload_n 1, 1) := by decide +kernel
theorem dX1_says_38 : decode cX1_says 38 = .ok (.iaload, 1) := by decide +kernel
theorem dX1_says_39 : decode cX1_says 39 = .ok (.iconst 1, 1) := by decide +kernel
theorem dX1_says_40 : decode cX1_says 40 = .ok (.if_icmp .ne 7, 3) := by decide +kernel
theorem dX1_says_43 : decode cX1_says 43 = .ok (.iconst 1, 1) := by decide +kernel
theorem dX1_says_44 : decode cX1_says 44 = .ok (.goto 4, 3) := by decide +kernel
theorem dX1_says_47 : decode cX1_says 47 = .ok (.iconst 0, 1) := by decide +kernel
theorem dX1_says_48 : decode cX1_says 48 = .ok (.istore 5, 2) := by decide +kernel
theorem dX1_says_50 : decode cX1_says 50 = .ok (.aload_n 0, 1) := by decide +kernel
theorem dX1_says_51 : decode cX1_says 51 = .ok (.getfield 19, 3) := by decide +kernel
theorem dX1_says_54 : decode cX1_says 54 = .ok (.iload_n 1, 1) := by decide +kernel
theorem dX1_says_55 : decode cX1_says 55 = .ok (.iaload, 1) := by decide +kernel
theorem dX1_says_56 : decode cX1_says 56 = .ok (.tableswitch 65 1 5 #[36, 39, 65, 41, 63], 36) := by decide +kernel
theorem dX1_says_92 : decode cX1_says 92 = .ok (.iload 5, 2) := by decide +kernel
theorem dX1_says_94 : decode cX1_says 94 = .ok (.ireturn, 1) := by decide +kernel
theorem dX1_says_95 : decode cX1_says 95 = .ok (.iload_n 3, 1) := by decide +kernel
theorem dX1_says_96 : decode cX1_says 96 = .ok (.ireturn, 1) := by decide +kernel
theorem dX1_says_97 : decode cX1_says 97 = .ok (.iload 5, 2) := by decide +kernel
theorem dX1_says_99 : decode cX1_says 99 = .ok (.ifCond .eq 18, 3) := by decide +kernel
theorem dX1_says_102 : decode cX1_says 102 = .ok (.aload_n 0, 1) := by decide +kernel
theorem dX1_says_103 : decode cX1_says 103 = .ok (.getfield 29, 3) := by decide +kernel
theorem dX1_says_106 : decode cX1_says 106 = .ok (.iload_n 1, 1) := by decide +kernel
theorem dX1_says_107 : decode cX1_says 107 = .ok (.iaload, 1) := by decide +kernel
theorem dX1_says_108 : decode cX1_says 108 = .ok (.bipush 20, 2) := by decide +kernel
theorem dX1_says_110 : decode cX1_says 110 = .ok (.if_icmp .lt 7, 3) := by decide +kernel
theorem dX1_says_113 : decode cX1_says 113 = .ok (.iconst 1, 1) := by decide +kernel
theorem dX1_says_114 : decode cX1_says 114 = .ok (.goto 4, 3) := by decide +kernel
theorem dX1_says_117 : decode cX1_says 117 = .ok (.iconst 0, 1) := by decide +kernel
theorem dX1_says_118 : decode cX1_says 118 = .ok (.ireturn, 1) := by decide +kernel
theorem dX1_says_119 : decode cX1_says 119 = .ok (.iconst 0, 1) := by decide +kernel
theorem dX1_says_120 : decode cX1_says 120 = .ok (.ireturn, 1) := by decide +kernel
theorem dX1_says_121 : decode cX1_says 121 = .ok (.iload 4, 2) := by decide +kernel
theorem dX1_says_123 : decode cX1_says 123 = .ok (.ireturn, 1) := by decide +kernel
theorem dX1_isWarned_0 : decode cX1_isWarned 0 = .ok (.aload_n 0, 1) := by decide +kernel
theorem dX1_isWarned_1 : decode cX1_isWarned 1 = .ok (.getfield 23, 3) := by decide +kernel
theorem dX1_isWarned_4 : decode cX1_isWarned 4 = .ok (.iload_n 1, 1) := by decide +kernel
theorem dX1_isWarned_5 : decode cX1_isWarned 5 = .ok (.iaload, 1) := by decide +kernel
theorem dX1_isWarned_6 : decode cX1_isWarned 6 = .ok (.iconst 1, 1) := by decide +kernel
theorem dX1_isWarned_7 : decode cX1_isWarned 7 = .ok (.if_icmp .ne 15, 3) := by decide +kernel
theorem dX1_isWarned_10 : decode cX1_isWarned 10 = .ok (.aload_n 0, 1) := by decide +kernel
theorem dX1_isWarned_11 : decode cX1_isWarned 11 = .ok (.iload_n 1, 1) := by decide +kernel
theorem dX1_isWarned_12 : decode cX1_isWarned 12 = .ok (.invokevirtual 84, 3) := by decide +kernel
theorem dX1_isWarned_15 : decode cX1_isWarned 15 = .ok (.ifCond .eq 7, 3) := by decide +kernel
theorem dX1_isWarned_18 : decode cX1_isWarned 18 = .ok (.iconst 1, 1) := by decide +kernel
theorem dX1_isWarned_19 : decode cX1_isWarned 19 = .ok (.goto 4, 3) := by decide +kernel
theorem dX1_isWarned_22 : decode cX1_isWarned 22 = .ok (.iconst 0, 1) := by decide +kernel
theorem dX1_isWarned_23 : decode cX1_isWarned 23 = .ok (.ireturn, 1) := by decide +kernel
theorem dX1_goSteps_0 : decode cX1_goSteps 0 = .ok (.iconst 0, 1) := by decide +kernel
theorem dX1_goSteps_1 : decode cX1_goSteps 1 = .ok (.istore_n 2, 1) := by decide +kernel
theorem dX1_goSteps_2 : decode cX1_goSteps 2 = .ok (.iload_n 2, 1) := by decide +kernel
theorem dX1_goSteps_3 : decode cX1_goSteps 3 = .ok (.iload_n 1, 1) := by decide +kernel
theorem dX1_goSteps_4 : decode cX1_goSteps 4 = .ok (.if_icmp .ge 13, 3) := by decide +kernel
theorem dX1_goSteps_7 : decode cX1_goSteps 7 = .ok (.aload_n 0, 1) := by decide +kernel
theorem dX1_goSteps_8 : decode cX1_goSteps 8 = .ok (.invokevirtual 87, 3) := by decide +kernel
theorem dX1_goSteps_11 : decode cX1_goSteps 11 = .ok (.iinc 2 1, 3) := by decide +kernel
theorem dX1_goSteps_14 : decode cX1_goSteps 14 = .ok (.goto (-12), 3) := by decide +kernel
theorem dX1_goSteps_17 : decode cX1_goSteps 17 = .ok (.return_, 1) := by decide +kernel
theorem dX1_goStep_0 : decode cX1_goStep 0 = .ok (.aload_n 0, 1) := by decide +kernel
theorem dX1_goStep_1 : decode cX1_goStep 1 = .ok (.dup, 1) := by decide +kernel
theorem dX1_goStep_2 : decode cX1_goStep 2 = .ok (.getfield 32, 3) := by decide +kernel
theorem dX1_goStep_5 : decode cX1_goStep 5 = .ok (.iconst 1, 1) := by decide +kernel
theorem dX1_goStep_6 : decode cX1_goStep 6 = .ok (.iadd, 1) := by decide +kernel
theorem dX1_goStep_7 : decode cX1_goStep 7 = .ok (.putfield 32, 3) := by decide +kernel
theorem dX1_goStep_10 : decode cX1_goStep 10 = .ok (.aload_n 0, 1) := by decide +kernel
theorem dX1_goStep_11 : decode cX1_goStep 11 = .ok (.invokevirtual 90, 3) := by decide +kernel
theorem dX1_goStep_14 : decode cX1_goStep 14 = .ok (.istore_n 1, 1) := by decide +kernel
theorem dX1_goStep_15 : decode cX1_goStep 15 = .ok (.aload_n 0, 1) := by decide +kernel
theorem dX1_goStep_16 : decode cX1_goStep 16 = .ok (.invokevirtual 93, 3) := by decide +kernel
theorem dX1_goStep_19 : decode cX1_goStep 19 = .ok (.istore_n 2, 1) := by decide +kernel
theorem dX1_goStep_20 : decode cX1_goStep 20 = .ok (.aload_n 0, 1) := by decide +kernel
theorem dX1_goStep_21 : decode cX1_goStep 21 = .ok (.iload_n 1, 1) := by decide +kernel
theorem dX1_goStep_22 : decode cX1_goStep 22 = .ok (.iload_n 2, 1) := by decide +kernel
theorem dX1_goStep_23 : decode cX1_goStep 23 = .ok (.iconst (-1), 1) := by decide +kernel
theorem dX1_goStep_24 : decode cX1_goStep 24 = .ok (.ixor, 1) := by decide +kernel
theorem dX1_goStep_25 : decode cX1_goStep 25 = .ok (.iand, 1) := by decide +kernel
theorem dX1_goStep_26 : decode cX1_goStep 26 = .ok (.invokevirtual 96, 3) := by decide +kernel
theorem dX1_goStep_29 : decode cX1_goStep 29 = .ok (.aload_n 0, 1) := by decide +kernel
theorem dX1_goStep_30 : decode cX1_goStep 30 = .ok (.iload_n 1, 1) := by decide +kernel
theorem dX1_goStep_31 : decode cX1_goStep 31 = .ok (.iload_n 2, 1) := by decide +kernel
theorem dX1_goStep_32 : decode cX1_goStep 32 = .ok (.iand, 1) := by decide +kernel
theorem dX1_goStep_33 : decode cX1_goStep 33 = .ok (.invokevirtual 100, 3) := by decide +kernel
theorem dX1_goStep_36 : decode cX1_goStep 36 = .ok (.return_, 1) := by decide +kernel
theorem dX1_walk_0 : decode cX1_walk 0 = .ok (.aload_n 0, 1) := by decide +kernel
theorem dX1_walk_1 : decode cX1_walk 1 = .ok (.iconst 0, 1) := by decide +kernel
theorem dX1_walk_2 : decode cX1_walk 2 = .ok (.putfield 81, 3) := by decide +kernel
theorem dX1_walk_5 : decode cX1_walk 5 = .ok (.iconst 0, 1) := by decide +kernel
theorem dX1_walk_6 : decode cX1_walk 6 = .ok (.istore_n 2, 1) := by decide +kernel
theorem dX1_walk_7 : decode cX1_walk 7 = .ok (.iload_n 2, 1) := by decide +kernel
theorem dX1_walk_8 : decode cX1_walk 8 = .ok (.aload_n 0, 1) := by decide +kernel
theorem dX1_walk_9 : decode cX1_walk 9 = .ok (.getfield 38, 3) := by decide +kernel
theorem dX1_walk_12 : decode cX1_walk 12 = .ok (.if_icmp .ge 98, 3) := by decide +kernel
theorem dX1_walk_15 : decode cX1_walk 15 = .ok (.iload_n 1, 1) := by decide +kernel
theorem dX1_walk_16 : decode cX1_walk 16 = .ok (.iload_n 2, 1) := by decide +kernel
theorem dX1_walk_17 : decode cX1_walk 17 = .ok (.invokestatic 66, 3) := by decide +kernel
theorem dX1_walk_20 : decode cX1_walk 20 = .ok (.ifCond .eq 65, 3) := by decide +kernel
theorem dX1_walk_23 : decode cX1_walk 23 = .ok (.aload_n 0, 1) := by decide +kernel
theorem dX1_walk_24 : decode cX1_walk 24 = .ok (.iload_n 2, 1) := by decide +kernel
theorem dX1_walk_25 : decode cX1_walk 25 = .ok (.invokevirtual 103, 3) := by decide +kernel
theorem dX1_walk_28 : decode cX1_walk 28 = .ok (.ifCond .ne 57, 3) := by decide +kernel
theorem dX1_walk_31 : decode cX1_walk 31 = .ok (.aload_n 0, 1) := by decide +kernel
theorem dX1_walk_32 : decode cX1_walk 32 = .ok (.dup, 1) := by decide +kernel
theorem dX1_walk_33 : decode cX1_walk 33 = .ok (.getfield 81, 3) := by decide +kernel
theorem dX1_walk_36 : decode cX1_walk 36 = .ok (.iconst 1, 1) := by decide +kernel
theorem dX1_walk_37 : decode cX1_walk 37 = .ok (.iload_n 2, 1) := by decide +kernel
theorem dX1_walk_38 : decode cX1_walk 38 = .ok (.ishl, 1) := by decide +kernel
theorem dX1_walk_39 : decode cX1_walk 39 = .ok (.ior, 1) := by decide +kernel
theorem dX1_walk_40 : decode cX1_walk 40 = .ok (.putfield 81, 3) := by decide +kernel
theorem dX1_walk_43 : decode cX1_walk 43 = .ok (.aload_n 0, 1) := by decide +kernel
theorem dX1_walk_44 : decode cX1_walk 44 = .ok (.getfield 26, 3) := by decide +kernel
theorem dX1_walk_47 : decode cX1_walk 47 = .ok (.iload_n 2, 1) := by decide +kernel
theorem dX1_walk_48 : decode cX1_walk 48 = .ok (.aload_n 0, 1) := by decide +kernel
theorem dX1_walk_49 : decode cX1_walk 49 = .ok (.getfield 26, 3) := by decide +kernel
theorem dX1_walk_52 : decode cX1_walk 52 = .ok (.iload_n 2, 1) := by decide +kernel
theorem dX1_walk_53 : decode cX1_walk 53 = .ok (.iaload, 1) := by decide +kernel
theorem dX1_walk_54 : decode cX1_walk 54 = .ok (.iconst 1, 1) := by decide +kernel
theorem dX1_walk_55 : decode cX1_walk 55 = .ok (.iadd, 1) := by decide +kernel
theorem dX1_walk_56 : decode cX1_walk 56 = .ok (.sipush 9999, 3) := by decide +kernel
theorem dX1_walk_59 : decode cX1_walk 59 = .ok (.invokestatic 106, 3) := by decide +kernel
theorem dX1_walk_62 : decode cX1_walk 62 = .ok (.iastore, 1) := by decide +kernel
theorem dX1_walk_63 : decode cX1_walk 63 = .ok (.aload_n 0, 1) := by decide +kernel
theorem dX1_walk_64 : decode cX1_walk 64 = .ok (.getfield 29, 3) := by decide +kernel
theorem dX1_walk_67 : decode cX1_walk 67 = .ok (.iload_n 2, 1) := by decide +kernel
theorem dX1_walk_68 : decode cX1_walk 68 = .ok (.aload_n 0, 1) := by decide +kernel
theorem dX1_walk_69 : decode cX1_walk 69 = .ok (.getfield 29, 3) := by decide +kernel
theorem dX1_walk_72 : decode cX1_walk 72 = .ok (.iload_n 2, 1) := by decide +kernel
theorem dX1_walk_73 : decode cX1_walk 73 = .ok (.iaload, 1) := by decide +kernel
theorem dX1_walk_74 : decode cX1_walk 74 = .ok (.bipush 10, 2) := by decide +kernel
theorem dX1_walk_76 : decode cX1_walk 76 = .ok (.isub, 1) := by decide +kernel
theorem dX1_walk_77 : decode cX1_walk 77 = .ok (.iconst 0, 1) := by decide +kernel
theorem dX1_walk_78 : decode cX1_walk 78 = .ok (.invokestatic 109, 3) := by decide +kernel
theorem dX1_walk_81 : decode cX1_walk 81 = .ok (.iastore, 1) := by decide +kernel
theorem dX1_walk_82 : decode cX1_walk 82 = .ok (.goto 22, 3) := by decide +kernel
theorem dX1_walk_85 : decode cX1_walk 85 = .ok (.aload_n 0, 1) := by decide +kernel
theorem dX1_walk_86 : decode cX1_walk 86 = .ok (.getfield 29, 3) := by decide +kernel
theorem dX1_walk_89 : decode cX1_walk 89 = .ok (.iload_n 2, 1) := by decide +kernel
theorem dX1_walk_90 : decode cX1_walk 90 = .ok (.aload_n 0, 1) := by decide +kernel
theorem dX1_walk_91 : decode cX1_walk 91 = .ok (.getfield 29, 3) := by decide +kernel
theorem dX1_walk_94 : decode cX1_walk 94 = .ok (.iload_n 2, 1) := by decide +kernel
theorem dX1_walk_95 : decode cX1_walk 95 = .ok (.iaload, 1) := by decide +kernel
theorem dX1_walk_96 : decode cX1_walk 96 = .ok (.iconst 1, 1) := by decide +kernel
theorem dX1_walk_97 : decode cX1_walk 97 = .ok (.iadd, 1) := by decide +kernel
theorem dX1_walk_98 : decode cX1_walk 98 = .ok (.bipush 99, 2) := by decide +kernel
theorem dX1_walk_100 : decode cX1_walk 100 = .ok (.invokestatic 106, 3) := by decide +kernel
theorem dX1_walk_103 : decode cX1_walk 103 = .ok (.iastore, 1) := by decide +kernel
theorem dX1_walk_104 : decode cX1_walk 104 = .ok (.iinc 2 1, 3) := by decide +kernel
theorem dX1_walk_107 : decode cX1_walk 107 = .ok (.goto (-100), 3) := by decide +kernel
theorem dX1_walk_110 : decode cX1_walk 110 = .ok (.return_, 1) := by decide +kernel
theorem dX1_sayOn_0 : decode cX1_sayOn 0 = .ok (.iconst 0, 1) := by decide +kernel
theorem dX1_sayOn_1 : decode cX1_sayOn 1 = .ok (.istore_n 2, 1) := by decide +kernel
theorem dX1_sayOn_2 : decode cX1_sayOn 2 = .ok (.iconst 0, 1) := by decide +kernel
theorem dX1_sayOn_3 : decode cX1_sayOn 3 = .ok (.istore_n 3, 1) := by decide +kernel
theorem dX1_sayOn_4 : decode cX1_sayOn 4 = .ok (.iload_n 3, 1) := by decide +kernel
theorem dX1_sayOn_5 : decode cX1_sayOn 5 = .ok (.aload_n 0, 1) := by decide +kernel
theorem dX1_sayOn_6 : decode cX1_sayOn 6 = .ok (.getfield 38, 3) := by decide +kernel
theorem dX1_sayOn_9 : decode cX1_sayOn 9 = .ok (.if_icmp .ge 24, 3) := by decide +kernel
theorem dX1_sayOn_12 : decode cX1_sayOn 12 = .ok (.aload_n 0, 1) := by decide +kernel
theorem dX1_sayOn_13 : decode cX1_sayOn 13 = .ok (.iload_n 3, 1) := by decide +kernel
theorem dX1_sayOn_14 : decode cX1_sayOn 14 = .ok (.iload_n 1, 1) := by decide +kernel
theorem dX1_sayOn_15 : decode cX1_sayOn 15 = .ok (.invokevirtual 112, 3) := by decide +kernel
theorem dX1_sayOn_18 : decode cX1_sayOn 18 = .ok (.ifCond .eq 9, 3) := by decide +kernel
theorem dX1_sayOn_21 : decode cX1_sayOn 21 = .ok (.iload_n 2, 1) := by decide +kernel
theorem dX1_sayOn_22 : decode cX1_sayOn 22 = .ok (.iconst 1, 1) := by decide +kernel
theorem dX1_sayOn_23 : decode cX1_sayOn 23 = .ok (.iload_n 3, 1) := by decide +kernel
theorem dX1_sayOn_24 : decode cX1_sayOn 24 = .ok (.ishl, 1) := by decide +kernel
theorem dX1_sayOn_25 : decode cX1_sayOn 25 = .ok (.ior, 1) := by decide +kernel
theorem dX1_sayOn_26 : decode cX1_sayOn 26 = .ok (.istore_n 2, 1) := by decide +kernel
theorem dX1_sayOn_27 : decode cX1_sayOn 27 = .ok (.iinc 3 1, 3) := by decide +kernel
theorem dX1_sayOn_30 : decode cX1_sayOn 30 = .ok (.goto (-26), 3) := by decide +kernel
theorem dX1_sayOn_33 : decode cX1_sayOn 33 = .ok (.iconst 0, 1) := by decide +kernel
theorem dX1_sayOn_34 : decode cX1_sayOn 34 = .ok (.istore_n 3, 1) := by decide +kernel
theorem dX1_sayOn_35 : decode cX1_sayOn 35 = .ok (.iload_n 3, 1) := by decide +kernel
theorem dX1_sayOn_36 : decode cX1_sayOn 36 = .ok (.aload_n 0, 1) := by decide +kernel
theorem dX1_sayOn_37 : decode cX1_sayOn 37 = .ok (.getfield 38, 3) := by decide +kernel
theorem dX1_sayOn_40 : decode cX1_sayOn 40 = .ok (.if_icmp .ge 30, 3) := by decide +kernel
theorem dX1_sayOn_43 : decode cX1_sayOn 43 = .ok (.aload_n 0, 1) := by decide +kernel
theorem dX1_sayOn_44 : decode cX1_sayOn 44 = .ok (.getfield 23, 3) := by decide +kernel
theorem dX1_sayOn_47 : decode cX1_sayOn 47 = .ok (.iload_n 3, 1) := by decide +kernel
theorem dX1_sayOn_48 : decode cX1_sayOn 48 = .ok (.iload_n 2, 1) := by decide +kernel
theorem dX1_sayOn_49 : decode cX1_sayOn 49 = .ok (.iconst 1, 1) := by decide +kernel
theorem dX1_sayOn_50 : decode cX1_sayOn 50 = .ok (.ishl, 1) := by decide +kernel
theorem dX1_sayOn_51 : decode cX1_sayOn 51 = .ok (.iload_n 3, 1) := by decide +kernel
theorem dX1_sayOn_52 : decode cX1_sayOn 52 = .ok (.invokestatic 66, 3) := by decide +kernel
theorem dX1_sayOn_55 : decode cX1_sayOn 55 = .ok (.ifCond .eq 7, 3) := by decide +kernel
theorem dX1_sayOn_58 : decode cX1_sayOn 58 = .ok (.iconst 1, 1) := by decide +kernel
theorem dX1_sayOn_59 : decode cX1_sayOn 59 = .ok (.goto 4, 3) := by decide +kernel
theorem dX1_sayOn_62 : decode cX1_sayOn 62 = .ok (.iconst 0, 1) := by decide +kernel
theorem dX1_sayOn_63 : decode cX1_sayOn 63 = .ok (.iastore, 1) := by decide +kernel
theorem dX1_sayOn_64 : decode cX1_sayOn 64 = .ok (.iinc 3 1, 3) := by decide +kernel
theorem dX1_sayOn_67 : decode cX1_sayOn 67 = .ok (.goto (-32), 3) := by decide +kernel
theorem dX1_sayOn_70 : decode cX1_sayOn 70 = .ok (.return_, 1) := by decide +kernel
theorem dX2_init_0 : decode cX2_init 0 = .ok (.aload_n 0, 1) := by decide +kernel
theorem dX2_init_1 : decode cX2_init 1 = .ok (.invokespecial 3, 3) := by decide +kernel
theorem dX2_init_4 : decode cX2_init 4 = .ok (.aload_n 0, 1) := by decide +kernel
theorem dX2_init_5 : decode cX2_init 5 = .ok (.bipush 40, 2) := by decide +kernel
theorem dX2_init_7 : decode cX2_init 7 = .ok (.newarray .long, 2) := by decide +kernel
theorem dX2_init_9 : decode cX2_init 9 = .ok (.putfield 9, 3) := by decide +kernel
theorem dX2_init_12 : decode cX2_init 12 = .ok (.return_, 1) := by decide +kernel
theorem dX2_isMissing_0 : decode cX2_isMissing 0 = .ok (.aload_n 0, 1) := by decide +kernel
theorem dX2_isMissing_1 : decode cX2_isMissing 1 = .ok (.getfield 15, 3) := by decide +kernel
theorem dX2_isMissing_4 : decode cX2_isMissing 4 = .ok (.ifCond .ne 7, 3) := by decide +kernel
theorem dX2_isMissing_7 : decode cX2_isMissing 7 = .ok (.iconst 1, 1) := by decide +kernel
theorem dX2_isMissing_8 : decode cX2_isMissing 8 = .ok (.goto 4, 3) := by decide +kernel
theorem dX2_isMissing_11 : decode cX2_isMissing 11 = .ok (.iconst 0, 1) := by decide +kernel
theorem dX2_isMissing_12 : decode cX2_isMissing 12 = .ok (.ireturn, 1) := by decide +kernel
theorem dX2_renew_0 : decode cX2_renew 0 = .ok (.aload_n 0, 1) := by decide +kernel
theorem dX2_renew_1 : decode cX2_renew 1 = .ok (.iload_n 1, 1) := by decide +kernel
theorem dX2_renew_2 : decode cX2_renew 2 = .ok (.putfield 15, 3) := by decide +kernel
theorem dX2_renew_5 : decode cX2_renew 5 = .ok (.aload_n 0, 1) := by decide +kernel
theorem dX2_renew_6 : decode cX2_renew 6 = .ok (.iload_n 1, 1) := by decide +kernel
theorem dX2_renew_7 : decode cX2_renew 7 = .ok (.ifCond .ne 7, 3) := by decide +kernel
theorem dX2_renew_10 : decode cX2_renew 10 = .ok (.iconst 0, 1) := by decide +kernel
theorem dX2_renew_11 : decode cX2_renew 11 = .ok (.goto 4, 3) := by decide +kernel
theorem dX2_renew_14 : decode cX2_renew 14 = .ok (.iload_n 2, 1) := by decide +kernel
theorem dX2_renew_15 : decode cX2_renew 15 = .ok (.putfield 19, 3) := by decide +kernel
theorem dX2_renew_18 : decode cX2_renew 18 = .ok (.iconst 0, 1) := by decide +kernel
theorem dX2_renew_19 : decode cX2_renew 19 = .ok (.istore_n 3, 1) := by decide +kernel
theorem dX2_renew_20 : decode cX2_renew 20 = .ok (.iload_n 3, 1) := by decide +kernel
theorem dX2_renew_21 : decode cX2_renew 21 = .ok (.bipush 40, 2) := by decide +kernel
theorem dX2_renew_23 : decode cX2_renew 23 = .ok (.if_icmp .ge 16, 3) := by decide +kernel
theorem dX2_renew_26 : decode cX2_renew 26 = .ok (.aload_n 0, 1) := by decide +kernel
theorem dX2_renew_27 : decode cX2_renew 27 = .ok (.getfield 9, 3) := by decide +kernel
theorem dX2_renew_30 : decode cX2_renew 30 = .ok (.iload_n 3, 1) := by decide +kernel
theorem dX2_renew_31 : decode cX2_renew 31 = .ok (.lconst 0, 1) := by decide +kernel
theorem dX2_renew_32 : decode cX2_renew 32 = .ok (.lastore, 1) := by decide +kernel
theorem dX2_renew_33 : decode cX2_renew 33 = .ok (.iinc 3 1, 3) := by decide +kernel
theorem dX2_renew_36 : decode cX2_renew 36 = .ok (.goto (-16), 3) := by decide +kernel
theorem dX2_renew_39 : decode cX2_renew 39 = .ok (.return_, 1) := by decide +kernel
theorem dX2_spans_0 : decode cX2_spans 0 = .ok (.iload_n 1, 1) := by decide +kernel
theorem dX2_spans_1 : decode cX2_spans 1 = .ok (.ifCond .lt 29, 3) := by decide +kernel
theorem dX2_spans_4 : decode cX2_spans 4 = .ok (.iload_n 2, 1) := by decide +kernel
theorem dX2_spans_5 : decode cX2_spans 5 = .ok (.ifCond .lt 25, 3) := by decide +kernel
theorem dX2_spans_8 : decode cX2_spans 8 = .ok (.iload_n 2, 1) := by decide +kernel
theorem dX2_spans_9 : decode cX2_spans 9 = .ok (.aload_n 0, 1) := by decide +kernel
theorem dX2_spans_10 : decode cX2_spans 10 = .ok (.getfield 19, 3) := by decide +kernel
theorem dX2_spans_13 : decode cX2_spans 13 = .ok (.if_icmp .gt 17, 3) := by decide +kernel
theorem dX2_spans_16 : decode cX2_spans 16 = .ok (.iload_n 1, 1) := by decide +kernel
theorem dX2_spans_17 : decode cX2_spans 17 = .ok (.aload_n 0, 1) := by decide +kernel
theorem dX2_spans_18 : decode cX2_spans 18 = .ok (.getfield 19, 3) := by decide +kernel
theorem dX2_spans_21 : decode cX2_spans 21 = .ok (.iload_n 2, 1) := by decide +kernel
theorem dX2_spans_22 : decode cX2_spans 22 = .ok (.isub, 1) := by decide +kernel
theorem dX2_spans_23 : decode cX2_spans 23 = .ok (.if_icmp .gt 7, 3) := by decide +kernel
theorem dX2_spans_26 : decode cX2_spans 26 = .ok (.iconst 1, 1) := by decide +kernel
theorem dX2_spans_27 : decode cX2_spans 27 = .ok (.goto 4, 3) := by decide +kernel
theorem dX2_spans_30 : decode cX2_spans 30 = .ok (.iconst 0, 1) := by decide +kernel
theorem dX2_spans_31 : decode cX2_spans 31 = .ok (.ireturn, 1) := by decide +kernel
theorem dX2_put_0 : decode cX2_put 0 = .ok (.iload_n 1, 1) := by decide +kernel
theorem dX2_put_1 : decode cX2_put 1 = .ok (.ifCond .lt 22, 3) := by decide +kernel
theorem dX2_put_4 : decode cX2_put 4 = .ok (.iload_n 1, 1) := by decide +kernel
theorem dX2_put_5 : decode cX2_put 5 = .ok (.aload_n 0, 1) := by decide +kernel
theorem dX2_put_6 : decode cX2_put 6 = .ok (.getfield 19, 3) := by decide +kernel
theorem dX2_put_9 : decode cX2_put 9 = .ok (.if_icmp .ge 14, 3) := by decide +kernel
theorem dX2_put_12 : decode cX2_put 12 = .ok (.aload_n 0, 1) := by decide +kernel
theorem dX2_put_13 : decode cX2_put 13 = .ok (.getfield 9, 3) := by decide +kernel
theorem dX2_put_16 : decode cX2_put 16 = .ok (.iload_n 1, 1) := by decide +kernel
theorem dX2_put_17 : decode cX2_put 17 = .ok (.aload_n 0, 1) := by decide +kernel
theorem dX2_put_18 : decode cX2_put 18 = .ok (.lload_n 2, 1) := by decide +kernel
theorem dX2_put_19 : decode cX2_put 19 = .ok (.invokevirtual 22, 3) := by decide +kernel
theorem dX2_put_22 : decode cX2_put 22 = .ok (.lastore, 1) := by decide +kernel
theorem dX2_put_23 : decode cX2_put 23 = .ok (.return_, 1) := by decide +kernel
theorem dX2_cut_0 : decode cX2_cut 0 = .ok (.aload_n 0, 1) := by decide +kernel
theorem dX2_cut_1 : decode cX2_cut 1 = .ok (.getfield 15, 3) := by decide +kernel
theorem dX2_cut_4 : decode cX2_cut 4 = .ok (.lookupswitch 38 #[(8, 28), (16, 33)], 28) := by decide +kernel
theorem dX2_cut_32 : decode cX2_cut 32 = .ok (.lload_n 1, 1) := by decide +kernel
theorem dX2_cut_33 : decode cX2_cut 33 = .ok (.l2i, 1) := by decide +kernel
theorem dX2_cut_34 : decode cX2_cut 34 = .ok (.i2b, 1) := by decide +kernel
theorem dX2_cut_35 : decode cX2_cut 35 = .ok (.i2l, 1) := by decide +kernel
theorem dX2_cut_36 : decode cX2_cut 36 = .ok (.lreturn, 1) := by decide +kernel
theorem dX2_cut_37 : decode cX2_cut 37 = .ok (.lload_n 1, 1) := by decide +kernel
theorem dX2_cut_38 : decode cX2_cut 38 = .ok (.l2i, 1) := by decide +kernel
theorem dX2_cut_39 : decode cX2_cut 39 = .ok (.i2s, 1) := by decide +kernel
theorem dX2_cut_40 : decode cX2_cut 40 = .ok (.i2l, 1) := by decide +kernel
theorem dX2_cut_41 : decode cX2_cut 41 = .ok (.lreturn, 1) := by decide +kernel
theorem dX2_cut_42 : decode cX2_cut 42 = .ok (.lload_n 1, 1) := by decide +kernel
theorem dX2_cut_43 : decode cX2_cut 43 = .ok (.lreturn, 1) := by decide +kernel
theorem dX3_init_0 : decode cX3_init 0 = .ok (.aload_n 0, 1) := by decide +kernel
theorem dX3_init_1 : decode cX3_init 1 = .ok (.invokespecial 3, 3) := by decide +kernel
theorem dX3_init_4 : decode cX3_init 4 = .ok (.aload_n 0, 1) := by decide +kernel
theorem dX3_init_5 : decode cX3_init 5 = .ok (.bipush 120, 2) := by decide +kernel
theorem dX3_init_7 : decode cX3_init 7 = .ok (.newarray .byte, 2) := by decide +kernel
theorem dX3_init_9 : decode cX3_init 9 = .ok (.putfield 9, 3) := by decide +kernel
theorem dX3_init_12 : decode cX3_init 12 = .ok (.return_, 1) := by decide +kernel
theorem dX3_add_0 : decode cX3_add 0 = .ok (.aload_n 0, 1) := by decide +kernel
theorem dX3_add_1 : decode cX3_add 1 = .ok (.getfield 15, 3) := by decide +kernel
theorem dX3_add_4 : decode cX3_add 4 = .ok (.bipush 120, 2) := by decide +kernel
theorem dX3_add_6 : decode cX3_add 6 = .ok (.if_icmp .ge 23, 3) := by decide +kernel
theorem dX3_add_9 : decode cX3_add 9 = .ok (.aload_n 0, 1) := by decide +kernel
theorem dX3_add_10 : decode cX3_add 10 = .ok (.getfield 9, 3) := by decide +kernel
theorem dX3_add_13 : decode cX3_add 13 = .ok (.aload_n 0, 1) := by decide +kernel
theorem dX3_add_14 : decode cX3_add 14 = .ok (.getfield 15, 3) := by decide +kernel
theorem dX3_add_17 : decode cX3_add 17 = .ok (.iload_n 1, 1) := by decide +kernel
theorem dX3_add_18 : decode cX3_add 18 = .ok (.bastore, 1) := by decide +kernel
theorem dX3_add_19 : decode cX3_add 19 = .ok (.aload_n 0, 1) := by decide +kernel
theorem dX3_add_20 : decode cX3_add 20 = .ok (.dup, 1) := by decide +kernel
theorem dX3_add_21 : decode cX3_add 21 = .ok (.getfield 15, 3) := by decide +kernel
theorem dX3_add_24 : decode cX3_add 24 = .ok (.iconst 1, 1) := by decide +kernel
theorem dX3_add_25 : decode cX3_add 25 = .ok (.iadd, 1) := by decide +kernel
theorem dX3_add_26 : decode cX3_add 26 = .ok (.putfield 15, 3) := by decide +kernel
theorem dX3_add_29 : decode cX3_add 29 = .ok (.return_, 1) := by decide +kernel
theorem dX3_at_0 : decode cX3_at 0 = .ok (.iload_n 1, 1) := by decide +kernel
theorem dX3_at_1 : decode cX3_at 1 = .ok (.ifCond .lt 20, 3) := by decide +kernel
theorem dX3_at_4 : decode cX3_at 4 = .ok (.iload_n 1, 1) := by decide +kernel
theorem dX3_at_5 : decode cX3_at 5 = .ok (.aload_n 0, 1) := by decide +kernel
theorem dX3_at_6 : decode cX3_at 6 = .ok (.getfield 15, 3) := by decide +kernel
theorem dX3_at_9 : decode cX3_at 9 = .ok (.if_icmp .ge 12, 3) := by decide +kernel
theorem dX3_at_12 : decode cX3_at 12 = .ok (.aload_n 0, 1) := by decide +kernel
theorem dX3_at_13 : decode cX3_at 13 = .ok (.getfield 9, 3) := by decide +kernel
theorem dX3_at_16 : decode cX3_at 16 = .ok (.iload_n 1, 1) := by decide +kernel
theorem dX3_at_17 : decode cX3_at 17 = .ok (.baload, 1) := by decide +kernel
theorem dX3_at_18 : decode cX3_at 18 = .ok (.goto 4, 3) := by decide +kernel
theorem dX3_at_21 : decode cX3_at 21 = .ok (.iconst 0, 1) := by decide +kernel
theorem dX3_at_22 : decode cX3_at 22 = .ok (.ireturn, 1) := by decide +kernel
theorem dJ6_bitCount_0f7a4_0 : decode cJ6_bitCount_0f7a4 0 = .ok (.iload_n 0, 1) := by decide +kernel
theorem dJ6_bitCount_0f7a4_1 : decode cJ6_bitCount_0f7a4 1 = .ok (.iload_n 0, 1) := by decide +kernel
theorem dJ6_bitCount_0f7a4_2 : decode cJ6_bitCount_0f7a4 2 = .ok (.iconst 1, 1) := by decide +kernel
theorem dJ6_bitCount_0f7a4_3 : decode cJ6_bitCount_0f7a4 3 = .ok (.iushr, 1) := by decide +kernel
theorem dJ6_bitCount_0f7a4_4 : decode cJ6_bitCount_0f7a4 4 = .ok (.ldc_w 265, 3) := by decide +kernel
theorem dJ6_bitCount_0f7a4_7 : decode cJ6_bitCount_0f7a4 7 = .ok (.iand, 1) := by decide +kernel
theorem dJ6_bitCount_0f7a4_8 : decode cJ6_bitCount_0f7a4 8 = .ok (.isub, 1) := by decide +kernel
theorem dJ6_bitCount_0f7a4_9 : decode cJ6_bitCount_0f7a4 9 = .ok (.istore_n 0, 1) := by decide +kernel
theorem dJ6_bitCount_0f7a4_10 : decode cJ6_bitCount_0f7a4 10 = .ok (.iload_n 0, 1) := by decide +kernel
theorem dJ6_bitCount_0f7a4_11 : decode cJ6_bitCount_0f7a4 11 = .ok (.ldc_w 266, 3) := by decide +kernel
theorem dJ6_bitCount_0f7a4_14 : decode cJ6_bitCount_0f7a4 14 = .ok (.iand, 1) := by decide +kernel
theorem dJ6_bitCount_0f7a4_15 : decode cJ6_bitCount_0f7a4 15 = .ok (.iload_n 0, 1) := by decide +kernel
theorem dJ6_bitCount_0f7a4_16 : decode cJ6_bitCount_0f7a4 16 = .ok (.iconst 2, 1) := by decide +kernel
theorem dJ6_bitCount_0f7a4_17 : decode cJ6_bitCount_0f7a4 17 = .ok (.iushr, 1) := by decide +kernel
theorem dJ6_bitCount_0f7a4_18 : decode cJ6_bitCount_0f7a4 18 = .ok (.ldc_w 266, 3) := by decide +kernel
theorem dJ6_bitCount_0f7a4_21 : decode cJ6_bitCount_0f7a4 21 = .ok (.iand, 1) := by decide +kernel
theorem dJ6_bitCount_0f7a4_22 : decode cJ6_bitCount_0f7a4 22 = .ok (.iadd, 1) := by decide +kernel
theorem dJ6_bitCount_0f7a4_23 : decode cJ6_bitCount_0f7a4 23 = .ok (.istore_n 0, 1) := by decide +kernel
theorem dJ6_bitCount_0f7a4_24 : decode cJ6_bitCount_0f7a4 24 = .ok (.iload_n 0, 1) := by decide +kernel
theorem dJ6_bitCount_0f7a4_25 : decode cJ6_bitCount_0f7a4 25 = .ok (.iload_n 0, 1) := by decide +kernel
theorem dJ6_bitCount_0f7a4_26 : decode cJ6_bitCount_0f7a4 26 = .ok (.iconst 4, 1) := by decide +kernel
theorem dJ6_bitCount_0f7a4_27 : decode cJ6_bitCount_0f7a4 27 = .ok (.iushr, 1) := by decide +kernel
theorem dJ6_bitCount_0f7a4_28 : decode cJ6_bitCount_0f7a4 28 = .ok (.iadd, 1) := by decide +kernel
theorem dJ6_bitCount_0f7a4_29 : decode cJ6_bitCount_0f7a4 29 = .ok (.ldc_w 267, 3) := by decide +kernel
theorem dJ6_bitCount_0f7a4_32 : decode cJ6_bitCount_0f7a4 32 = .ok (.iand, 1) := by decide +kernel
theorem dJ6_bitCount_0f7a4_33 : decode cJ6_bitCount_0f7a4 33 = .ok (.istore_n 0, 1) := by decide +kernel
theorem dJ6_bitCount_0f7a4_34 : decode cJ6_bitCount_0f7a4 34 = .ok (.iload_n 0, 1) := by decide +kernel
theorem dJ6_bitCount_0f7a4_35 : decode cJ6_bitCount_0f7a4 35 = .ok (.iload_n 0, 1) := by decide +kernel
theorem dJ6_bitCount_0f7a4_36 : decode cJ6_bitCount_0f7a4 36 = .ok (.bipush 8, 2) := by decide +kernel
theorem dJ6_bitCount_0f7a4_38 : decode cJ6_bitCount_0f7a4 38 = .ok (.iushr, 1) := by decide +kernel
theorem dJ6_bitCount_0f7a4_39 : decode cJ6_bitCount_0f7a4 39 = .ok (.iadd, 1) := by decide +kernel
theorem dJ6_bitCount_0f7a4_40 : decode cJ6_bitCount_0f7a4 40 = .ok (.istore_n 0, 1) := by decide +kernel
theorem dJ6_bitCount_0f7a4_41 : decode cJ6_bitCount_0f7a4 41 = .ok (.iload_n 0, 1) := by decide +kernel
theorem dJ6_bitCount_0f7a4_42 : decode cJ6_bitCount_0f7a4 42 = .ok (.iload_n 0, 1) := by decide +kernel
theorem dJ6_bitCount_0f7a4_43 : decode cJ6_bitCount_0f7a4 43 = .ok (.bipush 16, 2) := by decide +kernel
theorem dJ6_bitCount_0f7a4_45 : decode cJ6_bitCount_0f7a4 45 = .ok (.iushr, 1) := by decide +kernel
theorem dJ6_bitCount_0f7a4_46 : decode cJ6_bitCount_0f7a4 46 = .ok (.iadd, 1) := by decide +kernel
theorem dJ6_bitCount_0f7a4_47 : decode cJ6_bitCount_0f7a4 47 = .ok (.istore_n 0, 1) := by decide +kernel
theorem dJ6_bitCount_0f7a4_48 : decode cJ6_bitCount_0f7a4 48 = .ok (.iload_n 0, 1) := by decide +kernel
theorem dJ6_bitCount_0f7a4_49 : decode cJ6_bitCount_0f7a4 49 = .ok (.bipush 63, 2) := by decide +kernel
theorem dJ6_bitCount_0f7a4_51 : decode cJ6_bitCount_0f7a4 51 = .ok (.iand, 1) := by decide +kernel
theorem dJ6_bitCount_0f7a4_52 : decode cJ6_bitCount_0f7a4 52 = .ok (.ireturn, 1) := by decide +kernel
theorem dJ9_floorMod_7cf53_0 : decode cJ9_floorMod_7cf53 0 = .ok (.iload_n 0, 1) := by decide +kernel
theorem dJ9_floorMod_7cf53_1 : decode cJ9_floorMod_7cf53 1 = .ok (.iload_n 1, 1) := by decide +kernel
theorem dJ9_floorMod_7cf53_2 : decode cJ9_floorMod_7cf53 2 = .ok (.irem, 1) := by decide +kernel
theorem dJ9_floorMod_7cf53_3 : decode cJ9_floorMod_7cf53 3 = .ok (.istore_n 2, 1) := by decide +kernel
theorem dJ9_floorMod_7cf53_4 : decode cJ9_floorMod_7cf53 4 = .ok (.iload_n 0, 1) := by decide +kernel
theorem dJ9_floorMod_7cf53_5 : decode cJ9_floorMod_7cf53 5 = .ok (.iload_n 1, 1) := by decide +kernel
theorem dJ9_floorMod_7cf53_6 : decode cJ9_floorMod_7cf53 6 = .ok (.ixor, 1) := by decide +kernel
theorem dJ9_floorMod_7cf53_7 : decode cJ9_floorMod_7cf53 7 = .ok (.ifCond .ge 11, 3) := by decide +kernel
theorem dJ9_floorMod_7cf53_10 : decode cJ9_floorMod_7cf53 10 = .ok (.iload_n 2, 1) := by decide +kernel
theorem dJ9_floorMod_7cf53_11 : decode cJ9_floorMod_7cf53 11 = .ok (.ifCond .eq 7, 3) := by decide +kernel
theorem dJ9_floorMod_7cf53_14 : decode cJ9_floorMod_7cf53 14 = .ok (.iload_n 2, 1) := by decide +kernel
theorem dJ9_floorMod_7cf53_15 : decode cJ9_floorMod_7cf53 15 = .ok (.iload_n 1, 1) := by decide +kernel
theorem dJ9_floorMod_7cf53_16 : decode cJ9_floorMod_7cf53 16 = .ok (.iadd, 1) := by decide +kernel
theorem dJ9_floorMod_7cf53_17 : decode cJ9_floorMod_7cf53 17 = .ok (.ireturn, 1) := by decide +kernel
theorem dJ9_floorMod_7cf53_18 : decode cJ9_floorMod_7cf53 18 = .ok (.iload_n 2, 1) := by decide +kernel
theorem dJ9_floorMod_7cf53_19 : decode cJ9_floorMod_7cf53 19 = .ok (.ireturn, 1) := by decide +kernel
theorem dJ9_abs_0f7a4_0 : decode cJ9_abs_0f7a4 0 = .ok (.iload_n 0, 1) := by decide +kernel
theorem dJ9_abs_0f7a4_1 : decode cJ9_abs_0f7a4 1 = .ok (.ifCond .ge 8, 3) := by decide +kernel
theorem dJ9_abs_0f7a4_4 : decode cJ9_abs_0f7a4 4 = .ok (.iload_n 0, 1) := by decide +kernel
theorem dJ9_abs_0f7a4_5 : decode cJ9_abs_0f7a4 5 = .ok (.ineg, 1) := by decide +kernel
theorem dJ9_abs_0f7a4_6 : decode cJ9_abs_0f7a4 6 = .ok (.goto 4, 3) := by decide +kernel
theorem dJ9_abs_0f7a4_9 : decode cJ9_abs_0f7a4 9 = .ok (.iload_n 0, 1) := by decide +kernel
theorem dJ9_abs_0f7a4_10 : decode cJ9_abs_0f7a4 10 = .ok (.ireturn, 1) := by decide +kernel
theorem dJ9_max_7cf53_0 : decode cJ9_max_7cf53 0 = .ok (.iload_n 0, 1) := by decide +kernel
theorem dJ9_max_7cf53_1 : decode cJ9_max_7cf53 1 = .ok (.iload_n 1, 1) := by decide +kernel
theorem dJ9_max_7cf53_2 : decode cJ9_max_7cf53 2 = .ok (.if_icmp .lt 7, 3) := by decide +kernel
theorem dJ9_max_7cf53_5 : decode cJ9_max_7cf53 5 = .ok (.iload_n 0, 1) := by decide +kernel
theorem dJ9_max_7cf53_6 : decode cJ9_max_7cf53 6 = .ok (.goto 4, 3) := by decide +kernel
theorem dJ9_max_7cf53_9 : decode cJ9_max_7cf53 9 = .ok (.iload_n 1, 1) := by decide +kernel
theorem dJ9_max_7cf53_10 : decode cJ9_max_7cf53 10 = .ok (.ireturn, 1) := by decide +kernel
theorem dJ9_min_7cf53_0 : decode cJ9_min_7cf53 0 = .ok (.iload_n 0, 1) := by decide +kernel
theorem dJ9_min_7cf53_1 : decode cJ9_min_7cf53 1 = .ok (.iload_n 1, 1) := by decide +kernel
theorem dJ9_min_7cf53_2 : decode cJ9_min_7cf53 2 = .ok (.if_icmp .gt 7, 3) := by decide +kernel
theorem dJ9_min_7cf53_5 : decode cJ9_min_7cf53 5 = .ok (.iload_n 0, 1) := by decide +kernel
theorem dJ9_min_7cf53_6 : decode cJ9_min_7cf53 6 = .ok (.goto 4, 3) := by decide +kernel
theorem dJ9_min_7cf53_9 : decode cJ9_min_7cf53 9 = .ok (.iload_n 1, 1) := by decide +kernel
theorem dJ9_min_7cf53_10 : decode cJ9_min_7cf53 10 = .ok (.ireturn, 1) := by decide +kernel
theorem dJ0_length_8abf5_0 : decode cJ0_length_8abf5 0 = .ok (.aload_n 0, 1) := by decide +kernel
theorem dJ0_length_8abf5_1 : decode cJ0_length_8abf5 1 = .ok (.getfield 9, 3) := by decide +kernel
theorem dJ0_length_8abf5_4 : decode cJ0_length_8abf5 4 = .ok (.arraylength, 1) := by decide +kernel
theorem dJ0_length_8abf5_5 : decode cJ0_length_8abf5 5 = .ok (.aload_n 0, 1) := by decide +kernel
theorem dJ0_length_8abf5_6 : decode cJ0_length_8abf5 6 = .ok (.invokevirtual 335, 3) := by decide +kernel
theorem dJ0_length_8abf5_9 : decode cJ0_length_8abf5 9 = .ok (.ishr, 1) := by decide +kernel
theorem dJ0_length_8abf5_10 : decode cJ0_length_8abf5 10 = .ok (.ireturn, 1) := by decide +kernel
theorem dJ0_charAt_5068e_0 : decode cJ0_charAt_5068e 0 = .ok (.aload_n 0, 1) := by decide +kernel
theorem dJ0_charAt_5068e_1 : decode cJ0_charAt_5068e 1 = .ok (.invokevirtual 492, 3) := by decide +kernel
theorem dJ0_charAt_5068e_4 : decode cJ0_charAt_5068e 4 = .ok (.ifCond .eq 12, 3) := by decide +kernel
theorem dJ0_charAt_5068e_7 : decode cJ0_charAt_5068e 7 = .ok (.aload_n 0, 1) := by decide +kernel
theorem dJ0_charAt_5068e_8 : decode cJ0_charAt_5068e 8 = .ok (.getfield 9, 3) := by decide +kernel
theorem dJ0_charAt_5068e_11 : decode cJ0_charAt_5068e 11 = .ok (.iload_n 1, 1) := by decide +kernel
theorem dJ0_charAt_5068e_12 : decode cJ0_charAt_5068e 12 = .ok (.invokestatic 495, 3) := by decide +kernel
theorem dJ0_charAt_5068e_15 : decode cJ0_charAt_5068e 15 = .ok (.ireturn, 1) := by decide +kernel
theorem dJ0_charAt_5068e_16 : decode cJ0_charAt_5068e 16 = .ok (.aload_n 0, 1) := by decide +kernel
theorem dJ0_charAt_5068e_17 : decode cJ0_charAt_5068e 17 = .ok (.getfield 9, 3) := by decide +kernel
theorem dJ0_charAt_5068e_20 : decode cJ0_charAt_5068e 20 = .ok (.iload_n 1, 1) := by decide +kernel
theorem dJ0_charAt_5068e_21 : decode cJ0_charAt_5068e 21 = .ok (.invokestatic 498, 3) := by decide +kernel
theorem dJ0_charAt_5068e_24 : decode cJ0_charAt_5068e 24 = .ok (.ireturn, 1) := by decide +kernel
theorem dJ0_coder_7d493_0 : decode cJ0_coder_7d493 0 = .ok (.getstatic 38, 3) := by decide +kernel
theorem dJ0_coder_7d493_3 : decode cJ0_coder_7d493 3 = .ok (.ifCond .eq 10, 3) := by decide +kernel
theorem dJ0_coder_7d493_6 : decode cJ0_coder_7d493 6 = .ok (.aload_n 0, 1) := by decide +kernel
theorem dJ0_coder_7d493_7 : decode cJ0_coder_7d493 7 = .ok (.getfield 15, 3) := by decide +kernel
theorem dJ0_coder_7d493_10 : decode cJ0_coder_7d493 10 = .ok (.goto 4, 3) := by decide +kernel
theorem dJ0_coder_7d493_13 : decode cJ0_coder_7d493 13 = .ok (.iconst 1, 1) := by decide +kernel
theorem dJ0_coder_7d493_14 : decode cJ0_coder_7d493 14 = .ok (.ireturn, 1) := by decide +kernel
theorem dJ0_isLatin1_aae02_0 : decode cJ0_isLatin1_aae02 0 = .ok (.getstatic 38, 3) := by decide +kernel
theorem dJ0_isLatin1_aae02_3 : decode cJ0_isLatin1_aae02 3 = .ok (.ifCond .eq 14, 3) := by decide +kernel
theorem dJ0_isLatin1_aae02_6 : decode cJ0_isLatin1_aae02 6 = .ok (.aload_n 0, 1) := by decide +kernel
theorem dJ0_isLatin1_aae02_7 : decode cJ0_isLatin1_aae02 7 = .ok (.getfield 15, 3) := by decide +kernel
theorem dJ0_isLatin1_aae02_10 : decode cJ0_isLatin1_aae02 10 = .ok (.ifCond .ne 7, 3) := by decide +kernel
theorem dJ0_isLatin1_aae02_13 : decode cJ0_isLatin1_aae02 13 = .ok (.iconst 1, 1) := by decide +kernel
theorem dJ0_isLatin1_aae02_14 : decode cJ0_isLatin1_aae02 14 = .ok (.goto 4, 3) := by decide +kernel
theorem dJ0_isLatin1_aae02_17 : decode cJ0_isLatin1_aae02 17 = .ok (.iconst 0, 1) := by decide +kernel
theorem dJ0_isLatin1_aae02_18 : decode cJ0_isLatin1_aae02 18 = .ok (.ireturn, 1) := by decide +kernel
theorem dJ0_checkIndex_df160_0 : decode cJ0_checkIndex_df160 0 = .ok (.iload_n 0, 1) := by decide +kernel
theorem dJ0_checkIndex_df160_1 : decode cJ0_checkIndex_df160 1 = .ok (.iload_n 1, 1) := by decide +kernel
theorem dJ0_checkIndex_df160_2 : decode cJ0_checkIndex_df160 2 = .ok (.getstatic 1053, 3) := by decide +kernel
theorem dJ0_checkIndex_df160_5 : decode cJ0_checkIndex_df160 5 = .ok (.invokestatic 1059, 3) := by decide +kernel
theorem dJ0_checkIndex_df160_8 : decode cJ0_checkIndex_df160 8 = .ok (.pop, 1) := by decide +kernel
theorem dJ0_checkIndex_df160_9 : decode cJ0_checkIndex_df160 9 = .ok (.return_, 1) := by decide +kernel
theorem dJ1_charAt_3b067_0 : decode cJ1_charAt_3b067 0 = .ok (.iload_n 1, 1) := by decide +kernel
theorem dJ1_charAt_3b067_1 : decode cJ1_charAt_3b067 1 = .ok (.aload_n 0, 1) := by decide +kernel
theorem dJ1_charAt_3b067_2 : decode cJ1_charAt_3b067 2 = .ok (.arraylength, 1) := by decide +kernel
theorem dJ1_charAt_3b067_3 : decode cJ1_charAt_3b067 3 = .ok (.invokestatic 9, 3) := by decide +kernel
theorem dJ1_charAt_3b067_6 : decode cJ1_charAt_3b067 6 = .ok (.aload_n 0, 1) := by decide +kernel
theorem dJ1_charAt_3b067_7 : decode cJ1_charAt_3b067 7 = .ok (.iload_n 1, 1) := by decide +kernel
theorem dJ1_charAt_3b067_8 : decode cJ1_charAt_3b067 8 = .ok (.baload, 1) := by decide +kernel
theorem dJ1_charAt_3b067_9 : decode cJ1_charAt_3b067 9 = .ok (.sipush 255, 3) := by decide +kernel
theorem dJ1_charAt_3b067_12 : decode cJ1_charAt_3b067 12 = .ok (.iand, 1) := by decide +kernel
theorem dJ1_charAt_3b067_13 : decode cJ1_charAt_3b067 13 = .ok (.i2c, 1) := by decide +kernel
theorem dJ1_charAt_3b067_14 : decode cJ1_charAt_3b067 14 = .ok (.ireturn, 1) := by decide +kernel
theorem dJ2_getChar_3b067_0 : decode cJ2_getChar_3b067 0 = .ok (.getstatic 44, 3) := by decide +kernel
theorem dJ2_getChar_3b067_3 : decode cJ2_getChar_3b067 3 = .ok (.ifCond .ne 25, 3) := by decide +kernel
theorem dJ2_getChar_3b067_6 : decode cJ2_getChar_3b067 6 = .ok (.iload_n 1, 1) := by decide +kernel
theorem dJ2_getChar_3b067_7 : decode cJ2_getChar_3b067 7 = .ok (.ifCond .lt 11, 3) := by decide +kernel
theorem dJ2_getChar_3b067_10 : decode cJ2_getChar_3b067 10 = .ok (.iload_n 1, 1) := by decide +kernel
theorem dJ2_getChar_3b067_11 : decode cJ2_getChar_3b067 11 = .ok (.aload_n 0, 1) := by decide +kernel
theorem dJ2_getChar_3b067_12 : decode cJ2_getChar_3b067 12 = .ok (.invokestatic 48, 3) := by decide +kernel
theorem dJ2_getChar_3b067_15 : decode cJ2_getChar_3b067 15 = .ok (.if_icmp .lt 13, 3) := by decide +kernel
theorem dJ2_getChar_3b067_18 : decode cJ2_getChar_3b067 18 = .ok (.new 52, 3) := by decide +kernel
theorem dJ2_getChar_3b067_21 : decode cJ2_getChar_3b067 21 = .ok (.dup, 1) := by decide +kernel
theorem dJ2_getChar_3b067_22 : decode cJ2_getChar_3b067 22 = .ok (.ldc 54, 2) := by decide +kernel
theorem dJ2_getChar_3b067_24 : decode cJ2_getChar_3b067 24 = .ok (.invokespecial 56, 3) := by decide +kernel
theorem dJ2_getChar_3b067_27 : decode cJ2_getChar_3b067 27 = .ok (.athrow, 1) := by decide +kernel
theorem dJ2_getChar_3b067_28 : decode cJ2_getChar_3b067 28 = .ok (.iload_n 1, 1) := by decide +kernel
theorem dJ2_getChar_3b067_29 : decode cJ2_getChar_3b067 29 = .ok (.iconst 1, 1) := by decide +kernel
theorem dJ2_getChar_3b067_30 : decode cJ2_getChar_3b067 30 = .ok (.ishl, 1) := by decide +kernel
theorem dJ2_getChar_3b067_31 : decode cJ2_getChar_3b067 31 = .ok (.istore_n 1, 1) := by decide +kernel
theorem dJ2_getChar_3b067_32 : decode cJ2_getChar_3b067 32 = .ok (.aload_n 0, 1) := by decide +kernel
theorem dJ2_getChar_3b067_33 : decode cJ2_getChar_3b067 33 = .ok (.iload_n 1, 1) := by decide +kernel
theorem dJ2_getChar_3b067_34 : decode cJ2_getChar_3b067 34 = .ok (.iinc 1 1, 3) := by decide +kernel
theorem dJ2_getChar_3b067_37 : decode cJ2_getChar_3b067 37 = .ok (.baload, 1) := by decide +kernel
theorem dJ2_getChar_3b067_38 : decode cJ2_getChar_3b067 38 = .ok (.sipush 255, 3) := by decide +kernel
theorem dJ2_getChar_3b067_41 : decode cJ2_getChar_3b067 41 = .ok (.iand, 1) := by decide +kernel
theorem dJ2_getChar_3b067_42 : decode cJ2_getChar_3b067 42 = .ok (.getstatic 59, 3) := by decide +kernel
theorem dJ2_getChar_3b067_45 : decode cJ2_getChar_3b067 45 = .ok (.ishl, 1) := by decide +kernel
theorem dJ2_getChar_3b067_46 : decode cJ2_getChar_3b067 46 = .ok (.aload_n 0, 1) := by decide +kernel
theorem dJ2_getChar_3b067_47 : decode cJ2_getChar_3b067 47 = .ok (.iload_n 1, 1) := by decide +kernel
theorem dJ2_getChar_3b067_48 : decode cJ2_getChar_3b067 48 = .ok (.baload, 1) := by decide +kernel
theorem dJ2_getChar_3b067_49 : decode cJ2_getChar_3b067 49 = .ok (.sipush 255, 3) := by decide +kernel
theorem dJ2_getChar_3b067_52 : decode cJ2_getChar_3b067 52 = .ok (.iand, 1) := by decide +kernel
theorem dJ2_getChar_3b067_53 : decode cJ2_getChar_3b067 53 = .ok (.getstatic 63, 3) := by decide +kernel
theorem dJ2_getChar_3b067_56 : decode cJ2_getChar_3b067 56 = .ok (.ishl, 1) := by decide +kernel
theorem dJ2_getChar_3b067_57 : decode cJ2_getChar_3b067 57 = .ok (.ior, 1) := by decide +kernel
theorem dJ2_getChar_3b067_58 : decode cJ2_getChar_3b067 58 = .ok (.i2c, 1) := by decide +kernel
theorem dJ2_getChar_3b067_59 : decode cJ2_getChar_3b067 59 = .ok (.ireturn, 1) := by decide +kernel
theorem dJ2_length_9d52b_0 : decode cJ2_length_9d52b 0 = .ok (.aload_n 0, 1) := by decide +kernel
theorem dJ2_length_9d52b_1 : decode cJ2_length_9d52b 1 = .ok (.arraylength, 1) := by decide +kernel
theorem dJ2_length_9d52b_2 : decode cJ2_length_9d52b 2 = .ok (.iconst 1, 1) := by decide +kernel
theorem dJ2_length_9d52b_3 : decode cJ2_length_9d52b 3 = .ok (.ishr, 1) := by decide +kernel
theorem dJ2_length_9d52b_4 : decode cJ2_length_9d52b 4 = .ok (.ireturn, 1) := by decide +kernel
theorem dJ2_charAt_3b067_0 : decode cJ2_charAt_3b067 0 = .ok (.iload_n 1, 1) := by decide +kernel
theorem dJ2_charAt_3b067_1 : decode cJ2_charAt_3b067 1 = .ok (.aload_n 0, 1) := by decide +kernel
theorem dJ2_charAt_3b067_2 : decode cJ2_charAt_3b067 2 = .ok (.invokestatic 67, 3) := by decide +kernel
theorem dJ2_charAt_3b067_5 : decode cJ2_charAt_3b067 5 = .ok (.aload_n 0, 1) := by decide +kernel
theorem dJ2_charAt_3b067_6 : decode cJ2_charAt_3b067 6 = .ok (.iload_n 1, 1) := by decide +kernel
theorem dJ2_charAt_3b067_7 : decode cJ2_charAt_3b067 7 = .ok (.invokestatic 71, 3) := by decide +kernel
theorem dJ2_charAt_3b067_10 : decode cJ2_charAt_3b067 10 = .ok (.ireturn, 1) := by decide +kernel
theorem dJ2_checkIndex_2214a_0 : decode cJ2_checkIndex_2214a 0 = .ok (.iload_n 0, 1) := by decide +kernel
theorem dJ2_checkIndex_2214a_1 : decode cJ2_checkIndex_2214a 1 = .ok (.aload_n 1, 1) := by decide +kernel
theorem dJ2_checkIndex_2214a_2 : decode cJ2_checkIndex_2214a 2 = .ok (.invokestatic 48, 3) := by decide +kernel
theorem dJ2_checkIndex_2214a_5 : decode cJ2_checkIndex_2214a 5 = .ok (.invokestatic 414, 3) := by decide +kernel
theorem dJ2_checkIndex_2214a_8 : decode cJ2_checkIndex_2214a 8 = .ok (.return_, 1) := by decide +kernel
theorem dJ3_checkIndex_8e157_0 : decode cJ3_checkIndex_8e157 0 = .ok (.iload_n 0, 1) := by decide +kernel
theorem dJ3_checkIndex_8e157_1 : decode cJ3_checkIndex_8e157 1 = .ok (.ifCond .lt 8, 3) := by decide +kernel
theorem dJ3_checkIndex_8e157_4 : decode cJ3_checkIndex_8e157 4 = .ok (.iload_n 0, 1) := by decide +kernel
theorem dJ3_checkIndex_8e157_5 : decode cJ3_checkIndex_8e157 5 = .ok (.iload_n 1, 1) := by decide +kernel
theorem dJ3_checkIndex_8e157_6 : decode cJ3_checkIndex_8e157 6 = .ok (.if_icmp .lt 10, 3) := by decide +kernel
theorem dJ3_checkIndex_8e157_9 : decode cJ3_checkIndex_8e157 9 = .ok (.aload_n 2, 1) := by decide +kernel
theorem dJ3_checkIndex_8e157_10 : decode cJ3_checkIndex_8e157 10 = .ok (.iload_n 0, 1) := by decide +kernel
theorem dJ3_checkIndex_8e157_11 : decode cJ3_checkIndex_8e157 11 = .ok (.iload_n 1, 1) := by decide +kernel
theorem dJ3_checkIndex_8e157_12 : decode cJ3_checkIndex_8e157 12 = .ok (.invokestatic 95, 3) := by decide +kernel
theorem dJ3_checkIndex_8e157_15 : decode cJ3_checkIndex_8e157 15 = .ok (.athrow, 1) := by decide +kernel
theorem dJ3_checkIndex_8e157_16 : decode cJ3_checkIndex_8e157 16 = .ok (.iload_n 0, 1) := by decide +kernel
theorem dJ3_checkIndex_8e157_17 : decode cJ3_checkIndex_8e157 17 = .ok (.ireturn, 1) := by decide +kernel
end
section
theorem dX4_init_0 : decode cX4_init 0 = .ok (.aload_n 0, 1) := by decide +kernel
theorem dX4_init_1 : decode cX4_init 1 = .ok (.invokespecial 3, 3) := by decide +kernel
theorem dX4_init_4 : decode cX4_init 4 = .ok (.aload_n 0, 1) := by decide +kernel
theorem dX4_init_5 : decode cX4_init 5 = .ok (.new 9, 3) := by decide +kernel
theorem dX4_init_8 : decode cX4_init 8 = .ok (.dup, 1) := by decide +kernel
theorem dX4_init_9 : decode cX4_init 9 = .ok (.invokespecial 11, 3) := by decide +kernel
theorem dX4_init_12 : decode cX4_init 12 = .ok (.putfield 12, 3) := by decide +kernel
theorem dX4_init_15 : decode cX4_init 15 = .ok (.aload_n 0, 1) := by decide +kernel
theorem dX4_init_16 : decode cX4_init 16 = .ok (.new 9, 3) := by decide +kernel
theorem dX4_init_19 : decode cX4_init 19 = .ok (.dup, 1) := by decide +kernel
theorem dX4_init_20 : decode cX4_init 20 = .ok (.invokespecial 11, 3) := by decide +kernel
theorem dX4_init_23 : decode cX4_init 23 = .ok (.putfield 16, 3) := by decide +kernel
theorem dX4_init_26 : decode cX4_init 26 = .ok (.aload_n 0, 1) := by decide +kernel
theorem dX4_init_27 : decode cX4_init 27 = .ok (.new 9, 3) := by decide +kernel
theorem dX4_init_30 : decode cX4_init 30 = .ok (.dup, 1) := by decide +kernel
theorem dX4_init_31 : decode cX4_init 31 = .ok (.invokespecial 11, 3) := by decide +kernel
theorem dX4_init_34 : decode cX4_init 34 = .ok (.putfield 19, 3) := by decide +kernel
theorem dX4_init_37 : decode cX4_init 37 = .ok (.aload_n 0, 1) := by decide +kernel
theorem dX4_init_38 : decode cX4_init 38 = .ok (.new 22, 3) := by decide +kernel
theorem dX4_init_41 : decode cX4_init 41 = .ok (.dup, 1) := by decide +kernel
theorem dX4_init_42 : decode cX4_init 42 = .ok (.invokespecial 24, 3) := by decide +kernel
theorem dX4_init_45 : decode cX4_init 45 = .ok (.putfield 25, 3) := by decide +kernel
theorem dX4_init_48 : decode cX4_init 48 = .ok (.aload_n 0, 1) := by decide +kernel
theorem dX4_init_49 : decode cX4_init 49 = .ok (.new 29, 3) := by decide +kernel
theorem dX4_init_52 : decode cX4_init 52 = .ok (.dup, 1) := by decide +kernel
theorem dX4_init_53 : decode cX4_init 53 = .ok (.aload_n 0, 1) := by decide +kernel
theorem dX4_init_54 : decode cX4_init 54 = .ok (.getfield 25, 3) := by decide +kernel
theorem dX4_init_57 : decode cX4_init 57 = .ok (.invokespecial 31, 3) := by decide +kernel
theorem dX4_init_60 : decode cX4_init 60 = .ok (.putfield 34, 3) := by decide +kernel
theorem dX4_init_63 : decode cX4_init 63 = .ok (.aload_n 0, 1) := by decide +kernel
theorem dX4_init_64 : decode cX4_init 64 = .ok (.iconst 4, 1) := by decide +kernel
theorem dX4_init_65 : decode cX4_init 65 = .ok (.anewarray 38, 3) := by decide +kernel
theorem dX4_init_68 : decode cX4_init 68 = .ok (.putfield 40, 3) := by decide +kernel
theorem dX4_init_71 : decode cX4_init 71 = .ok (.aload_n 0, 1) := by decide +kernel
theorem dX4_init_72 : decode cX4_init 72 = .ok (.bipush 7, 2) := by decide +kernel
theorem dX4_init_74 : decode cX4_init 74 = .ok (.newarray .int, 2) := by decide +kernel
theorem dX4_init_76 : decode cX4_init 76 = .ok (.putfield 44, 3) := by decide +kernel
theorem dX4_init_79 : decode cX4_init 79 = .ok (.iconst 0, 1) := by decide +kernel
theorem dX4_init_80 : decode cX4_init 80 = .ok (.istore_n 1, 1) := by decide +kernel
theorem dX4_init_81 : decode cX4_init 81 = .ok (.iload_n 1, 1) := by decide +kernel
theorem dX4_init_82 : decode cX4_init 82 = .ok (.iconst 4, 1) := by decide +kernel
theorem dX4_init_83 : decode cX4_init 83 = .ok (.if_icmp .ge 22, 3) := by decide +kernel
theorem dX4_init_86 : decode cX4_init 86 = .ok (.aload_n 0, 1) := by decide +kernel
theorem dX4_init_87 : decode cX4_init 87 = .ok (.getfield 40, 3) := by decide +kernel
theorem dX4_init_90 : decode cX4_init 90 = .ok (.iload_n 1, 1) := by decide +kernel
theorem dX4_init_91 : decode cX4_init 91 = .ok (.new 38, 3) := by decide +kernel
theorem dX4_init_94 : decode cX4_init 94 = .ok (.dup, 1) := by decide +kernel
theorem dX4_init_95 : decode cX4_init 95 = .ok (.invokespecial 48, 3) := by decide +kernel
theorem dX4_init_98 : decode cX4_init 98 = .ok (.aastore, 1) := by decide +kernel
theorem dX4_init_99 : decode cX4_init 99 = .ok (.iinc 1 1, 3) := by decide +kernel
theorem dX4_init_102 : decode cX4_init 102 = .ok (.goto (-21), 3) := by decide +kernel
theorem dX4_init_105 : decode cX4_init 105 = .ok (.return_, 1) := by decide +kernel
theorem dX4_roots_0 : decode cX4_roots 0 = .ok (.iload_n 1, 1) := by decide +kernel
theorem dX4_roots_1 : decode cX4_roots 1 = .ok (.iconst 0, 1) := by decide +kernel
theorem dX4_roots_2 : decode cX4_roots 2 = .ok (.ldc 49, 2) := by decide +kernel
theorem dX4_roots_4 : decode cX4_roots 4 = .ok (.invokestatic 50, 3) := by decide +kernel
theorem dX4_roots_7 : decode cX4_roots 7 = .ok (.ifCond .ne 10, 3) := by decide +kernel
theorem dX4_roots_10 : decode cX4_roots 10 = .ok (.aload_n 0, 1) := by decide +kernel
theorem dX4_roots_11 : decode cX4_roots 11 = .ok (.ldc 54, 2) := by decide +kernel
theorem dX4_roots_13 : decode cX4_roots 13 = .ok (.invokevirtual 55, 3) := by decide +kernel
theorem dX4_roots_16 : decode cX4_roots 16 = .ok (.ireturn, 1) := by decide +kernel
theorem dX4_roots_17 : decode cX4_roots 17 = .ok (.aload_n 0, 1) := by decide +kernel
theorem dX4_roots_18 : decode cX4_roots 18 = .ok (.getfield 12, 3) := by decide +kernel
theorem dX4_roots_21 : decode cX4_roots 21 = .ok (.getfield 59, 3) := by decide +kernel
theorem dX4_roots_24 : decode cX4_roots 24 = .ok (.istore_n 2, 1) := by decide +kernel
theorem dX4_roots_25 : decode cX4_roots 25 = .ok (.aload_n 0, 1) := by decide +kernel
theorem dX4_roots_26 : decode cX4_roots 26 = .ok (.getfield 12, 3) := by decide +kernel
theorem dX4_roots_29 : decode cX4_roots 29 = .ok (.iload_n 1, 1) := by decide +kernel
theorem dX4_roots_30 : decode cX4_roots 30 = .ok (.putfield 59, 3) := by decide +kernel
theorem dX4_roots_33 : decode cX4_roots 33 = .ok (.iload_n 2, 1) := by decide +kernel
theorem dX4_roots_34 : decode cX4_roots 34 = .ok (.ireturn, 1) := by decide +kernel
theorem dX4_lantern_0 : decode cX4_lantern 0 = .ok (.iload_n 1, 1) := by decide +kernel
theorem dX4_lantern_1 : decode cX4_lantern 1 = .ok (.iconst (-1), 1) := by decide +kernel
theorem dX4_lantern_2 : decode cX4_lantern 2 = .ok (.if_icmp .eq 21, 3) := by decide +kernel
theorem dX4_lantern_5 : decode cX4_lantern 5 = .ok (.aload_n 0, 1) := by decide +kernel
theorem dX4_lantern_6 : decode cX4_lantern 6 = .ok (.getfield 12, 3) := by decide +kernel
theorem dX4_lantern_9 : decode cX4_lantern 9 = .ok (.iload_n 1, 1) := by decide +kernel
theorem dX4_lantern_10 : decode cX4_lantern 10 = .ok (.invokevirtual 63, 3) := by decide +kernel
theorem dX4_lantern_13 : decode cX4_lantern 13 = .ok (.ifCond .ne 10, 3) := by decide +kernel
theorem dX4_lantern_16 : decode cX4_lantern 16 = .ok (.aload_n 0, 1) := by decide +kernel
theorem dX4_lantern_17 : decode cX4_lantern 17 = .ok (.ldc 54, 2) := by decide +kernel
theorem dX4_lantern_19 : decode cX4_lantern 19 = .ok (.invokevirtual 55, 3) := by decide +kernel
theorem dX4_lantern_22 : decode cX4_lantern 22 = .ok (.ireturn, 1) := by decide +kernel
theorem dX4_lantern_23 : decode cX4_lantern 23 = .ok (.aload_n 0, 1) := by decide +kernel
theorem dX4_lantern_24 : decode cX4_lantern 24 = .ok (.getfield 12, 3) := by decide +kernel
theorem dX4_lantern_27 : decode cX4_lantern 27 = .ok (.getfield 67, 3) := by decide +kernel
theorem dX4_lantern_30 : decode cX4_lantern 30 = .ok (.istore_n 2, 1) := by decide +kernel
theorem dX4_lantern_31 : decode cX4_lantern 31 = .ok (.aload_n 0, 1) := by decide +kernel
theorem dX4_lantern_32 : decode cX4_lantern 32 = .ok (.getfield 12, 3) := by decide +kernel
theorem dX4_lantern_35 : decode cX4_lantern 35 = .ok (.iload_n 1, 1) := by decide +kernel
theorem dX4_lantern_36 : decode cX4_lantern 36 = .ok (.putfield 67, 3) := by decide +kernel
theorem dX4_lantern_39 : decode cX4_lantern 39 = .ok (.iload_n 2, 1) := by decide +kernel
theorem dX4_lantern_40 : decode cX4_lantern 40 = .ok (.ireturn, 1) := by decide +kernel
theorem dX4_bright_0 : decode cX4_bright 0 = .ok (.iload_n 1, 1) := by decide +kernel
theorem dX4_bright_1 : decode cX4_bright 1 = .ok (.iconst 0, 1) := by decide +kernel
theorem dX4_bright_2 : decode cX4_bright 2 = .ok (.bipush 9, 2) := by decide +kernel
theorem dX4_bright_4 : decode cX4_bright 4 = .ok (.invokestatic 50, 3) := by decide +kernel
theorem dX4_bright_7 : decode cX4_bright 7 = .ok (.ifCond .ne 10, 3) := by decide +kernel
theorem dX4_bright_10 : decode cX4_bright 10 = .ok (.aload_n 0, 1) := by decide +kernel
theorem dX4_bright_11 : decode cX4_bright 11 = .ok (.ldc 54, 2) := by decide +kernel
theorem dX4_bright_13 : decode cX4_bright 13 = .ok (.invokevirtual 55, 3) := by decide +kernel
theorem dX4_bright_16 : decode cX4_bright 16 = .ok (.ireturn, 1) := by decide +kernel
theorem dX4_bright_17 : decode cX4_bright 17 = .ok (.aload_n 0, 1) := by decide +kernel
theorem dX4_bright_18 : decode cX4_bright 18 = .ok (.getfield 12, 3) := by decide +kernel
theorem dX4_bright_21 : decode cX4_bright 21 = .ok (.getfield 70, 3) := by decide +kernel
theorem dX4_bright_24 : decode cX4_bright 24 = .ok (.istore_n 2, 1) := by decide +kernel
theorem dX4_bright_25 : decode cX4_bright 25 = .ok (.aload_n 0, 1) := by decide +kernel
theorem dX4_bright_26 : decode cX4_bright 26 = .ok (.getfield 12, 3) := by decide +kernel
theorem dX4_bright_29 : decode cX4_bright 29 = .ok (.iload_n 1, 1) := by decide +kernel
theorem dX4_bright_30 : decode cX4_bright 30 = .ok (.putfield 70, 3) := by decide +kernel
theorem dX4_bright_33 : decode cX4_bright 33 = .ok (.iload_n 2, 1) := by decide +kernel
theorem dX4_bright_34 : decode cX4_bright 34 = .ok (.ireturn, 1) := by decide +kernel
theorem dX4_now_0 : decode cX4_now 0 = .ok (.iload_n 1, 1) := by decide +kernel
theorem dX4_now_1 : decode cX4_now 1 = .ok (.tableswitch 111 0 7 #[47, 55, 63, 71, 79, 87, 95, 103], 47) := by decide +kernel
theorem dX4_now_48 : decode cX4_now 48 = .ok (.aload_n 0, 1) := by decide +kernel
theorem dX4_now_49 : decode cX4_now 49 = .ok (.getfield 12, 3) := by decide +kernel
theorem dX4_now_52 : decode cX4_now 52 = .ok (.getfield 73, 3) := by decide +kernel
theorem dX4_now_55 : decode cX4_now 55 = .ok (.ireturn, 1) := by decide +kernel
theorem dX4_now_56 : decode cX4_now 56 = .ok (.aload_n 0, 1) := by decide +kernel
theorem dX4_now_57 : decode cX4_now 57 = .ok (.getfield 12, 3) := by decide +kernel
theorem dX4_now_60 : decode cX4_now 60 = .ok (.getfield 59, 3) := by decide +kernel
theorem dX4_now_63 : decode cX4_now 63 = .ok (.ireturn, 1) := by decide +kernel
theorem dX4_now_64 : decode cX4_now 64 = .ok (.aload_n 0, 1) := by decide +kernel
theorem dX4_now_65 : decode cX4_now 65 = .ok (.getfield 12, 3) := by decide +kernel
theorem dX4_now_68 : decode cX4_now 68 = .ok (.getfield 67, 3) := by decide +kernel
theorem dX4_now_71 : decode cX4_now 71 = .ok (.ireturn, 1) := by decide +kernel
theorem dX4_now_72 : decode cX4_now 72 = .ok (.aload_n 0, 1) := by decide +kernel
theorem dX4_now_73 : decode cX4_now 73 = .ok (.getfield 12, 3) := by decide +kernel
theorem dX4_now_76 : decode cX4_now 76 = .ok (.getfield 70, 3) := by decide +kernel
theorem dX4_now_79 : decode cX4_now 79 = .ok (.ireturn, 1) := by decide +kernel
theorem dX4_now_80 : decode cX4_now 80 = .ok (.aload_n 0, 1) := by decide +kernel
theorem dX4_now_81 : decode cX4_now 81 = .ok (.getfield 12, 3) := by decide +kernel
theorem dX4_now_84 : decode cX4_now 84 = .ok (.invokevirtual 76, 3) := by decide +kernel
theorem dX4_now_87 : decode cX4_now 87 = .ok (.ireturn, 1) := by decide +kernel
theorem dX4_now_88 : decode cX4_now 88 = .ok (.aload_n 0, 1) := by decide +kernel
theorem dX4_now_89 : decode cX4_now 89 = .ok (.getfield 12, 3) := by decide +kernel
theorem dX4_now_92 : decode cX4_now 92 = .ok (.invokevirtual 80, 3) := by decide +kernel
theorem dX4_now_95 : decode cX4_now 95 = .ok (.ireturn, 1) := by decide +kernel
theorem dX4_now_96 : decode cX4_now 96 = .ok (.aload_n 0, 1) := by decide +kernel
theorem dX4_now_97 : decode cX4_now 97 = .ok (.getfield 12, 3) := by decide +kernel
theorem dX4_now_100 : decode cX4_now 100 = .ok (.invokevirtual 83, 3) := by decide +kernel
theorem dX4_now_103 : decode cX4_now 103 = .ok (.ireturn, 1) := by decide +kernel
theorem dX4_now_104 : decode cX4_now 104 = .ok (.aload_n 0, 1) := by decide +kernel
theorem dX4_now_105 : decode cX4_now 105 = .ok (.getfield 12, 3) := by decide +kernel
theorem dX4_now_108 : decode cX4_now 108 = .ok (.invokevirtual 86, 3) := by decide +kernel
theorem dX4_now_111 : decode cX4_now 111 = .ok (.ireturn, 1) := by decide +kernel
theorem dX4_now_112 : decode cX4_now 112 = .ok (.aload_n 0, 1) := by decide +kernel
theorem dX4_now_113 : decode cX4_now 113 = .ok (.ldc 54, 2) := by decide +kernel
theorem dX4_now_115 : decode cX4_now 115 = .ok (.invokevirtual 55, 3) := by decide +kernel
theorem dX4_now_118 : decode cX4_now 118 = .ok (.ireturn, 1) := by decide +kernel
theorem dX4_walker_0 : decode cX4_walker 0 = .ok (.iload_n 1, 1) := by decide +kernel
theorem dX4_walker_1 : decode cX4_walker 1 = .ok (.invokestatic 89, 3) := by decide +kernel
theorem dX4_walker_4 : decode cX4_walker 4 = .ok (.ifCond .ne 10, 3) := by decide +kernel
theorem dX4_walker_7 : decode cX4_walker 7 = .ok (.aload_n 0, 1) := by decide +kernel
theorem dX4_walker_8 : decode cX4_walker 8 = .ok (.ldc 54, 2) := by decide +kernel
theorem dX4_walker_10 : decode cX4_walker 10 = .ok (.invokevirtual 55, 3) := by decide +kernel
theorem dX4_walker_13 : decode cX4_walker 13 = .ok (.ireturn, 1) := by decide +kernel
theorem dX4_walker_14 : decode cX4_walker 14 = .ok (.aload_n 0, 1) := by decide +kernel
theorem dX4_walker_15 : decode cX4_walker 15 = .ok (.getfield 12, 3) := by decide +kernel
theorem dX4_walker_18 : decode cX4_walker 18 = .ok (.invokevirtual 92, 3) := by decide +kernel
theorem dX4_walker_21 : decode cX4_walker 21 = .ok (.ifCond .eq 10, 3) := by decide +kernel
theorem dX4_walker_24 : decode cX4_walker 24 = .ok (.aload_n 0, 1) := by decide +kernel
theorem dX4_walker_25 : decode cX4_walker 25 = .ok (.ldc 96, 2) := by decide +kernel
theorem dX4_walker_27 : decode cX4_walker 27 = .ok (.invokevirtual 55, 3) := by decide +kernel
theorem dX4_walker_30 : decode cX4_walker 30 = .ok (.ireturn, 1) := by decide +kernel
theorem dX4_walker_31 : decode cX4_walker 31 = .ok (.aload_n 0, 1) := by decide +kernel
theorem dX4_walker_32 : decode cX4_walker 32 = .ok (.getfield 12, 3) := by decide +kernel
theorem dX4_walker_35 : decode cX4_walker 35 = .ok (.iload_n 1, 1) := by decide +kernel
theorem dX4_walker_36 : decode cX4_walker 36 = .ok (.invokevirtual 97, 3) := by decide +kernel
theorem dX4_walker_39 : decode cX4_walker 39 = .ok (.aload_n 0, 1) := by decide +kernel
theorem dX4_walker_40 : decode cX4_walker 40 = .ok (.getfield 12, 3) := by decide +kernel
theorem dX4_walker_43 : decode cX4_walker 43 = .ok (.getfield 101, 3) := by decide +kernel
theorem dX4_walker_46 : decode cX4_walker 46 = .ok (.iconst 1, 1) := by decide +kernel
theorem dX4_walker_47 : decode cX4_walker 47 = .ok (.isub, 1) := by decide +kernel
theorem dX4_walker_48 : decode cX4_walker 48 = .ok (.ireturn, 1) := by decide +kernel
theorem dX4_of_0 : decode cX4_of 0 = .ok (.aload_n 0, 1) := by decide +kernel
theorem dX4_of_1 : decode cX4_of 1 = .ok (.getfield 12, 3) := by decide +kernel
theorem dX4_of_4 : decode cX4_of 4 = .ok (.iload_n 1, 1) := by decide +kernel
theorem dX4_of_5 : decode cX4_of 5 = .ok (.invokevirtual 63, 3) := by decide +kernel
theorem dX4_of_8 : decode cX4_of 8 = .ok (.ifCond .ne 10, 3) := by decide +kernel
theorem dX4_of_11 : decode cX4_of 11 = .ok (.aload_n 0, 1) := by decide +kernel
theorem dX4_of_12 : decode cX4_of 12 = .ok (.ldc 54, 2) := by decide +kernel
theorem dX4_of_14 : decode cX4_of 14 = .ok (.invokevirtual 55, 3) := by decide +kernel
theorem dX4_of_17 : decode cX4_of 17 = .ok (.ireturn, 1) := by decide +kernel
theorem dX4_of_18 : decode cX4_of 18 = .ok (.iload_n 2, 1) := by decide +kernel
theorem dX4_of_19 : decode cX4_of 19 = .ok (.tableswitch 144 0 7 #[45, 55, 64, 74, 84, 94, 107, 127], 45) := by decide +kernel
theorem dX4_of_64 : decode cX4_of 64 = .ok (.aload_n 0, 1) := by decide +kernel
theorem dX4_of_65 : decode cX4_of 65 = .ok (.getfield 12, 3) := by decide +kernel
theorem dX4_of_68 : decode cX4_of 68 = .ok (.getfield 104, 3) := by decide +kernel
theorem dX4_of_71 : decode cX4_of 71 = .ok (.iload_n 1, 1) := by decide +kernel
theorem dX4_of_72 : decode cX4_of 72 = .ok (.iaload, 1) := by decide +kernel
theorem dX4_of_73 : decode cX4_of 73 = .ok (.ireturn, 1) := by decide +kernel
theorem dX4_of_74 : decode cX4_of 74 = .ok (.aload_n 0, 1) := by decide +kernel
theorem dX4_of_75 : decode cX4_of 75 = .ok (.getfield 12, 3) := by decide +kernel
theorem dX4_of_78 : decode cX4_of 78 = .ok (.iload_n 1, 1) := by decide +kernel
theorem dX4_of_79 : decode cX4_of 79 = .ok (.invokevirtual 107, 3) := by decide +kernel
theorem dX4_of_82 : decode cX4_of 82 = .ok (.ireturn, 1) := by decide +kernel
theorem dX4_of_83 : decode cX4_of 83 = .ok (.aload_n 0, 1) := by decide +kernel
theorem dX4_of_84 : decode cX4_of 84 = .ok (.getfield 12, 3) := by decide +kernel
theorem dX4_of_87 : decode cX4_of 87 = .ok (.getfield 110, 3) := by decide +kernel
theorem dX4_of_90 : decode cX4_of 90 = .ok (.iload_n 1, 1) := by decide +kernel
theorem dX4_of_91 : decode cX4_of 91 = .ok (.iaload, 1) := by decide +kernel
theorem dX4_of_92 : decode cX4_of 92 = .ok (.ireturn, 1) := by decide +kernel
theorem dX4_of_93 : decode cX4_of 93 = .ok (.aload_n 0, 1) := by decide +kernel
theorem dX4_of_94 : decode cX4_of 94 = .ok (.getfield 12, 3) := by decide +kernel
theorem dX4_of_97 : decode cX4_of 97 = .ok (.getfield 113, 3) := by decide +kernel
theorem dX4_of_100 : decode cX4_of 100 = .ok (.iload_n 1, 1) := by decide +kernel
theorem dX4_of_101 : decode cX4_of 101 = .ok (.iaload, 1) := by decide +kernel
theorem dX4_of_102 : decode cX4_of 102 = .ok (.ireturn, 1) := by decide +kernel
theorem dX4_of_103 : decode cX4_of 103 = .ok (.aload_n 0, 1) := by decide +kernel
theorem dX4_of_104 : decode cX4_of 104 = .ok (.getfield 12, 3) := by decide +kernel
theorem dX4_of_107 : decode cX4_of 107 = .ok (.getfield 116, 3) := by decide +kernel
theorem dX4_of_110 : decode cX4_of 110 = .ok (.iload_n 1, 1) := by decide +kernel
theorem dX4_of_111 : decode cX4_of 111 = .ok (.iaload, 1) := by decide +kernel
theorem dX4_of_112 : decode cX4_of 112 = .ok (.ireturn, 1) := by decide +kernel
theorem dX4_of_113 : decode cX4_of 113 = .ok (.aload_n 0, 1) := by decide +kernel
theorem dX4_of_114 : decode cX4_of 114 = .ok (.getfield 12, 3) := by decide +kernel
theorem dX4_of_117 : decode cX4_of 117 = .ok (.getfield 104, 3) := by decide +kernel
theorem dX4_of_120 : decode cX4_of 120 = .ok (.iload_n 1, 1) := by decide +kernel
theorem dX4_of_121 : decode cX4_of 121 = .ok (.iaload, 1) := by decide +kernel
theorem dX4_of_122 : decode cX4_of 122 = .ok (.invokestatic 119, 3) := by decide +kernel
theorem dX4_of_125 : decode cX4_of 125 = .ok (.ireturn, 1) := by decide +kernel
theorem dX4_of_126 : decode cX4_of 126 = .ok (.aload_n 0, 1) := by decide +kernel
theorem dX4_of_127 : decode cX4_of 127 = .ok (.getfield 12, 3) := by decide +kernel
theorem dX4_of_130 : decode cX4_of 130 = .ok (.invokevirtual 122, 3) := by decide +kernel
theorem dX4_of_133 : decode cX4_of 133 = .ok (.iload_n 1, 1) := by decide +kernel
theorem dX4_of_134 : decode cX4_of 134 = .ok (.invokestatic 125, 3) := by decide +kernel
theorem dX4_of_137 : decode cX4_of 137 = .ok (.ifCond .eq 7, 3) := by decide +kernel
theorem dX4_of_140 : decode cX4_of 140 = .ok (.iconst 1, 1) := by decide +kernel
theorem dX4_of_141 : decode cX4_of 141 = .ok (.goto 4, 3) := by decide +kernel
theorem dX4_of_144 : decode cX4_of 144 = .ok (.iconst 0, 1) := by decide +kernel
theorem dX4_of_145 : decode cX4_of 145 = .ok (.ireturn, 1) := by decide +kernel
theorem dX4_of_146 : decode cX4_of 146 = .ok (.aload_n 0, 1) := by decide +kernel
theorem dX4_of_147 : decode cX4_of 147 = .ok (.getfield 12, 3) := by decide +kernel
theorem dX4_of_150 : decode cX4_of 150 = .ok (.iload_n 1, 1) := by decide +kernel
theorem dX4_of_151 : decode cX4_of 151 = .ok (.invokevirtual 129, 3) := by decide +kernel
theorem dX4_of_154 : decode cX4_of 154 = .ok (.ifCond .eq 7, 3) := by decide +kernel
theorem dX4_of_157 : decode cX4_of 157 = .ok (.iconst 1, 1) := by decide +kernel
theorem dX4_of_158 : decode cX4_of 158 = .ok (.goto 4, 3) := by decide +kernel
theorem dX4_of_161 : decode cX4_of 161 = .ok (.iconst 0, 1) := by decide +kernel
theorem dX4_of_162 : decode cX4_of 162 = .ok (.ireturn, 1) := by decide +kernel
theorem dX4_of_163 : decode cX4_of 163 = .ok (.aload_n 0, 1) := by decide +kernel
theorem dX4_of_164 : decode cX4_of 164 = .ok (.ldc 54, 2) := by decide +kernel
theorem dX4_of_166 : decode cX4_of 166 = .ok (.invokevirtual 55, 3) := by decide +kernel
theorem dX4_of_169 : decode cX4_of 169 = .ok (.ireturn, 1) := by decide +kernel
theorem dX4_set_0 : decode cX4_set 0 = .ok (.aload_n 0, 1) := by decide +kernel
theorem dX4_set_1 : decode cX4_set 1 = .ok (.getfield 12, 3) := by decide +kernel
theorem dX4_set_4 : decode cX4_set 4 = .ok (.iload_n 1, 1) := by decide +kernel
theorem dX4_set_5 : decode cX4_set 5 = .ok (.invokevirtual 63, 3) := by decide +kernel
theorem dX4_set_8 : decode cX4_set 8 = .ok (.ifCond .ne 10, 3) := by decide +kernel
theorem dX4_set_11 : decode cX4_set 11 = .ok (.aload_n 0, 1) := by decide +kernel
theorem dX4_set_12 : decode cX4_set 12 = .ok (.ldc 54, 2) := by decide +kernel
theorem dX4_set_14 : decode cX4_set 14 = .ok (.invokevirtual 55, 3) := by decide +kernel
theorem dX4_set_17 : decode cX4_set 17 = .ok (.ireturn, 1) := by decide +kernel
theorem dX4_set_18 : decode cX4_set 18 = .ok (.iload_n 2, 1) := by decide +kernel
theorem dX4_set_19 : decode cX4_set 19 = .ok (.tableswitch 73 2 4 #[25, 40, 57], 25) := by decide +kernel
theorem dX4_set_44 : decode cX4_set 44 = .ok (.aload_n 0, 1) := by decide +kernel
theorem dX4_set_45 : decode cX4_set 45 = .ok (.aload_n 0, 1) := by decide +kernel
theorem dX4_set_46 : decode cX4_set 46 = .ok (.getfield 12, 3) := by decide +kernel
theorem dX4_set_49 : decode cX4_set 49 = .ok (.getfield 110, 3) := by decide +kernel
theorem dX4_set_52 : decode cX4_set 52 = .ok (.iload_n 1, 1) := by decide +kernel
theorem dX4_set_53 : decode cX4_set 53 = .ok (.iload_n 3, 1) := by decide +kernel
theorem dX4_set_54 : decode cX4_set 54 = .ok (.iconst 1, 1) := by decide +kernel
theorem dX4_set_55 : decode cX4_set 55 = .ok (.invokevirtual 132, 3) := by decide +kernel
theorem dX4_set_58 : decode cX4_set 58 = .ok (.ireturn, 1) := by decide +kernel
theorem dX4_set_59 : decode cX4_set 59 = .ok (.aload_n 0, 1) := by decide +kernel
theorem dX4_set_60 : decode cX4_set 60 = .ok (.aload_n 0, 1) := by decide +kernel
theorem dX4_set_61 : decode cX4_set 61 = .ok (.getfield 12, 3) := by decide +kernel
theorem dX4_set_64 : decode cX4_set 64 = .ok (.getfield 113, 3) := by decide +kernel
theorem dX4_set_67 : decode cX4_set 67 = .ok (.iload_n 1, 1) := by decide +kernel
theorem dX4_set_68 : decode cX4_set 68 = .ok (.iload_n 3, 1) := by decide +kernel
theorem dX4_set_69 : decode cX4_set 69 = .ok (.sipush 9999, 3) := by decide +kernel
theorem dX4_set_72 : decode cX4_set 72 = .ok (.invokevirtual 132, 3) := by decide +kernel
theorem dX4_set_75 : decode cX4_set 75 = .ok (.ireturn, 1) := by decide +kernel
theorem dX4_set_76 : decode cX4_set 76 = .ok (.aload_n 0, 1) := by decide +kernel
theorem dX4_set_77 : decode cX4_set 77 = .ok (.aload_n 0, 1) := by decide +kernel
theorem dX4_set_78 : decode cX4_set 78 = .ok (.getfield 12, 3) := by decide +kernel
theorem dX4_set_81 : decode cX4_set 81 = .ok (.getfield 116, 3) := by decide +kernel
theorem dX4_set_84 : decode cX4_set 84 = .ok (.iload_n 1, 1) := by decide +kernel
theorem dX4_set_85 : decode cX4_set 85 = .ok (.iload_n 3, 1) := by decide +kernel
theorem dX4_set_86 : decode cX4_set 86 = .ok (.bipush 99, 2) := by decide +kernel
theorem dX4_set_88 : decode cX4_set 88 = .ok (.invokevirtual 132, 3) := by decide +kernel
theorem dX4_set_91 : decode cX4_set 91 = .ok (.ireturn, 1) := by decide +kernel
theorem dX4_set_92 : decode cX4_set 92 = .ok (.aload_n 0, 1) := by decide +kernel
theorem dX4_set_93 : decode cX4_set 93 = .ok (.ldc 54, 2) := by decide +kernel
theorem dX4_set_95 : decode cX4_set 95 = .ok (.invokevirtual 55, 3) := by decide +kernel
theorem dX4_set_98 : decode cX4_set 98 = .ok (.ireturn, 1) := by decide +kernel
theorem dX4_swap_0 : decode cX4_swap 0 = .ok (.aload_n 0, 1) := by decide +kernel
theorem dX4_swap_1 : decode cX4_swap 1 = .ok (.getfield 12, 3) := by decide +kernel
theorem dX4_swap_4 : decode cX4_swap 4 = .ok (.iload_n 1, 1) := by decide +kernel
theorem dX4_swap_5 : decode cX4_swap 5 = .ok (.invokevirtual 63, 3) := by decide +kernel
theorem dX4_swap_8 : decode cX4_swap 8 = .ok (.ifCond .eq 19, 3) := by decide +kernel
theorem dX4_swap_11 : decode cX4_swap 11 = .ok (.aload_n 0, 1) := by decide +kernel
theorem dX4_swap_12 : decode cX4_swap 12 = .ok (.getfield 12, 3) := by decide +kernel
theorem dX4_swap_15 : decode cX4_swap 15 = .ok (.iload_n 2, 1) := by decide +kernel
theorem dX4_swap_16 : decode cX4_swap 16 = .ok (.invokevirtual 63, 3) := by decide +kernel
theorem dX4_swap_19 : decode cX4_swap 19 = .ok (.ifCond .eq 8, 3) := by decide +kernel
theorem dX4_swap_22 : decode cX4_swap 22 = .ok (.iload_n 1, 1) := by decide +kernel
theorem dX4_swap_23 : decode cX4_swap 23 = .ok (.iload_n 2, 1) := by decide +kernel
theorem dX4_swap_24 : decode cX4_swap 24 = .ok (.if_icmp .ne 10, 3) := by decide +kernel
theorem dX4_swap_27 : decode cX4_swap 27 = .ok (.aload_n 0, 1) := by decide +kernel
theorem dX4_swap_28 : decode cX4_swap 28 = .ok (.ldc 54, 2) := by decide +kernel
theorem dX4_swap_30 : decode cX4_swap 30 = .ok (.invokevirtual 55, 3) := by decide +kernel
theorem dX4_swap_33 : decode cX4_swap 33 = .ok (.ireturn, 1) := by decide +kernel
theorem dX4_swap_34 : decode cX4_swap 34 = .ok (.aload_n 0, 1) := by decide +kernel
theorem dX4_swap_35 : decode cX4_swap 35 = .ok (.getfield 12, 3) := by decide +kernel
theorem dX4_swap_38 : decode cX4_swap 38 = .ok (.iload_n 1, 1) := by decide +kernel
theorem dX4_swap_39 : decode cX4_swap 39 = .ok (.iload_n 2, 1) := by decide +kernel
theorem dX4_swap_40 : decode cX4_swap 40 = .ok (.invokevirtual 136, 3) := by decide +kernel
theorem dX4_swap_43 : decode cX4_swap 43 = .ok (.iconst 1, 1) := by decide +kernel
theorem dX4_swap_44 : decode cX4_swap 44 = .ok (.ireturn, 1) := by decide +kernel
theorem dX4_turn_0 : decode cX4_turn 0 = .ok (.aload_n 0, 1) := by decide +kernel
theorem dX4_turn_1 : decode cX4_turn 1 = .ok (.getfield 12, 3) := by decide +kernel
theorem dX4_turn_4 : decode cX4_turn 4 = .ok (.iload_n 1, 1) := by decide +kernel
theorem dX4_turn_5 : decode cX4_turn 5 = .ok (.invokevirtual 63, 3) := by decide +kernel
theorem dX4_turn_8 : decode cX4_turn 8 = .ok (.ifCond .eq 10, 3) := by decide +kernel
theorem dX4_turn_11 : decode cX4_turn 11 = .ok (.iload_n 2, 1) := by decide +kernel
theorem dX4_turn_12 : decode cX4_turn 12 = .ok (.invokestatic 89, 3) := by decide +kernel
theorem dX4_turn_15 : decode cX4_turn 15 = .ok (.ifCond .ne 10, 3) := by decide +kernel
theorem dX4_turn_18 : decode cX4_turn 18 = .ok (.aload_n 0, 1) := by decide +kernel
theorem dX4_turn_19 : decode cX4_turn 19 = .ok (.ldc 54, 2) := by decide +kernel
theorem dX4_turn_21 : decode cX4_turn 21 = .ok (.invokevirtual 55, 3) := by decide +kernel
theorem dX4_turn_24 : decode cX4_turn 24 = .ok (.ireturn, 1) := by decide +kernel
theorem dX4_turn_25 : decode cX4_turn 25 = .ok (.aload_n 0, 1) := by decide +kernel
theorem dX4_turn_26 : decode cX4_turn 26 = .ok (.getfield 12, 3) := by decide +kernel
theorem dX4_turn_29 : decode cX4_turn 29 = .ok (.getfield 104, 3) := by decide +kernel
theorem dX4_turn_32 : decode cX4_turn 32 = .ok (.iload_n 1, 1) := by decide +kernel
theorem dX4_turn_33 : decode cX4_turn 33 = .ok (.iaload, 1) := by decide +kernel
theorem dX4_turn_34 : decode cX4_turn 34 = .ok (.istore_n 3, 1) := by decide +kernel
theorem dX4_turn_35 : decode cX4_turn 35 = .ok (.aload_n 0, 1) := by decide +kernel
theorem dX4_turn_36 : decode cX4_turn 36 = .ok (.getfield 12, 3) := by decide +kernel
theorem dX4_turn_39 : decode cX4_turn 39 = .ok (.getfield 104, 3) := by decide +kernel
theorem dX4_turn_42 : decode cX4_turn 42 = .ok (.iload_n 1, 1) := by decide +kernel
theorem dX4_turn_43 : decode cX4_turn 43 = .ok (.iload_n 2, 1) := by decide +kernel
theorem dX4_turn_44 : decode cX4_turn 44 = .ok (.iastore, 1) := by decide +kernel
theorem dX4_turn_45 : decode cX4_turn 45 = .ok (.iload_n 3, 1) := by decide +kernel
theorem dX4_turn_46 : decode cX4_turn 46 = .ok (.ireturn, 1) := by decide +kernel
theorem dX4_as_0 : decode cX4_as 0 = .ok (.aload_n 0, 1) := by decide +kernel
theorem dX4_as_1 : decode cX4_as 1 = .ok (.getfield 12, 3) := by decide +kernel
theorem dX4_as_4 : decode cX4_as 4 = .ok (.iload_n 1, 1) := by decide +kernel
theorem dX4_as_5 : decode cX4_as 5 = .ok (.invokevirtual 63, 3) := by decide +kernel
theorem dX4_as_8 : decode cX4_as 8 = .ok (.ifCond .eq 10, 3) := by decide +kernel
theorem dX4_as_11 : decode cX4_as 11 = .ok (.iload_n 2, 1) := by decide +kernel
theorem dX4_as_12 : decode cX4_as 12 = .ok (.invokestatic 89, 3) := by decide +kernel
theorem dX4_as_15 : decode cX4_as 15 = .ok (.ifCond .ne 10, 3) := by decide +kernel
theorem dX4_as_18 : decode cX4_as 18 = .ok (.aload_n 0, 1) := by decide +kernel
theorem dX4_as_19 : decode cX4_as 19 = .ok (.ldc 54, 2) := by decide +kernel
theorem dX4_as_21 : decode cX4_as 21 = .ok (.invokevirtual 55, 3) := by decide +kernel
theorem dX4_as_24 : decode cX4_as 24 = .ok (.ireturn, 1) := by decide +kernel
theorem dX4_as_25 : decode cX4_as 25 = .ok (.aload_n 0, 1) := by decide +kernel
theorem dX4_as_26 : decode cX4_as 26 = .ok (.getfield 12, 3) := by decide +kernel
theorem dX4_as_29 : decode cX4_as 29 = .ok (.getfield 104, 3) := by decide +kernel
theorem dX4_as_32 : decode cX4_as 32 = .ok (.iload_n 1, 1) := by decide +kernel
theorem dX4_as_33 : decode cX4_as 33 = .ok (.iaload, 1) := by decide +kernel
theorem dX4_as_34 : decode cX4_as 34 = .ok (.iload_n 2, 1) := by decide +kernel
theorem dX4_as_35 : decode cX4_as 35 = .ok (.invokestatic 140, 3) := by decide +kernel
theorem dX4_as_38 : decode cX4_as 38 = .ok (.ifCond .ne 10, 3) := by decide +kernel
theorem dX4_as_41 : decode cX4_as 41 = .ok (.aload_n 0, 1) := by decide +kernel
theorem dX4_as_42 : decode cX4_as 42 = .ok (.ldc 143, 2) := by decide +kernel
theorem dX4_as_44 : decode cX4_as 44 = .ok (.invokevirtual 55, 3) := by decide +kernel
theorem dX4_as_47 : decode cX4_as 47 = .ok (.ireturn, 1) := by decide +kernel
theorem dX4_as_48 : decode cX4_as 48 = .ok (.aload_n 0, 1) := by decide +kernel
theorem dX4_as_49 : decode cX4_as 49 = .ok (.getfield 12, 3) := by decide +kernel
theorem dX4_as_52 : decode cX4_as 52 = .ok (.getfield 116, 3) := by decide +kernel
theorem dX4_as_55 : decode cX4_as 55 = .ok (.iload_n 1, 1) := by decide +kernel
theorem dX4_as_56 : decode cX4_as 56 = .ok (.iaload, 1) := by decide +kernel
theorem dX4_as_57 : decode cX4_as 57 = .ok (.ireturn, 1) := by decide +kernel
theorem dX4_steps_0 : decode cX4_steps 0 = .ok (.iload_n 1, 1) := by decide +kernel
theorem dX4_steps_1 : decode cX4_steps 1 = .ok (.iconst 1, 1) := by decide +kernel
theorem dX4_steps_2 : decode cX4_steps 2 = .ok (.sipush 200, 3) := by decide +kernel
theorem dX4_steps_5 : decode cX4_steps 5 = .ok (.invokestatic 50, 3) := by decide +kernel
theorem dX4_steps_8 : decode cX4_steps 8 = .ok (.ifCond .ne 10, 3) := by decide +kernel
theorem dX4_steps_11 : decode cX4_steps 11 = .ok (.aload_n 0, 1) := by decide +kernel
theorem dX4_steps_12 : decode cX4_steps 12 = .ok (.ldc 54, 2) := by decide +kernel
theorem dX4_steps_14 : decode cX4_steps 14 = .ok (.invokevirtual 55, 3) := by decide +kernel
theorem dX4_steps_17 : decode cX4_steps 17 = .ok (.ireturn, 1) := by decide +kernel
theorem dX4_steps_18 : decode cX4_steps 18 = .ok (.aload_n 0, 1) := by decide +kernel
theorem dX4_steps_19 : decode cX4_steps 19 = .ok (.getfield 12, 3) := by decide +kernel
theorem dX4_steps_22 : decode cX4_steps 22 = .ok (.getfield 73, 3) := by decide +kernel
theorem dX4_steps_25 : decode cX4_steps 25 = .ok (.ldc 144, 2) := by decide +kernel
theorem dX4_steps_27 : decode cX4_steps 27 = .ok (.iload_n 1, 1) := by decide +kernel
theorem dX4_steps_28 : decode cX4_steps 28 = .ok (.isub, 1) := by decide +kernel
theorem dX4_steps_29 : decode cX4_steps 29 = .ok (.if_icmp .le 10, 3) := by decide +kernel
theorem dX4_steps_32 : decode cX4_steps 32 = .ok (.aload_n 0, 1) := by decide +kernel
theorem dX4_steps_33 : decode cX4_steps 33 = .ok (.ldc 145, 2) := by decide +kernel
theorem dX4_steps_35 : decode cX4_steps 35 = .ok (.invokevirtual 55, 3) := by decide +kernel
theorem dX4_steps_38 : decode cX4_steps 38 = .ok (.ireturn, 1) := by decide +kernel
theorem dX4_steps_39 : decode cX4_steps 39 = .ok (.aload_n 0, 1) := by decide +kernel
theorem dX4_steps_40 : decode cX4_steps 40 = .ok (.getfield 12, 3) := by decide +kernel
theorem dX4_steps_43 : decode cX4_steps 43 = .ok (.iload_n 1, 1) := by decide +kernel
theorem dX4_steps_44 : decode cX4_steps 44 = .ok (.invokevirtual 146, 3) := by decide +kernel
theorem dX4_steps_47 : decode cX4_steps 47 = .ok (.aload_n 0, 1) := by decide +kernel
theorem dX4_steps_48 : decode cX4_steps 48 = .ok (.getfield 12, 3) := by decide +kernel
theorem dX4_steps_51 : decode cX4_steps 51 = .ok (.invokevirtual 86, 3) := by decide +kernel
theorem dX4_steps_54 : decode cX4_steps 54 = .ok (.ireturn, 1) := by decide +kernel
theorem dX4_on_0 : decode cX4_on 0 = .ok (.aload_n 0, 1) := by decide +kernel
theorem dX4_on_1 : decode cX4_on 1 = .ok (.getfield 12, 3) := by decide +kernel
theorem dX4_on_4 : decode cX4_on 4 = .ok (.iload_n 1, 1) := by decide +kernel
theorem dX4_on_5 : decode cX4_on 5 = .ok (.invokevirtual 63, 3) := by decide +kernel
theorem dX4_on_8 : decode cX4_on 8 = .ok (.ifCond .eq 23, 3) := by decide +kernel
theorem dX4_on_11 : decode cX4_on 11 = .ok (.iload_n 2, 1) := by decide +kernel
theorem dX4_on_12 : decode cX4_on 12 = .ok (.iconst 0, 1) := by decide +kernel
theorem dX4_on_13 : decode cX4_on 13 = .ok (.sipush 300, 3) := by decide +kernel
theorem dX4_on_16 : decode cX4_on 16 = .ok (.invokestatic 50, 3) := by decide +kernel
theorem dX4_on_19 : decode cX4_on 19 = .ok (.ifCond .eq 12, 3) := by decide +kernel
theorem dX4_on_22 : decode cX4_on 22 = .ok (.iload_n 3, 1) := by decide +kernel
theorem dX4_on_23 : decode cX4_on 23 = .ok (.iconst 0, 1) := by decide +kernel
theorem dX4_on_24 : decode cX4_on 24 = .ok (.iconst 2, 1) := by decide +kernel
theorem dX4_on_25 : decode cX4_on 25 = .ok (.invokestatic 50, 3) := by decide +kernel
theorem dX4_on_28 : decode cX4_on 28 = .ok (.ifCond .ne 10, 3) := by decide +kernel
theorem dX4_on_31 : decode cX4_on 31 = .ok (.aload_n 0, 1) := by decide +kernel
theorem dX4_on_32 : decode cX4_on 32 = .ok (.ldc 54, 2) := by decide +kernel
theorem dX4_on_34 : decode cX4_on 34 = .ok (.invokevirtual 55, 3) := by decide +kernel
theorem dX4_on_37 : decode cX4_on 37 = .ok (.ireturn, 1) := by decide +kernel
theorem dX4_on_38 : decode cX4_on 38 = .ok (.aload_n 0, 1) := by decide +kernel
theorem dX4_on_39 : decode cX4_on 39 = .ok (.invokevirtual 149, 3) := by decide +kernel
theorem dX4_on_42 : decode cX4_on 42 = .ok (.aload_n 0, 1) := by decide +kernel
theorem dX4_on_43 : decode cX4_on 43 = .ok (.getfield 16, 3) := by decide +kernel
theorem dX4_on_46 : decode cX4_on 46 = .ok (.iload_n 2, 1) := by decide +kernel
theorem dX4_on_47 : decode cX4_on 47 = .ok (.invokevirtual 146, 3) := by decide +kernel
theorem dX4_on_50 : decode cX4_on 50 = .ok (.iload_n 3, 1) := by decide +kernel
theorem dX4_on_51 : decode cX4_on 51 = .ok (.lookupswitch 45 #[(0, 25), (1, 35)], 25) := by decide +kernel
theorem dX4_on_76 : decode cX4_on 76 = .ok (.aload_n 0, 1) := by decide +kernel
theorem dX4_on_77 : decode cX4_on 77 = .ok (.getfield 16, 3) := by decide +kernel
theorem dX4_on_80 : decode cX4_on 80 = .ok (.getfield 110, 3) := by decide +kernel
theorem dX4_on_83 : decode cX4_on 83 = .ok (.iload_n 1, 1) := by decide +kernel
theorem dX4_on_84 : decode cX4_on 84 = .ok (.iaload, 1) := by decide +kernel
theorem dX4_on_85 : decode cX4_on 85 = .ok (.ireturn, 1) := by decide +kernel
theorem dX4_on_86 : decode cX4_on 86 = .ok (.aload_n 0, 1) := by decide +kernel
theorem dX4_on_87 : decode cX4_on 87 = .ok (.getfield 16, 3) := by decide +kernel
theorem dX4_on_90 : decode cX4_on 90 = .ok (.getfield 113, 3) := by decide +kernel
theorem dX4_on_93 : decode cX4_on 93 = .ok (.iload_n 1, 1) := by decide +kernel
theorem dX4_on_94 : decode cX4_on 94 = .ok (.iaload, 1) := by decide +kernel
theorem dX4_on_95 : decode cX4_on 95 = .ok (.ireturn, 1) := by decide +kernel
theorem dX4_on_96 : decode cX4_on 96 = .ok (.aload_n 0, 1) := by decide +kernel
theorem dX4_on_97 : decode cX4_on 97 = .ok (.getfield 16, 3) := by decide +kernel
theorem dX4_on_100 : decode cX4_on 100 = .ok (.getfield 116, 3) := by decide +kernel
theorem dX4_on_103 : decode cX4_on 103 = .ok (.iload_n 1, 1) := by decide +kernel
theorem dX4_on_104 : decode cX4_on 104 = .ok (.iaload, 1) := by decide +kernel
theorem dX4_on_105 : decode cX4_on 105 = .ok (.ireturn, 1) := by decide +kernel
theorem dX4_falls_0 : decode cX4_falls 0 = .ok (.iload_n 1, 1) := by decide +kernel
theorem dX4_falls_1 : decode cX4_falls 1 = .ok (.iconst 0, 1) := by decide +kernel
theorem dX4_falls_2 : decode cX4_falls 2 = .ok (.sipush 300, 3) := by decide +kernel
theorem dX4_falls_5 : decode cX4_falls 5 = .ok (.invokestatic 50, 3) := by decide +kernel
theorem dX4_falls_8 : decode cX4_falls 8 = .ok (.ifCond .ne 10, 3) := by decide +kernel
theorem dX4_falls_11 : decode cX4_falls 11 = .ok (.aload_n 0, 1) := by decide +kernel
theorem dX4_falls_12 : decode cX4_falls 12 = .ok (.ldc 54, 2) := by decide +kernel
theorem dX4_falls_14 : decode cX4_falls 14 = .ok (.invokevirtual 55, 3) := by decide +kernel
theorem dX4_falls_17 : decode cX4_falls 17 = .ok (.ireturn, 1) := by decide +kernel
theorem dX4_falls_18 : decode cX4_falls 18 = .ok (.aload_n 0, 1) := by decide +kernel
theorem dX4_falls_19 : decode cX4_falls 19 = .ok (.invokevirtual 149, 3) := by decide +kernel
theorem dX4_falls_22 : decode cX4_falls 22 = .ok (.aload_n 0, 1) := by decide +kernel
theorem dX4_falls_23 : decode cX4_falls 23 = .ok (.iload_n 1, 1) := by decide +kernel
theorem dX4_falls_24 : decode cX4_falls 24 = .ok (.invokevirtual 152, 3) := by decide +kernel
theorem dX4_falls_27 : decode cX4_falls 27 = .ok (.ireturn, 1) := by decide +kernel
theorem dX4_trips_0 : decode cX4_trips 0 = .ok (.aload_n 0, 1) := by decide +kernel
theorem dX4_trips_1 : decode cX4_trips 1 = .ok (.getfield 12, 3) := by decide +kernel
theorem dX4_trips_4 : decode cX4_trips 4 = .ok (.iload_n 1, 1) := by decide +kernel
theorem dX4_trips_5 : decode cX4_trips 5 = .ok (.invokevirtual 63, 3) := by decide +kernel
theorem dX4_trips_8 : decode cX4_trips 8 = .ok (.ifCond .ne 10, 3) := by decide +kernel
theorem dX4_trips_11 : decode cX4_trips 11 = .ok (.aload_n 0, 1) := by decide +kernel
theorem dX4_trips_12 : decode cX4_trips 12 = .ok (.ldc 54, 2) := by decide +kernel
theorem dX4_trips_14 : decode cX4_trips 14 = .ok (.invokevirtual 55, 3) := by decide +kernel
theorem dX4_trips_17 : decode cX4_trips 17 = .ok (.ireturn, 1) := by decide +kernel
theorem dX4_trips_18 : decode cX4_trips 18 = .ok (.aload_n 0, 1) := by decide +kernel
theorem dX4_trips_19 : decode cX4_trips 19 = .ok (.invokevirtual 149, 3) := by decide +kernel
theorem dX4_trips_22 : decode cX4_trips 22 = .ok (.iconst 1, 1) := by decide +kernel
theorem dX4_trips_23 : decode cX4_trips 23 = .ok (.istore_n 2, 1) := by decide +kernel
theorem dX4_trips_24 : decode cX4_trips 24 = .ok (.iload_n 2, 1) := by decide +kernel
theorem dX4_trips_25 : decode cX4_trips 25 = .ok (.sipush 300, 3) := by decide +kernel
theorem dX4_trips_28 : decode cX4_trips 28 = .ok (.if_icmp .gt 32, 3) := by decide +kernel
theorem dX4_trips_31 : decode cX4_trips 31 = .ok (.aload_n 0, 1) := by decide +kernel
theorem dX4_trips_32 : decode cX4_trips 32 = .ok (.getfield 16, 3) := by decide +kernel
theorem dX4_trips_35 : decode cX4_trips 35 = .ok (.invokevirtual 155, 3) := by decide +kernel
theorem dX4_trips_38 : decode cX4_trips 38 = .ok (.aload_n 0, 1) := by decide +kernel
theorem dX4_trips_39 : decode cX4_trips 39 = .ok (.getfield 16, 3) := by decide +kernel
theorem dX4_trips_42 : decode cX4_trips 42 = .ok (.getfield 158, 3) := by decide +kernel
theorem dX4_trips_45 : decode cX4_trips 45 = .ok (.iload_n 1, 1) := by decide +kernel
theorem dX4_trips_46 : decode cX4_trips 46 = .ok (.invokestatic 125, 3) := by decide +kernel
theorem dX4_trips_49 : decode cX4_trips 49 = .ok (.ifCond .eq 5, 3) := by decide +kernel
theorem dX4_trips_52 : decode cX4_trips 52 = .ok (.iload_n 2, 1) := by decide +kernel
theorem dX4_trips_53 : decode cX4_trips 53 = .ok (.ireturn, 1) := by decide +kernel
theorem dX4_trips_54 : decode cX4_trips 54 = .ok (.iinc 2 1, 3) := by decide +kernel
theorem dX4_trips_57 : decode cX4_trips 57 = .ok (.goto (-33), 3) := by decide +kernel
theorem dX4_trips_60 : decode cX4_trips 60 = .ok (.aload_n 0, 1) := by decide +kernel
theorem dX4_trips_61 : decode cX4_trips 61 = .ok (.ldc 161, 2) := by decide +kernel
theorem dX4_trips_63 : decode cX4_trips 63 = .ok (.invokevirtual 55, 3) := by decide +kernel
theorem dX4_trips_66 : decode cX4_trips 66 = .ok (.ireturn, 1) := by decide +kernel
theorem dX4_hears_0 : decode cX4_hears 0 = .ok (.aload_n 0, 1) := by decide +kernel
theorem dX4_hears_1 : decode cX4_hears 1 = .ok (.getfield 12, 3) := by decide +kernel
theorem dX4_hears_4 : decode cX4_hears 4 = .ok (.iload_n 1, 1) := by decide +kernel
theorem dX4_hears_5 : decode cX4_hears 5 = .ok (.invokevirtual 63, 3) := by decide +kernel
theorem dX4_hears_8 : decode cX4_hears 8 = .ok (.ifCond .ne 10, 3) := by decide +kernel
theorem dX4_hears_11 : decode cX4_hears 11 = .ok (.aload_n 0, 1) := by decide +kernel
theorem dX4_hears_12 : decode cX4_hears 12 = .ok (.ldc 54, 2) := by decide +kernel
theorem dX4_hears_14 : decode cX4_hears 14 = .ok (.invokevirtual 55, 3) := by decide +kernel
theorem dX4_hears_17 : decode cX4_hears 17 = .ok (.ireturn, 1) := by decide +kernel
theorem dX4_hears_18 : decode cX4_hears 18 = .ok (.aload_n 0, 1) := by decide +kernel
theorem dX4_hears_19 : decode cX4_hears 19 = .ok (.invokevirtual 149, 3) := by decide +kernel
theorem dX4_hears_22 : decode cX4_hears 22 = .ok (.iconst 0, 1) := by decide +kernel
theorem dX4_hears_23 : decode cX4_hears 23 = .ok (.istore_n 2, 1) := by decide +kernel
theorem dX4_hears_24 : decode cX4_hears 24 = .ok (.iload_n 2, 1) := by decide +kernel
theorem dX4_hears_25 : decode cX4_hears 25 = .ok (.sipush 300, 3) := by decide +kernel
theorem dX4_hears_28 : decode cX4_hears 28 = .ok (.if_icmp .gt 31, 3) := by decide +kernel
theorem dX4_hears_31 : decode cX4_hears 31 = .ok (.aload_n 0, 1) := by decide +kernel
theorem dX4_hears_32 : decode cX4_hears 32 = .ok (.getfield 16, 3) := by decide +kernel
theorem dX4_hears_35 : decode cX4_hears 35 = .ok (.getfield 110, 3) := by decide +kernel
theorem dX4_hears_38 : decode cX4_hears 38 = .ok (.iload_n 1, 1) := by decide +kernel
theorem dX4_hears_39 : decode cX4_hears 39 = .ok (.iaload, 1) := by decide +kernel
theorem dX4_hears_40 : decode cX4_hears 40 = .ok (.iconst 1, 1) := by decide +kernel
theorem dX4_hears_41 : decode cX4_hears 41 = .ok (.if_icmp .ne 5, 3) := by decide +kernel
theorem dX4_hears_44 : decode cX4_hears 44 = .ok (.iload_n 2, 1) := by decide +kernel
theorem dX4_hears_45 : decode cX4_hears 45 = .ok (.ireturn, 1) := by decide +kernel
theorem dX4_hears_46 : decode cX4_hears 46 = .ok (.aload_n 0, 1) := by decide +kernel
theorem dX4_hears_47 : decode cX4_hears 47 = .ok (.getfield 16, 3) := by decide +kernel
theorem dX4_hears_50 : decode cX4_hears 50 = .ok (.invokevirtual 155, 3) := by decide +kernel
theorem dX4_hears_53 : decode cX4_hears 53 = .ok (.iinc 2 1, 3) := by decide +kernel
theorem dX4_hears_56 : decode cX4_hears 56 = .ok (.goto (-32), 3) := by decide +kernel
theorem dX4_hears_59 : decode cX4_hears 59 = .ok (.aload_n 0, 1) := by decide +kernel
theorem dX4_hears_60 : decode cX4_hears 60 = .ok (.ldc 161, 2) := by decide +kernel
theorem dX4_hears_62 : decode cX4_hears 62 = .ok (.invokevirtual 55, 3) := by decide +kernel
theorem dX4_hears_65 : decode cX4_hears 65 = .ok (.ireturn, 1) := by decide +kernel
theorem dX4_carry_0 : decode cX4_carry 0 = .ok (.iload_n 1, 1) := by decide +kernel
theorem dX4_carry_1 : decode cX4_carry 1 = .ok (.iconst 1, 1) := by decide +kernel
theorem dX4_carry_2 : decode cX4_carry 2 = .ok (.bipush 100, 2) := by decide +kernel
theorem dX4_carry_4 : decode cX4_carry 4 = .ok (.invokestatic 50, 3) := by decide +kernel
theorem dX4_carry_7 : decode cX4_carry 7 = .ok (.ifCond .ne 10, 3) := by decide +kernel
theorem dX4_carry_10 : decode cX4_carry 10 = .ok (.aload_n 0, 1) := by decide +kernel
theorem dX4_carry_11 : decode cX4_carry 11 = .ok (.ldc 54, 2) := by decide +kernel
theorem dX4_carry_13 : decode cX4_carry 13 = .ok (.invokevirtual 55, 3) := by decide +kernel
theorem dX4_carry_16 : decode cX4_carry 16 = .ok (.ireturn, 1) := by decide +kernel
theorem dX4_carry_17 : decode cX4_carry 17 = .ok (.aload_n 0, 1) := by decide +kernel
theorem dX4_carry_18 : decode cX4_carry 18 = .ok (.getfield 12, 3) := by decide +kernel
theorem dX4_carry_21 : decode cX4_carry 21 = .ok (.getfield 101, 3) := by decide +kernel
theorem dX4_carry_24 : decode cX4_carry 24 = .ok (.ifCond .ne 10, 3) := by decide +kernel
theorem dX4_carry_27 : decode cX4_carry 27 = .ok (.aload_n 0, 1) := by decide +kernel
theorem dX4_carry_28 : decode cX4_carry 28 = .ok (.ldc 161, 2) := by decide +kernel
theorem dX4_carry_30 : decode cX4_carry 30 = .ok (.invokevirtual 55, 3) := by decide +kernel
theorem dX4_carry_33 : decode cX4_carry 33 = .ok (.ireturn, 1) := by decide +kernel
theorem dX4_carry_34 : decode cX4_carry 34 = .ok (.iconst 0, 1) := by decide +kernel
theorem dX4_carry_35 : decode cX4_carry 35 = .ok (.istore_n 2, 1) := by decide +kernel
theorem dX4_carry_36 : decode cX4_carry 36 = .ok (.ldc 162, 2) := by decide +kernel
theorem dX4_carry_38 : decode cX4_carry 38 = .ok (.istore_n 3, 1) := by decide +kernel
theorem dX4_carry_39 : decode cX4_carry 39 = .ok (.iconst 0, 1) := by decide +kernel
theorem dX4_carry_40 : decode cX4_carry 40 = .ok (.istore 4, 2) := by decide +kernel
theorem dX4_carry_42 : decode cX4_carry 42 = .ok (.iload 4, 2) := by decide +kernel
theorem dX4_carry_44 : decode cX4_carry 44 = .ok (.aload_n 0, 1) := by decide +kernel
theorem dX4_carry_45 : decode cX4_carry 45 = .ok (.getfield 12, 3) := by decide +kernel
theorem dX4_carry_48 : decode cX4_carry 48 = .ok (.getfield 101, 3) := by decide +kernel
theorem dX4_carry_51 : decode cX4_carry 51 = .ok (.if_icmp .ge 41, 3) := by decide +kernel
theorem dX4_carry_54 : decode cX4_carry 54 = .ok (.aload_n 0, 1) := by decide +kernel
theorem dX4_carry_55 : decode cX4_carry 55 = .ok (.invokevirtual 149, 3) := by decide +kernel
theorem dX4_carry_58 : decode cX4_carry 58 = .ok (.aload_n 0, 1) := by decide +kernel
theorem dX4_carry_59 : decode cX4_carry 59 = .ok (.getfield 16, 3) := by decide +kernel
theorem dX4_carry_62 : decode cX4_carry 62 = .ok (.iload 4, 2) := by decide +kernel
theorem dX4_carry_64 : decode cX4_carry 64 = .ok (.putfield 67, 3) := by decide +kernel
theorem dX4_carry_67 : decode cX4_carry 67 = .ok (.aload_n 0, 1) := by decide +kernel
theorem dX4_carry_68 : decode cX4_carry 68 = .ok (.iload_n 1, 1) := by decide +kernel
theorem dX4_carry_69 : decode cX4_carry 69 = .ok (.invokevirtual 152, 3) := by decide +kernel
theorem dX4_carry_72 : decode cX4_carry 72 = .ok (.istore 5, 2) := by decide +kernel
theorem dX4_carry_74 : decode cX4_carry 74 = .ok (.iload 5, 2) := by decide +kernel
theorem dX4_carry_76 : decode cX4_carry 76 = .ok (.iload_n 3, 1) := by decide +kernel
theorem dX4_carry_77 : decode cX4_carry 77 = .ok (.if_icmp .ge 9, 3) := by decide +kernel
theorem dX4_carry_80 : decode cX4_carry 80 = .ok (.iload 5, 2) := by decide +kernel
theorem dX4_carry_82 : decode cX4_carry 82 = .ok (.istore_n 3, 1) := by decide +kernel
theorem dX4_carry_83 : decode cX4_carry 83 = .ok (.iload 4, 2) := by decide +kernel
theorem dX4_carry_85 : decode cX4_carry 85 = .ok (.istore_n 2, 1) := by decide +kernel
theorem dX4_carry_86 : decode cX4_carry 86 = .ok (.iinc 4 1, 3) := by decide +kernel
theorem dX4_carry_89 : decode cX4_carry 89 = .ok (.goto (-47), 3) := by decide +kernel
theorem dX4_carry_92 : decode cX4_carry 92 = .ok (.iload_n 2, 1) := by decide +kernel
theorem dX4_carry_93 : decode cX4_carry 93 = .ok (.ireturn, 1) := by decide +kernel
theorem dX4_order_0 : decode cX4_order 0 = .ok (.iload_n 1, 1) := by decide +kernel
theorem dX4_order_1 : decode cX4_order 1 = .ok (.iconst 1, 1) := by decide +kernel
theorem dX4_order_2 : decode cX4_order 2 = .ok (.bipush 100, 2) := by decide +kernel
theorem dX4_order_4 : decode cX4_order 4 = .ok (.invokestatic 50, 3) := by decide +kernel
theorem dX4_order_7 : decode cX4_order 7 = .ok (.ifCond .ne 10, 3) := by decide +kernel
theorem dX4_order_10 : decode cX4_order 10 = .ok (.aload_n 0, 1) := by decide +kernel
theorem dX4_order_11 : decode cX4_order 11 = .ok (.ldc 54, 2) := by decide +kernel
theorem dX4_order_13 : decode cX4_order 13 = .ok (.invokevirtual 55, 3) := by decide +kernel
theorem dX4_order_16 : decode cX4_order 16 = .ok (.ireturn, 1) := by decide +kernel
theorem dX4_order_17 : decode cX4_order 17 = .ok (.aload_n 0, 1) := by decide +kernel
theorem dX4_order_18 : decode cX4_order 18 = .ok (.invokevirtual 149, 3) := by decide +kernel
theorem dX4_order_21 : decode cX4_order 21 = .ok (.aload_n 0, 1) := by decide +kernel
theorem dX4_order_22 : decode cX4_order 22 = .ok (.iload_n 1, 1) := by decide +kernel
theorem dX4_order_23 : decode cX4_order 23 = .ok (.invokevirtual 152, 3) := by decide +kernel
theorem dX4_order_26 : decode cX4_order 26 = .ok (.istore_n 2, 1) := by decide +kernel
theorem dX4_order_27 : decode cX4_order 27 = .ok (.iconst (-1), 1) := by decide +kernel
theorem dX4_order_28 : decode cX4_order 28 = .ok (.istore_n 3, 1) := by decide +kernel
theorem dX4_order_29 : decode cX4_order 29 = .ok (.iconst 0, 1) := by decide +kernel
theorem dX4_order_30 : decode cX4_order 30 = .ok (.istore 4, 2) := by decide +kernel
theorem dX4_order_32 : decode cX4_order 32 = .ok (.iload 4, 2) := by decide +kernel
theorem dX4_order_34 : decode cX4_order 34 = .ok (.aload_n 0, 1) := by decide +kernel
theorem dX4_order_35 : decode cX4_order 35 = .ok (.getfield 12, 3) := by decide +kernel
theorem dX4_order_38 : decode cX4_order 38 = .ok (.getfield 101, 3) := by decide +kernel
theorem dX4_order_41 : decode cX4_order 41 = .ok (.if_icmp .ge 73, 3) := by decide +kernel
theorem dX4_order_44 : decode cX4_order 44 = .ok (.iload 4, 2) := by decide +kernel
theorem dX4_order_46 : decode cX4_order 46 = .ok (.iconst 1, 1) := by decide +kernel
theorem dX4_order_47 : decode cX4_order 47 = .ok (.iadd, 1) := by decide +kernel
theorem dX4_order_48 : decode cX4_order 48 = .ok (.istore 5, 2) := by decide +kernel
theorem dX4_order_50 : decode cX4_order 50 = .ok (.iload 5, 2) := by decide +kernel
theorem dX4_order_52 : decode cX4_order 52 = .ok (.aload_n 0, 1) := by decide +kernel
theorem dX4_order_53 : decode cX4_order 53 = .ok (.getfield 12, 3) := by decide +kernel
theorem dX4_order_56 : decode cX4_order 56 = .ok (.getfield 101, 3) := by decide +kernel
theorem dX4_order_59 : decode cX4_order 59 = .ok (.if_icmp .ge 49, 3) := by decide +kernel
theorem dX4_order_62 : decode cX4_order 62 = .ok (.aload_n 0, 1) := by decide +kernel
theorem dX4_order_63 : decode cX4_order 63 = .ok (.invokevirtual 149, 3) := by decide +kernel
theorem dX4_order_66 : decode cX4_order 66 = .ok (.aload_n 0, 1) := by decide +kernel
theorem dX4_order_67 : decode cX4_order 67 = .ok (.getfield 16, 3) := by decide +kernel
theorem dX4_order_70 : decode cX4_order 70 = .ok (.iload 4, 2) := by decide +kernel
theorem dX4_order_72 : decode cX4_order 72 = .ok (.iload 5, 2) := by decide +kernel
theorem dX4_order_74 : decode cX4_order 74 = .ok (.invokevirtual 136, 3) := by decide +kernel
theorem dX4_order_77 : decode cX4_order 77 = .ok (.aload_n 0, 1) := by decide +kernel
theorem dX4_order_78 : decode cX4_order 78 = .ok (.iload_n 1, 1) := by decide +kernel
theorem dX4_order_79 : decode cX4_order 79 = .ok (.invokevirtual 152, 3) := by decide +kernel
theorem dX4_order_82 : decode cX4_order 82 = .ok (.istore 6, 2) := by decide +kernel
theorem dX4_order_84 : decode cX4_order 84 = .ok (.iload 6, 2) := by decide +kernel
theorem dX4_order_86 : decode cX4_order 86 = .ok (.iload_n 2, 1) := by decide +kernel
theorem dX4_order_87 : decode cX4_order 87 = .ok (.if_icmp .ge 15, 3) := by decide +kernel
theorem dX4_order_90 : decode cX4_order 90 = .ok (.iload 6, 2) := by decide +kernel
theorem dX4_order_92 : decode cX4_order 92 = .ok (.istore_n 2, 1) := by decide +kernel
theorem dX4_order_93 : decode cX4_order 93 = .ok (.bipush 10, 2) := by decide +kernel
theorem dX4_order_95 : decode cX4_order 95 = .ok (.iload 4, 2) := by decide +kernel
theorem dX4_order_97 : decode cX4_order 97 = .ok (.imul, 1) := by decide +kernel
theorem dX4_order_98 : decode cX4_order 98 = .ok (.iload 5, 2) := by decide +kernel
theorem dX4_order_100 : decode cX4_order 100 = .ok (.iadd, 1) := by decide +kernel
theorem dX4_order_101 : decode cX4_order 101 = .ok (.istore_n 3, 1) := by decide +kernel
theorem dX4_order_102 : decode cX4_order 102 = .ok (.iinc 5 1, 3) := by decide +kernel
theorem dX4_order_105 : decode cX4_order 105 = .ok (.goto (-55), 3) := by decide +kernel
theorem dX4_order_108 : decode cX4_order 108 = .ok (.iinc 4 1, 3) := by decide +kernel
theorem dX4_order_111 : decode cX4_order 111 = .ok (.goto (-79), 3) := by decide +kernel
theorem dX4_order_114 : decode cX4_order 114 = .ok (.iload_n 3, 1) := by decide +kernel
theorem dX4_order_115 : decode cX4_order 115 = .ok (.ifCond .ge 12, 3) := by decide +kernel
theorem dX4_order_118 : decode cX4_order 118 = .ok (.aload_n 0, 1) := by decide +kernel
theorem dX4_order_119 : decode cX4_order 119 = .ok (.ldc 161, 2) := by decide +kernel
theorem dX4_order_121 : decode cX4_order 121 = .ok (.invokevirtual 55, 3) := by decide +kernel
theorem dX4_order_124 : decode cX4_order 124 = .ok (.goto 4, 3) := by decide +kernel
theorem dX4_order_127 : decode cX4_order 127 = .ok (.iload_n 3, 1) := by decide +kernel
theorem dX4_order_128 : decode cX4_order 128 = .ok (.ireturn, 1) := by decide +kernel
theorem dX4_kind_0 : decode cX4_kind 0 = .ok (.aload_n 0, 1) := by decide +kernel
theorem dX4_kind_1 : decode cX4_kind 1 = .ok (.getfield 12, 3) := by decide +kernel
theorem dX4_kind_4 : decode cX4_kind 4 = .ok (.iload_n 1, 1) := by decide +kernel
theorem dX4_kind_5 : decode cX4_kind 5 = .ok (.invokevirtual 63, 3) := by decide +kernel
theorem dX4_kind_8 : decode cX4_kind 8 = .ok (.ifCond .eq 13, 3) := by decide +kernel
theorem dX4_kind_11 : decode cX4_kind 11 = .ok (.iload_n 2, 1) := by decide +kernel
theorem dX4_kind_12 : decode cX4_kind 12 = .ok (.iconst 1, 1) := by decide +kernel
theorem dX4_kind_13 : decode cX4_kind 13 = .ok (.bipush 100, 2) := by decide +kernel
theorem dX4_kind_15 : decode cX4_kind 15 = .ok (.invokestatic 50, 3) := by decide +kernel
theorem dX4_kind_18 : decode cX4_kind 18 = .ok (.ifCond .ne 10, 3) := by decide +kernel
theorem dX4_kind_21 : decode cX4_kind 21 = .ok (.aload_n 0, 1) := by decide +kernel
theorem dX4_kind_22 : decode cX4_kind 22 = .ok (.ldc 54, 2) := by decide +kernel
theorem dX4_kind_24 : decode cX4_kind 24 = .ok (.invokevirtual 55, 3) := by decide +kernel
theorem dX4_kind_27 : decode cX4_kind 27 = .ok (.ireturn, 1) := by decide +kernel
theorem dX4_kind_28 : decode cX4_kind 28 = .ok (.iconst 0, 1) := by decide +kernel
theorem dX4_kind_29 : decode cX4_kind 29 = .ok (.istore_n 3, 1) := by decide +kernel
theorem dX4_kind_30 : decode cX4_kind 30 = .ok (.ldc 162, 2) := by decide +kernel
theorem dX4_kind_32 : decode cX4_kind 32 = .ok (.istore 4, 2) := by decide +kernel
theorem dX4_kind_34 : decode cX4_kind 34 = .ok (.iconst 0, 1) := by decide +kernel
theorem dX4_kind_35 : decode cX4_kind 35 = .ok (.istore 5, 2) := by decide +kernel
theorem dX4_kind_37 : decode cX4_kind 37 = .ok (.iload 5, 2) := by decide +kernel
theorem dX4_kind_39 : decode cX4_kind 39 = .ok (.bipush 6, 2) := by decide +kernel
theorem dX4_kind_41 : decode cX4_kind 41 = .ok (.if_icmp .ge 60, 3) := by decide +kernel
theorem dX4_kind_44 : decode cX4_kind 44 = .ok (.aload_n 0, 1) := by decide +kernel
theorem dX4_kind_45 : decode cX4_kind 45 = .ok (.invokevirtual 149, 3) := by decide +kernel
theorem dX4_kind_48 : decode cX4_kind 48 = .ok (.aload_n 0, 1) := by decide +kernel
theorem dX4_kind_49 : decode cX4_kind 49 = .ok (.getfield 16, 3) := by decide +kernel
theorem dX4_kind_52 : decode cX4_kind 52 = .ok (.getfield 104, 3) := by decide +kernel
theorem dX4_kind_55 : decode cX4_kind 55 = .ok (.iload_n 1, 1) := by decide +kernel
theorem dX4_kind_56 : decode cX4_kind 56 = .ok (.iload 5, 2) := by decide +kernel
theorem dX4_kind_58 : decode cX4_kind 58 = .ok (.iastore, 1) := by decide +kernel
theorem dX4_kind_59 : decode cX4_kind 59 = .ok (.aload_n 0, 1) := by decide +kernel
theorem dX4_kind_60 : decode cX4_kind 60 = .ok (.getfield 16, 3) := by decide +kernel
theorem dX4_kind_63 : decode cX4_kind 63 = .ok (.iload_n 2, 1) := by decide +kernel
theorem dX4_kind_64 : decode cX4_kind 64 = .ok (.invokevirtual 146, 3) := by decide +kernel
theorem dX4_kind_67 : decode cX4_kind 67 = .ok (.aload_n 0, 1) := by decide +kernel
theorem dX4_kind_68 : decode cX4_kind 68 = .ok (.getfield 16, 3) := by decide +kernel
theorem dX4_kind_71 : decode cX4_kind 71 = .ok (.getfield 113, 3) := by decide +kernel
theorem dX4_kind_74 : decode cX4_kind 74 = .ok (.iload_n 1, 1) := by decide +kernel
theorem dX4_kind_75 : decode cX4_kind 75 = .ok (.iaload, 1) := by decide +kernel
theorem dX4_kind_76 : decode cX4_kind 76 = .ok (.iload 4, 2) := by decide +kernel
theorem dX4_kind_78 : decode cX4_kind 78 = .ok (.if_icmp .ge 17, 3) := by decide +kernel
theorem dX4_kind_81 : decode cX4_kind 81 = .ok (.aload_n 0, 1) := by decide +kernel
theorem dX4_kind_82 : decode cX4_kind 82 = .ok (.getfield 16, 3) := by decide +kernel
theorem dX4_kind_85 : decode cX4_kind 85 = .ok (.getfield 113, 3) := by decide +kernel
theorem dX4_kind_88 : decode cX4_kind 88 = .ok (.iload_n 1, 1) := by decide +kernel
theorem dX4_kind_89 : decode cX4_kind 89 = .ok (.iaload, 1) := by decide +kernel
theorem dX4_kind_90 : decode cX4_kind 90 = .ok (.istore 4, 2) := by decide +kernel
theorem dX4_kind_92 : decode cX4_kind 92 = .ok (.iload 5, 2) := by decide +kernel
theorem dX4_kind_94 : decode cX4_kind 94 = .ok (.istore_n 3, 1) := by decide +kernel
theorem dX4_kind_95 : decode cX4_kind 95 = .ok (.iinc 5 1, 3) := by decide +kernel
theorem dX4_kind_98 : decode cX4_kind 98 = .ok (.goto (-61), 3) := by decide +kernel
theorem dX4_kind_101 : decode cX4_kind 101 = .ok (.iload_n 3, 1) := by decide +kernel
theorem dX4_kind_102 : decode cX4_kind 102 = .ok (.ireturn, 1) := by decide +kernel
theorem dX4_least_0 : decode cX4_least 0 = .ok (.iload_n 1, 1) := by decide +kernel
theorem dX4_least_1 : decode cX4_least 1 = .ok (.iconst 1, 1) := by decide +kernel
theorem dX4_least_2 : decode cX4_least 2 = .ok (.bipush 100, 2) := by decide +kernel
theorem dX4_least_4 : decode cX4_least 4 = .ok (.invokestatic 50, 3) := by decide +kernel
theorem dX4_least_7 : decode cX4_least 7 = .ok (.ifCond .eq 13, 3) := by decide +kernel
theorem dX4_least_10 : decode cX4_least 10 = .ok (.iload_n 2, 1) := by decide +kernel
theorem dX4_least_11 : decode cX4_least 11 = .ok (.iconst 0, 1) := by decide +kernel
theorem dX4_least_12 : decode cX4_least 12 = .ok (.ldc 144, 2) := by decide +kernel
theorem dX4_least_14 : decode cX4_least 14 = .ok (.invokestatic 50, 3) := by decide +kernel
theorem dX4_least_17 : decode cX4_least 17 = .ok (.ifCond .ne 10, 3) := by decide +kernel
theorem dX4_least_20 : decode cX4_least 20 = .ok (.aload_n 0, 1) := by decide +kernel
theorem dX4_least_21 : decode cX4_least 21 = .ok (.ldc 54, 2) := by decide +kernel
theorem dX4_least_23 : decode cX4_least 23 = .ok (.invokevirtual 55, 3) := by decide +kernel
theorem dX4_least_26 : decode cX4_least 26 = .ok (.ireturn, 1) := by decide +kernel
theorem dX4_least_27 : decode cX4_least 27 = .ok (.iconst 0, 1) := by decide +kernel
theorem dX4_least_28 : decode cX4_least 28 = .ok (.istore_n 3, 1) := by decide +kernel
theorem dX4_least_29 : decode cX4_least 29 = .ok (.iload_n 3, 1) := by decide +kernel
theorem dX4_least_30 : decode cX4_least 30 = .ok (.bipush 9, 2) := by decide +kernel
theorem dX4_least_32 : decode cX4_least 32 = .ok (.if_icmp .gt 32, 3) := by decide +kernel
theorem dX4_least_35 : decode cX4_least 35 = .ok (.aload_n 0, 1) := by decide +kernel
theorem dX4_least_36 : decode cX4_least 36 = .ok (.invokevirtual 149, 3) := by decide +kernel
theorem dX4_least_39 : decode cX4_least 39 = .ok (.aload_n 0, 1) := by decide +kernel
theorem dX4_least_40 : decode cX4_least 40 = .ok (.getfield 16, 3) := by decide +kernel
theorem dX4_least_43 : decode cX4_least 43 = .ok (.iload_n 3, 1) := by decide +kernel
theorem dX4_least_44 : decode cX4_least 44 = .ok (.putfield 70, 3) := by decide +kernel
theorem dX4_least_47 : decode cX4_least 47 = .ok (.aload_n 0, 1) := by decide +kernel
theorem dX4_least_48 : decode cX4_least 48 = .ok (.iload_n 1, 1) := by decide +kernel
theorem dX4_least_49 : decode cX4_least 49 = .ok (.invokevirtual 152, 3) := by decide +kernel
theorem dX4_least_52 : decode cX4_least 52 = .ok (.iload_n 2, 1) := by decide +kernel
theorem dX4_least_53 : decode cX4_least 53 = .ok (.if_icmp .gt 5, 3) := by decide +kernel
theorem dX4_least_56 : decode cX4_least 56 = .ok (.iload_n 3, 1) := by decide +kernel
theorem dX4_least_57 : decode cX4_least 57 = .ok (.ireturn, 1) := by decide +kernel
theorem dX4_least_58 : decode cX4_least 58 = .ok (.iinc 3 1, 3) := by decide +kernel
theorem dX4_least_61 : decode cX4_least 61 = .ok (.goto (-32), 3) := by decide +kernel
theorem dX4_least_64 : decode cX4_least 64 = .ok (.aload_n 0, 1) := by decide +kernel
theorem dX4_least_65 : decode cX4_least 65 = .ok (.ldc 161, 2) := by decide +kernel
theorem dX4_least_67 : decode cX4_least 67 = .ok (.invokevirtual 55, 3) := by decide +kernel
theorem dX4_least_70 : decode cX4_least 70 = .ok (.ireturn, 1) := by decide +kernel
theorem dX4_clear_0 : decode cX4_clear 0 = .ok (.iload_n 1, 1) := by decide +kernel
theorem dX4_clear_1 : decode cX4_clear 1 = .ok (.iconst 1, 1) := by decide +kernel
theorem dX4_clear_2 : decode cX4_clear 2 = .ok (.bipush 60, 2) := by decide +kernel
theorem dX4_clear_4 : decode cX4_clear 4 = .ok (.invokestatic 50, 3) := by decide +kernel
theorem dX4_clear_7 : decode cX4_clear 7 = .ok (.ifCond .ne 10, 3) := by decide +kernel
theorem dX4_clear_10 : decode cX4_clear 10 = .ok (.aload_n 0, 1) := by decide +kernel
theorem dX4_clear_11 : decode cX4_clear 11 = .ok (.ldc 54, 2) := by decide +kernel
theorem dX4_clear_13 : decode cX4_clear 13 = .ok (.invokevirtual 55, 3) := by decide +kernel
theorem dX4_clear_16 : decode cX4_clear 16 = .ok (.ireturn, 1) := by decide +kernel
theorem dX4_clear_17 : decode cX4_clear 17 = .ok (.iconst (-1), 1) := by decide +kernel
theorem dX4_clear_18 : decode cX4_clear 18 = .ok (.istore_n 2, 1) := by decide +kernel
theorem dX4_clear_19 : decode cX4_clear 19 = .ok (.ldc 162, 2) := by decide +kernel
theorem dX4_clear_21 : decode cX4_clear 21 = .ok (.istore_n 3, 1) := by decide +kernel
theorem dX4_clear_22 : decode cX4_clear 22 = .ok (.iconst 0, 1) := by decide +kernel
theorem dX4_clear_23 : decode cX4_clear 23 = .ok (.istore 4, 2) := by decide +kernel
theorem dX4_clear_25 : decode cX4_clear 25 = .ok (.iload 4, 2) := by decide +kernel
theorem dX4_clear_27 : decode cX4_clear 27 = .ok (.bipush 30, 2) := by decide +kernel
theorem dX4_clear_29 : decode cX4_clear 29 = .ok (.if_icmp .ge 57, 3) := by decide +kernel
theorem dX4_clear_32 : decode cX4_clear 32 = .ok (.aload_n 0, 1) := by decide +kernel
theorem dX4_clear_33 : decode cX4_clear 33 = .ok (.getfield 12, 3) := by decide +kernel
theorem dX4_clear_36 : decode cX4_clear 36 = .ok (.getfield 59, 3) := by decide +kernel
theorem dX4_clear_39 : decode cX4_clear 39 = .ok (.iload 4, 2) := by decide +kernel
theorem dX4_clear_41 : decode cX4_clear 41 = .ok (.invokestatic 125, 3) := by decide +kernel
theorem dX4_clear_44 : decode cX4_clear 44 = .ok (.ifCond .eq 36, 3) := by decide +kernel
theorem dX4_clear_47 : decode cX4_clear 47 = .ok (.aload_n 0, 1) := by decide +kernel
theorem dX4_clear_48 : decode cX4_clear 48 = .ok (.invokevirtual 149, 3) := by decide +kernel
theorem dX4_clear_51 : decode cX4_clear 51 = .ok (.aload_n 0, 1) := by decide +kernel
theorem dX4_clear_52 : decode cX4_clear 52 = .ok (.getfield 16, 3) := by decide +kernel
theorem dX4_clear_55 : decode cX4_clear 55 = .ok (.iload 4, 2) := by decide +kernel
theorem dX4_clear_57 : decode cX4_clear 57 = .ok (.iconst 0, 1) := by decide +kernel
theorem dX4_clear_58 : decode cX4_clear 58 = .ok (.invokevirtual 163, 3) := by decide +kernel
theorem dX4_clear_61 : decode cX4_clear 61 = .ok (.aload_n 0, 1) := by decide +kernel
theorem dX4_clear_62 : decode cX4_clear 62 = .ok (.iload_n 1, 1) := by decide +kernel
theorem dX4_clear_63 : decode cX4_clear 63 = .ok (.invokevirtual 152, 3) := by decide +kernel
theorem dX4_clear_66 : decode cX4_clear 66 = .ok (.istore 5, 2) := by decide +kernel
theorem dX4_clear_68 : decode cX4_clear 68 = .ok (.iload 5, 2) := by decide +kernel
theorem dX4_clear_70 : decode cX4_clear 70 = .ok (.iload_n 3, 1) := by decide +kernel
theorem dX4_clear_71 : decode cX4_clear 71 = .ok (.if_icmp .ge 9, 3) := by decide +kernel
theorem dX4_clear_74 : decode cX4_clear 74 = .ok (.iload 5, 2) := by decide +kernel
theorem dX4_clear_76 : decode cX4_clear 76 = .ok (.istore_n 3, 1) := by decide +kernel
theorem dX4_clear_77 : decode cX4_clear 77 = .ok (.iload 4, 2) := by decide +kernel
theorem dX4_clear_79 : decode cX4_clear 79 = .ok (.istore_n 2, 1) := by decide +kernel
theorem dX4_clear_80 : decode cX4_clear 80 = .ok (.iinc 4 1, 3) := by decide +kernel
theorem dX4_clear_83 : decode cX4_clear 83 = .ok (.goto (-58), 3) := by decide +kernel
theorem dX4_clear_86 : decode cX4_clear 86 = .ok (.iload_n 2, 1) := by decide +kernel
theorem dX4_clear_87 : decode cX4_clear 87 = .ok (.ifCond .ge 12, 3) := by decide +kernel
theorem dX4_clear_90 : decode cX4_clear 90 = .ok (.aload_n 0, 1) := by decide +kernel
theorem dX4_clear_91 : decode cX4_clear 91 = .ok (.ldc 161, 2) := by decide +kernel
theorem dX4_clear_93 : decode cX4_clear 93 = .ok (.invokevirtual 55, 3) := by decide +kernel
theorem dX4_clear_96 : decode cX4_clear 96 = .ok (.goto 4, 3) := by decide +kernel
theorem dX4_clear_99 : decode cX4_clear 99 = .ok (.iload_n 2, 1) := by decide +kernel
theorem dX4_clear_100 : decode cX4_clear 100 = .ok (.ireturn, 1) := by decide +kernel
theorem dX4_nerve_0 : decode cX4_nerve 0 = .ok (.aload_n 0, 1) := by decide +kernel
theorem dX4_nerve_1 : decode cX4_nerve 1 = .ok (.getfield 12, 3) := by decide +kernel
theorem dX4_nerve_4 : decode cX4_nerve 4 = .ok (.iload_n 1, 1) := by decide +kernel
theorem dX4_nerve_5 : decode cX4_nerve 5 = .ok (.invokevirtual 63, 3) := by decide +kernel
theorem dX4_nerve_8 : decode cX4_nerve 8 = .ok (.ifCond .eq 13, 3) := by decide +kernel
theorem dX4_nerve_11 : decode cX4_nerve 11 = .ok (.iload_n 2, 1) := by decide +kernel
theorem dX4_nerve_12 : decode cX4_nerve 12 = .ok (.iconst 1, 1) := by decide +kernel
theorem dX4_nerve_13 : decode cX4_nerve 13 = .ok (.bipush 100, 2) := by decide +kernel
theorem dX4_nerve_15 : decode cX4_nerve 15 = .ok (.invokestatic 50, 3) := by decide +kernel
theorem dX4_nerve_18 : decode cX4_nerve 18 = .ok (.ifCond .ne 10, 3) := by decide +kernel
theorem dX4_nerve_21 : decode cX4_nerve 21 = .ok (.aload_n 0, 1) := by decide +kernel
theorem dX4_nerve_22 : decode cX4_nerve 22 = .ok (.ldc 54, 2) := by decide +kernel
theorem dX4_nerve_24 : decode cX4_nerve 24 = .ok (.invokevirtual 55, 3) := by decide +kernel
theorem dX4_nerve_27 : decode cX4_nerve 27 = .ok (.ireturn, 1) := by decide +kernel
theorem dX4_nerve_28 : decode cX4_nerve 28 = .ok (.iconst 0, 1) := by decide +kernel
theorem dX4_nerve_29 : decode cX4_nerve 29 = .ok (.istore_n 3, 1) := by decide +kernel
theorem dX4_nerve_30 : decode cX4_nerve 30 = .ok (.iload_n 3, 1) := by decide +kernel
theorem dX4_nerve_31 : decode cX4_nerve 31 = .ok (.bipush 99, 2) := by decide +kernel
theorem dX4_nerve_33 : decode cX4_nerve 33 = .ok (.if_icmp .gt 34, 3) := by decide +kernel
theorem dX4_nerve_36 : decode cX4_nerve 36 = .ok (.aload_n 0, 1) := by decide +kernel
theorem dX4_nerve_37 : decode cX4_nerve 37 = .ok (.invokevirtual 149, 3) := by decide +kernel
theorem dX4_nerve_40 : decode cX4_nerve 40 = .ok (.aload_n 0, 1) := by decide +kernel
theorem dX4_nerve_41 : decode cX4_nerve 41 = .ok (.getfield 16, 3) := by decide +kernel
theorem dX4_nerve_44 : decode cX4_nerve 44 = .ok (.getfield 116, 3) := by decide +kernel
theorem dX4_nerve_47 : decode cX4_nerve 47 = .ok (.iload_n 1, 1) := by decide +kernel
theorem dX4_nerve_48 : decode cX4_nerve 48 = .ok (.iload_n 3, 1) := by decide +kernel
theorem dX4_nerve_49 : decode cX4_nerve 49 = .ok (.iastore, 1) := by decide +kernel
theorem dX4_nerve_50 : decode cX4_nerve 50 = .ok (.aload_n 0, 1) := by decide +kernel
theorem dX4_nerve_51 : decode cX4_nerve 51 = .ok (.iload_n 1, 1) := by decide +kernel
theorem dX4_nerve_52 : decode cX4_nerve 52 = .ok (.iload_n 2, 1) := by decide +kernel
theorem dX4_nerve_53 : decode cX4_nerve 53 = .ok (.invokevirtual 167, 3) := by decide +kernel
theorem dX4_nerve_56 : decode cX4_nerve 56 = .ok (.ifCond .eq 5, 3) := by decide +kernel
theorem dX4_nerve_59 : decode cX4_nerve 59 = .ok (.iload_n 3, 1) := by decide +kernel
theorem dX4_nerve_60 : decode cX4_nerve 60 = .ok (.ireturn, 1) := by decide +kernel
theorem dX4_nerve_61 : decode cX4_nerve 61 = .ok (.iinc 3 1, 3) := by decide +kernel
theorem dX4_nerve_64 : decode cX4_nerve 64 = .ok (.goto (-34), 3) := by decide +kernel
theorem dX4_nerve_67 : decode cX4_nerve 67 = .ok (.aload_n 0, 1) := by decide +kernel
theorem dX4_nerve_68 : decode cX4_nerve 68 = .ok (.ldc 161, 2) := by decide +kernel
theorem dX4_nerve_70 : decode cX4_nerve 70 = .ok (.invokevirtual 55, 3) := by decide +kernel
theorem dX4_nerve_73 : decode cX4_nerve 73 = .ok (.ireturn, 1) := by decide +kernel
theorem dX4_worst_0 : decode cX4_worst 0 = .ok (.iload_n 1, 1) := by decide +kernel
theorem dX4_worst_1 : decode cX4_worst 1 = .ok (.iconst 0, 1) := by decide +kernel
theorem dX4_worst_2 : decode cX4_worst 2 = .ok (.sipush 300, 3) := by decide +kernel
theorem dX4_worst_5 : decode cX4_worst 5 = .ok (.invokestatic 50, 3) := by decide +kernel
theorem dX4_worst_8 : decode cX4_worst 8 = .ok (.ifCond .ne 10, 3) := by decide +kernel
theorem dX4_worst_11 : decode cX4_worst 11 = .ok (.aload_n 0, 1) := by decide +kernel
theorem dX4_worst_12 : decode cX4_worst 12 = .ok (.ldc 54, 2) := by decide +kernel
theorem dX4_worst_14 : decode cX4_worst 14 = .ok (.invokevirtual 55, 3) := by decide +kernel
theorem dX4_worst_17 : decode cX4_worst 17 = .ok (.ireturn, 1) := by decide +kernel
theorem dX4_worst_18 : decode cX4_worst 18 = .ok (.aload_n 0, 1) := by decide +kernel
theorem dX4_worst_19 : decode cX4_worst 19 = .ok (.getfield 12, 3) := by decide +kernel
theorem dX4_worst_22 : decode cX4_worst 22 = .ok (.getfield 101, 3) := by decide +kernel
theorem dX4_worst_25 : decode cX4_worst 25 = .ok (.ifCond .ne 10, 3) := by decide +kernel
theorem dX4_worst_28 : decode cX4_worst 28 = .ok (.aload_n 0, 1) := by decide +kernel
theorem dX4_worst_29 : decode cX4_worst 29 = .ok (.ldc 161, 2) := by decide +kernel
theorem dX4_worst_31 : decode cX4_worst 31 = .ok (.invokevirtual 55, 3) := by decide +kernel
theorem dX4_worst_34 : decode cX4_worst 34 = .ok (.ireturn, 1) := by decide +kernel
theorem dX4_worst_35 : decode cX4_worst 35 = .ok (.aload_n 0, 1) := by decide +kernel
theorem dX4_worst_36 : decode cX4_worst 36 = .ok (.invokevirtual 149, 3) := by decide +kernel
theorem dX4_worst_39 : decode cX4_worst 39 = .ok (.aload_n 0, 1) := by decide +kernel
theorem dX4_worst_40 : decode cX4_worst 40 = .ok (.getfield 16, 3) := by decide +kernel
theorem dX4_worst_43 : decode cX4_worst 43 = .ok (.iload_n 1, 1) := by decide +kernel
theorem dX4_worst_44 : decode cX4_worst 44 = .ok (.invokevirtual 146, 3) := by decide +kernel
theorem dX4_worst_47 : decode cX4_worst 47 = .ok (.iconst 0, 1) := by decide +kernel
theorem dX4_worst_48 : decode cX4_worst 48 = .ok (.istore_n 2, 1) := by decide +kernel
theorem dX4_worst_49 : decode cX4_worst 49 = .ok (.iconst 1, 1) := by decide +kernel
theorem dX4_worst_50 : decode cX4_worst 50 = .ok (.istore_n 3, 1) := by decide +kernel
theorem dX4_worst_51 : decode cX4_worst 51 = .ok (.iload_n 3, 1) := by decide +kernel
theorem dX4_worst_52 : decode cX4_worst 52 = .ok (.aload_n 0, 1) := by decide +kernel
theorem dX4_worst_53 : decode cX4_worst 53 = .ok (.getfield 16, 3) := by decide +kernel
theorem dX4_worst_56 : decode cX4_worst 56 = .ok (.getfield 101, 3) := by decide +kernel
theorem dX4_worst_59 : decode cX4_worst 59 = .ok (.if_icmp .ge 32, 3) := by decide +kernel
theorem dX4_worst_62 : decode cX4_worst 62 = .ok (.aload_n 0, 1) := by decide +kernel
theorem dX4_worst_63 : decode cX4_worst 63 = .ok (.getfield 16, 3) := by decide +kernel
theorem dX4_worst_66 : decode cX4_worst 66 = .ok (.getfield 113, 3) := by decide +kernel
theorem dX4_worst_69 : decode cX4_worst 69 = .ok (.iload_n 3, 1) := by decide +kernel
theorem dX4_worst_70 : decode cX4_worst 70 = .ok (.iaload, 1) := by decide +kernel
theorem dX4_worst_71 : decode cX4_worst 71 = .ok (.aload_n 0, 1) := by decide +kernel
theorem dX4_worst_72 : decode cX4_worst 72 = .ok (.getfield 16, 3) := by decide +kernel
theorem dX4_worst_75 : decode cX4_worst 75 = .ok (.getfield 113, 3) := by decide +kernel
theorem dX4_worst_78 : decode cX4_worst 78 = .ok (.iload_n 2, 1) := by decide +kernel
theorem dX4_worst_79 : decode cX4_worst 79 = .ok (.iaload, 1) := by decide +kernel
theorem dX4_worst_80 : decode cX4_worst 80 = .ok (.if_icmp .le 5, 3) := by decide +kernel
theorem dX4_worst_83 : decode cX4_worst 83 = .ok (.iload_n 3, 1) := by decide +kernel
theorem dX4_worst_84 : decode cX4_worst 84 = .ok (.istore_n 2, 1) := by decide +kernel
theorem dX4_worst_85 : decode cX4_worst 85 = .ok (.iinc 3 1, 3) := by decide +kernel
theorem dX4_worst_88 : decode cX4_worst 88 = .ok (.goto (-37), 3) := by decide +kernel
theorem dX4_worst_91 : decode cX4_worst 91 = .ok (.iload_n 2, 1) := by decide +kernel
theorem dX4_worst_92 : decode cX4_worst 92 = .ok (.ireturn, 1) := by decide +kernel
theorem dX4_feed_0 : decode cX4_feed 0 = .ok (.iload_n 2, 1) := by decide +kernel
theorem dX4_feed_1 : decode cX4_feed 1 = .ok (.iconst 1, 1) := by decide +kernel
theorem dX4_feed_2 : decode cX4_feed 2 = .ok (.iconst 4, 1) := by decide +kernel
theorem dX4_feed_3 : decode cX4_feed 3 = .ok (.invokestatic 50, 3) := by decide +kernel
theorem dX4_feed_6 : decode cX4_feed 6 = .ok (.ifCond .ne 10, 3) := by decide +kernel
theorem dX4_feed_9 : decode cX4_feed 9 = .ok (.aload_n 0, 1) := by decide +kernel
theorem dX4_feed_10 : decode cX4_feed 10 = .ok (.ldc 54, 2) := by decide +kernel
theorem dX4_feed_12 : decode cX4_feed 12 = .ok (.invokevirtual 55, 3) := by decide +kernel
theorem dX4_feed_15 : decode cX4_feed 15 = .ok (.ireturn, 1) := by decide +kernel
theorem dX4_feed_16 : decode cX4_feed 16 = .ok (.aload_n 0, 1) := by decide +kernel
theorem dX4_feed_17 : decode cX4_feed 17 = .ok (.getfield 25, 3) := by decide +kernel
theorem dX4_feed_20 : decode cX4_feed 20 = .ok (.getfield 170, 3) := by decide +kernel
theorem dX4_feed_23 : decode cX4_feed 23 = .ok (.bipush 120, 2) := by decide +kernel
theorem dX4_feed_25 : decode cX4_feed 25 = .ok (.iload_n 2, 1) := by decide +kernel
theorem dX4_feed_26 : decode cX4_feed 26 = .ok (.isub, 1) := by decide +kernel
theorem dX4_feed_27 : decode cX4_feed 27 = .ok (.if_icmp .le 10, 3) := by decide +kernel
theorem dX4_feed_30 : decode cX4_feed 30 = .ok (.aload_n 0, 1) := by decide +kernel
theorem dX4_feed_31 : decode cX4_feed 31 = .ok (.ldc 96, 2) := by decide +kernel
theorem dX4_feed_33 : decode cX4_feed 33 = .ok (.invokevirtual 55, 3) := by decide +kernel
theorem dX4_feed_36 : decode cX4_feed 36 = .ok (.ireturn, 1) := by decide +kernel
theorem dX4_feed_37 : decode cX4_feed 37 = .ok (.iload_n 2, 1) := by decide +kernel
theorem dX4_feed_38 : decode cX4_feed 38 = .ok (.iconst 1, 1) := by decide +kernel
theorem dX4_feed_39 : decode cX4_feed 39 = .ok (.isub, 1) := by decide +kernel
theorem dX4_feed_40 : decode cX4_feed 40 = .ok (.istore_n 3, 1) := by decide +kernel
theorem dX4_feed_41 : decode cX4_feed 41 = .ok (.iload_n 3, 1) := by decide +kernel
theorem dX4_feed_42 : decode cX4_feed 42 = .ok (.ifCond .lt 23, 3) := by decide +kernel
theorem dX4_feed_45 : decode cX4_feed 45 = .ok (.aload_n 0, 1) := by decide +kernel
theorem dX4_feed_46 : decode cX4_feed 46 = .ok (.getfield 25, 3) := by decide +kernel
theorem dX4_feed_49 : decode cX4_feed 49 = .ok (.iload_n 1, 1) := by decide +kernel
theorem dX4_feed_50 : decode cX4_feed 50 = .ok (.bipush 8, 2) := by decide +kernel
theorem dX4_feed_52 : decode cX4_feed 52 = .ok (.iload_n 3, 1) := by decide +kernel
theorem dX4_feed_53 : decode cX4_feed 53 = .ok (.imul, 1) := by decide +kernel
theorem dX4_feed_54 : decode cX4_feed 54 = .ok (.ishr, 1) := by decide +kernel
theorem dX4_feed_55 : decode cX4_feed 55 = .ok (.i2b, 1) := by decide +kernel
theorem dX4_feed_56 : decode cX4_feed 56 = .ok (.invokevirtual 173, 3) := by decide +kernel
theorem dX4_feed_59 : decode cX4_feed 59 = .ok (.iinc 3 (-1), 3) := by decide +kernel
theorem dX4_feed_62 : decode cX4_feed 62 = .ok (.goto (-21), 3) := by decide +kernel
theorem dX4_feed_65 : decode cX4_feed 65 = .ok (.aload_n 0, 1) := by decide +kernel
theorem dX4_feed_66 : decode cX4_feed 66 = .ok (.getfield 25, 3) := by decide +kernel
theorem dX4_feed_69 : decode cX4_feed 69 = .ok (.getfield 170, 3) := by decide +kernel
theorem dX4_feed_72 : decode cX4_feed 72 = .ok (.ireturn, 1) := by decide +kernel
theorem dX4_wipe_0 : decode cX4_wipe 0 = .ok (.aload_n 0, 1) := by decide +kernel
theorem dX4_wipe_1 : decode cX4_wipe 1 = .ok (.getfield 25, 3) := by decide +kernel
theorem dX4_wipe_4 : decode cX4_wipe 4 = .ok (.getfield 170, 3) := by decide +kernel
theorem dX4_wipe_7 : decode cX4_wipe 7 = .ok (.istore_n 1, 1) := by decide +kernel
theorem dX4_wipe_8 : decode cX4_wipe 8 = .ok (.aload_n 0, 1) := by decide +kernel
theorem dX4_wipe_9 : decode cX4_wipe 9 = .ok (.getfield 25, 3) := by decide +kernel
theorem dX4_wipe_12 : decode cX4_wipe 12 = .ok (.iconst 0, 1) := by decide +kernel
theorem dX4_wipe_13 : decode cX4_wipe 13 = .ok (.putfield 170, 3) := by decide +kernel
theorem dX4_wipe_16 : decode cX4_wipe 16 = .ok (.iload_n 1, 1) := by decide +kernel
theorem dX4_wipe_17 : decode cX4_wipe 17 = .ok (.ireturn, 1) := by decide +kernel
theorem dX4_night_0 : decode cX4_night 0 = .ok (.aload_n 0, 1) := by decide +kernel
theorem dX4_night_1 : decode cX4_night 1 = .ok (.invokevirtual 149, 3) := by decide +kernel
theorem dX4_night_4 : decode cX4_night 4 = .ok (.aload_n 0, 1) := by decide +kernel
theorem dX4_night_5 : decode cX4_night 5 = .ok (.getfield 34, 3) := by decide +kernel
theorem dX4_night_8 : decode cX4_night 8 = .ok (.aload_n 0, 1) := by decide +kernel
theorem dX4_night_9 : decode cX4_night 9 = .ok (.getfield 16, 3) := by decide +kernel
theorem dX4_night_12 : decode cX4_night 12 = .ok (.invokevirtual 176, 3) := by decide +kernel
theorem dX4_night_15 : decode cX4_night 15 = .ok (.istore_n 1, 1) := by decide +kernel
theorem dX4_night_16 : decode cX4_night 16 = .ok (.iload_n 1, 1) := by decide +kernel
theorem dX4_night_17 : decode cX4_night 17 = .ok (.ifCond .lt 14, 3) := by decide +kernel
theorem dX4_night_20 : decode cX4_night 20 = .ok (.aload_n 0, 1) := by decide +kernel
theorem dX4_night_21 : decode cX4_night 21 = .ok (.getfield 12, 3) := by decide +kernel
theorem dX4_night_24 : decode cX4_night 24 = .ok (.aload_n 0, 1) := by decide +kernel
theorem dX4_night_25 : decode cX4_night 25 = .ok (.getfield 16, 3) := by decide +kernel
theorem dX4_night_28 : decode cX4_night 28 = .ok (.invokevirtual 180, 3) := by decide +kernel
theorem dX4_night_31 : decode cX4_night 31 = .ok (.aload_n 0, 1) := by decide +kernel
theorem dX4_night_32 : decode cX4_night 32 = .ok (.getfield 25, 3) := by decide +kernel
theorem dX4_night_35 : decode cX4_night 35 = .ok (.iconst 0, 1) := by decide +kernel
theorem dX4_night_36 : decode cX4_night 36 = .ok (.putfield 170, 3) := by decide +kernel
theorem dX4_night_39 : decode cX4_night 39 = .ok (.iload_n 1, 1) := by decide +kernel
theorem dX4_night_40 : decode cX4_night 40 = .ok (.ireturn, 1) := by decide +kernel
theorem dX4_sheet_0 : decode cX4_sheet 0 = .ok (.iload_n 1, 1) := by decide +kernel
theorem dX4_sheet_1 : decode cX4_sheet 1 = .ok (.invokestatic 184, 3) := by decide +kernel
theorem dX4_sheet_4 : decode cX4_sheet 4 = .ok (.ifCond .eq 10, 3) := by decide +kernel
theorem dX4_sheet_7 : decode cX4_sheet 7 = .ok (.iload_n 2, 1) := by decide +kernel
theorem dX4_sheet_8 : decode cX4_sheet 8 = .ok (.invokestatic 187, 3) := by decide +kernel
theorem dX4_sheet_11 : decode cX4_sheet 11 = .ok (.ifCond .ne 10, 3) := by decide +kernel
theorem dX4_sheet_14 : decode cX4_sheet 14 = .ok (.aload_n 0, 1) := by decide +kernel
theorem dX4_sheet_15 : decode cX4_sheet 15 = .ok (.ldc 54, 2) := by decide +kernel
theorem dX4_sheet_17 : decode cX4_sheet 17 = .ok (.invokevirtual 55, 3) := by decide +kernel
theorem dX4_sheet_20 : decode cX4_sheet 20 = .ok (.ireturn, 1) := by decide +kernel
theorem dX4_sheet_21 : decode cX4_sheet 21 = .ok (.iload_n 3, 1) := by decide +kernel
theorem dX4_sheet_22 : decode cX4_sheet 22 = .ok (.ifCond .ge 10, 3) := by decide +kernel
theorem dX4_sheet_25 : decode cX4_sheet 25 = .ok (.aload_n 0, 1) := by decide +kernel
theorem dX4_sheet_26 : decode cX4_sheet 26 = .ok (.ldc 190, 2) := by decide +kernel
theorem dX4_sheet_28 : decode cX4_sheet 28 = .ok (.invokevirtual 55, 3) := by decide +kernel
theorem dX4_sheet_31 : decode cX4_sheet 31 = .ok (.ireturn, 1) := by decide +kernel
theorem dX4_sheet_32 : decode cX4_sheet 32 = .ok (.iload_n 3, 1) := by decide +kernel
theorem dX4_sheet_33 : decode cX4_sheet 33 = .ok (.bipush 40, 2) := by decide +kernel
theorem dX4_sheet_35 : decode cX4_sheet 35 = .ok (.if_icmp .le 10, 3) := by decide +kernel
theorem dX4_sheet_38 : decode cX4_sheet 38 = .ok (.aload_n 0, 1) := by decide +kernel
theorem dX4_sheet_39 : decode cX4_sheet 39 = .ok (.ldc 54, 2) := by decide +kernel
theorem dX4_sheet_41 : decode cX4_sheet 41 = .ok (.invokevirtual 55, 3) := by decide +kernel
theorem dX4_sheet_44 : decode cX4_sheet 44 = .ok (.ireturn, 1) := by decide +kernel
theorem dX4_sheet_45 : decode cX4_sheet 45 = .ok (.aload_n 0, 1) := by decide +kernel
theorem dX4_sheet_46 : decode cX4_sheet 46 = .ok (.getfield 40, 3) := by decide +kernel
theorem dX4_sheet_49 : decode cX4_sheet 49 = .ok (.iload_n 1, 1) := by decide +kernel
theorem dX4_sheet_50 : decode cX4_sheet 50 = .ok (.aaload, 1) := by decide +kernel
theorem dX4_sheet_51 : decode cX4_sheet 51 = .ok (.iload_n 2, 1) := by decide +kernel
theorem dX4_sheet_52 : decode cX4_sheet 52 = .ok (.iload_n 3, 1) := by decide +kernel
theorem dX4_sheet_53 : decode cX4_sheet 53 = .ok (.invokevirtual 191, 3) := by decide +kernel
theorem dX4_sheet_56 : decode cX4_sheet 56 = .ok (.aload_n 0, 1) := by decide +kernel
theorem dX4_sheet_57 : decode cX4_sheet 57 = .ok (.getfield 40, 3) := by decide +kernel
theorem dX4_sheet_60 : decode cX4_sheet 60 = .ok (.iload_n 1, 1) := by decide +kernel
theorem dX4_sheet_61 : decode cX4_sheet 61 = .ok (.aaload, 1) := by decide +kernel
theorem dX4_sheet_62 : decode cX4_sheet 62 = .ok (.getfield 194, 3) := by decide +kernel
theorem dX4_sheet_65 : decode cX4_sheet 65 = .ok (.ireturn, 1) := by decide +kernel
theorem dX4_write_0 : decode cX4_write 0 = .ok (.iload_n 1, 1) := by decide +kernel
theorem dX4_write_1 : decode cX4_write 1 = .ok (.invokestatic 184, 3) := by decide +kernel
theorem dX4_write_4 : decode cX4_write 4 = .ok (.ifCond .ne 11, 3) := by decide +kernel
theorem dX4_write_7 : decode cX4_write 7 = .ok (.aload_n 0, 1) := by decide +kernel
theorem dX4_write_8 : decode cX4_write 8 = .ok (.ldc 54, 2) := by decide +kernel
theorem dX4_write_10 : decode cX4_write 10 = .ok (.invokevirtual 55, 3) := by decide +kernel
theorem dX4_write_13 : decode cX4_write 13 = .ok (.i2l, 1) := by decide +kernel
theorem dX4_write_14 : decode cX4_write 14 = .ok (.lreturn, 1) := by decide +kernel
theorem dX4_write_15 : decode cX4_write 15 = .ok (.aload_n 0, 1) := by decide +kernel
theorem dX4_write_16 : decode cX4_write 16 = .ok (.getfield 40, 3) := by decide +kernel
theorem dX4_write_19 : decode cX4_write 19 = .ok (.iload_n 1, 1) := by decide +kernel
theorem dX4_write_20 : decode cX4_write 20 = .ok (.aaload, 1) := by decide +kernel
theorem dX4_write_21 : decode cX4_write 21 = .ok (.astore 5, 2) := by decide +kernel
theorem dX4_write_23 : decode cX4_write 23 = .ok (.aload 5, 2) := by decide +kernel
theorem dX4_write_25 : decode cX4_write 25 = .ok (.invokevirtual 197, 3) := by decide +kernel
theorem dX4_write_28 : decode cX4_write 28 = .ok (.ifCond .eq 11, 3) := by decide +kernel
theorem dX4_write_31 : decode cX4_write 31 = .ok (.aload_n 0, 1) := by decide +kernel
theorem dX4_write_32 : decode cX4_write 32 = .ok (.ldc 200, 2) := by decide +kernel
theorem dX4_write_34 : decode cX4_write 34 = .ok (.invokevirtual 55, 3) := by decide +kernel
theorem dX4_write_37 : decode cX4_write 37 = .ok (.i2l, 1) := by decide +kernel
theorem dX4_write_38 : decode cX4_write 38 = .ok (.lreturn, 1) := by decide +kernel
theorem dX4_write_39 : decode cX4_write 39 = .ok (.iload_n 2, 1) := by decide +kernel
theorem dX4_write_40 : decode cX4_write 40 = .ok (.iconst 0, 1) := by decide +kernel
theorem dX4_write_41 : decode cX4_write 41 = .ok (.aload 5, 2) := by decide +kernel
theorem dX4_write_43 : decode cX4_write 43 = .ok (.getfield 194, 3) := by decide +kernel
theorem dX4_write_46 : decode cX4_write 46 = .ok (.iconst 1, 1) := by decide +kernel
theorem dX4_write_47 : decode cX4_write 47 = .ok (.isub, 1) := by decide +kernel
theorem dX4_write_48 : decode cX4_write 48 = .ok (.invokestatic 50, 3) := by decide +kernel
theorem dX4_write_51 : decode cX4_write 51 = .ok (.ifCond .ne 11, 3) := by decide +kernel
theorem dX4_write_54 : decode cX4_write 54 = .ok (.aload_n 0, 1) := by decide +kernel
theorem dX4_write_55 : decode cX4_write 55 = .ok (.ldc 54, 2) := by decide +kernel
theorem dX4_write_57 : decode cX4_write 57 = .ok (.invokevirtual 55, 3) := by decide +kernel
theorem dX4_write_60 : decode cX4_write 60 = .ok (.i2l, 1) := by decide +kernel
theorem dX4_write_61 : decode cX4_write 61 = .ok (.lreturn, 1) := by decide +kernel
theorem dX4_write_62 : decode cX4_write 62 = .ok (.aload 5, 2) := by decide +kernel
theorem dX4_write_64 : decode cX4_write 64 = .ok (.getfield 201, 3) := by decide +kernel
theorem dX4_write_67 : decode cX4_write 67 = .ok (.iload_n 2, 1) := by decide +kernel
theorem dX4_write_68 : decode cX4_write 68 = .ok (.laload, 1) := by decide +kernel
theorem dX4_write_69 : decode cX4_write 69 = .ok (.lstore 6, 2) := by decide +kernel
theorem dX4_write_71 : decode cX4_write 71 = .ok (.aload 5, 2) := by decide +kernel
theorem dX4_write_73 : decode cX4_write 73 = .ok (.iload_n 2, 1) := by decide +kernel
theorem dX4_write_74 : decode cX4_write 74 = .ok (.lload_n 3, 1) := by decide +kernel
theorem dX4_write_75 : decode cX4_write 75 = .ok (.invokevirtual 205, 3) := by decide +kernel
theorem dX4_write_78 : decode cX4_write 78 = .ok (.lload 6, 2) := by decide +kernel
theorem dX4_write_80 : decode cX4_write 80 = .ok (.lreturn, 1) := by decide +kernel
theorem dX4_copy_0 : decode cX4_copy 0 = .ok (.iload_n 1, 1) := by decide +kernel
theorem dX4_copy_1 : decode cX4_copy 1 = .ok (.invokestatic 184, 3) := by decide +kernel
theorem dX4_copy_4 : decode cX4_copy 4 = .ok (.ifCond .eq 10, 3) := by decide +kernel
theorem dX4_copy_7 : decode cX4_copy 7 = .ok (.iload_n 3, 1) := by decide +kernel
theorem dX4_copy_8 : decode cX4_copy 8 = .ok (.invokestatic 184, 3) := by decide +kernel
theorem dX4_copy_11 : decode cX4_copy 11 = .ok (.ifCond .ne 10, 3) := by decide +kernel
theorem dX4_copy_14 : decode cX4_copy 14 = .ok (.aload_n 0, 1) := by decide +kernel
theorem dX4_copy_15 : decode cX4_copy 15 = .ok (.ldc 54, 2) := by decide +kernel
theorem dX4_copy_17 : decode cX4_copy 17 = .ok (.invokevirtual 55, 3) := by decide +kernel
theorem dX4_copy_20 : decode cX4_copy 20 = .ok (.ireturn, 1) := by decide +kernel
theorem dX4_copy_21 : decode cX4_copy 21 = .ok (.aload_n 0, 1) := by decide +kernel
theorem dX4_copy_22 : decode cX4_copy 22 = .ok (.getfield 40, 3) := by decide +kernel
theorem dX4_copy_25 : decode cX4_copy 25 = .ok (.iload_n 1, 1) := by decide +kernel
theorem dX4_copy_26 : decode cX4_copy 26 = .ok (.aaload, 1) := by decide +kernel
theorem dX4_copy_27 : decode cX4_copy 27 = .ok (.astore 6, 2) := by decide +kernel
theorem dX4_copy_29 : decode cX4_copy 29 = .ok (.aload_n 0, 1) := by decide +kernel
theorem dX4_copy_30 : decode cX4_copy 30 = .ok (.getfield 40, 3) := by decide +kernel
theorem dX4_copy_33 : decode cX4_copy 33 = .ok (.iload_n 3, 1) := by decide +kernel
theorem dX4_copy_34 : decode cX4_copy 34 = .ok (.aaload, 1) := by decide +kernel
theorem dX4_copy_35 : decode cX4_copy 35 = .ok (.astore 7, 2) := by decide +kernel
theorem dX4_copy_37 : decode cX4_copy 37 = .ok (.aload 6, 2) := by decide +kernel
theorem dX4_copy_39 : decode cX4_copy 39 = .ok (.invokevirtual 197, 3) := by decide +kernel
theorem dX4_copy_42 : decode cX4_copy 42 = .ok (.ifCond .ne 11, 3) := by decide +kernel
theorem dX4_copy_45 : decode cX4_copy 45 = .ok (.aload 7, 2) := by decide +kernel
theorem dX4_copy_47 : decode cX4_copy 47 = .ok (.invokevirtual 197, 3) := by decide +kernel
theorem dX4_copy_50 : decode cX4_copy 50 = .ok (.ifCond .eq 10, 3) := by decide +kernel
theorem dX4_copy_53 : decode cX4_copy 53 = .ok (.aload_n 0, 1) := by decide +kernel
theorem dX4_copy_54 : decode cX4_copy 54 = .ok (.ldc 200, 2) := by decide +kernel
theorem dX4_copy_56 : decode cX4_copy 56 = .ok (.invokevirtual 55, 3) := by decide +kernel
theorem dX4_copy_59 : decode cX4_copy 59 = .ok (.ireturn, 1) := by decide +kernel
theorem dX4_copy_60 : decode cX4_copy 60 = .ok (.aload 6, 2) := by decide +kernel
theorem dX4_copy_62 : decode cX4_copy 62 = .ok (.getfield 208, 3) := by decide +kernel
theorem dX4_copy_65 : decode cX4_copy 65 = .ok (.aload 7, 2) := by decide +kernel
theorem dX4_copy_67 : decode cX4_copy 67 = .ok (.getfield 208, 3) := by decide +kernel
theorem dX4_copy_70 : decode cX4_copy 70 = .ok (.if_icmp .eq 10, 3) := by decide +kernel
theorem dX4_copy_73 : decode cX4_copy 73 = .ok (.aload_n 0, 1) := by decide +kernel
theorem dX4_copy_74 : decode cX4_copy 74 = .ok (.ldc 143, 2) := by decide +kernel
theorem dX4_copy_76 : decode cX4_copy 76 = .ok (.invokevirtual 55, 3) := by decide +kernel
theorem dX4_copy_79 : decode cX4_copy 79 = .ok (.ireturn, 1) := by decide +kernel
theorem dX4_copy_80 : decode cX4_copy 80 = .ok (.aload 6, 2) := by decide +kernel
theorem dX4_copy_82 : decode cX4_copy 82 = .ok (.iload_n 2, 1) := by decide +kernel
theorem dX4_copy_83 : decode cX4_copy 83 = .ok (.iload 5, 2) := by decide +kernel
theorem dX4_copy_85 : decode cX4_copy 85 = .ok (.invokevirtual 211, 3) := by decide +kernel
theorem dX4_copy_88 : decode cX4_copy 88 = .ok (.ifCond .eq 15, 3) := by decide +kernel
theorem dX4_copy_91 : decode cX4_copy 91 = .ok (.aload 7, 2) := by decide +kernel
theorem dX4_copy_93 : decode cX4_copy 93 = .ok (.iload 4, 2) := by decide +kernel
theorem dX4_copy_95 : decode cX4_copy 95 = .ok (.iload 5, 2) := by decide +kernel
theorem dX4_copy_97 : decode cX4_copy 97 = .ok (.invokevirtual 211, 3) := by decide +kernel
theorem dX4_copy_100 : decode cX4_copy 100 = .ok (.ifCond .ne 10, 3) := by decide +kernel
theorem dX4_copy_103 : decode cX4_copy 103 = .ok (.aload_n 0, 1) := by decide +kernel
theorem dX4_copy_104 : decode cX4_copy 104 = .ok (.ldc 54, 2) := by decide +kernel
theorem dX4_copy_106 : decode cX4_copy 106 = .ok (.invokevirtual 55, 3) := by decide +kernel
theorem dX4_copy_109 : decode cX4_copy 109 = .ok (.ireturn, 1) := by decide +kernel
theorem dX4_copy_110 : decode cX4_copy 110 = .ok (.aload 6, 2) := by decide +kernel
theorem dX4_copy_112 : decode cX4_copy 112 = .ok (.getfield 201, 3) := by decide +kernel
theorem dX4_copy_115 : decode cX4_copy 115 = .ok (.iload_n 2, 1) := by decide +kernel
theorem dX4_copy_116 : decode cX4_copy 116 = .ok (.aload 7, 2) := by decide +kernel
theorem dX4_copy_118 : decode cX4_copy 118 = .ok (.getfield 201, 3) := by decide +kernel
theorem dX4_copy_121 : decode cX4_copy 121 = .ok (.iload 4, 2) := by decide +kernel
theorem dX4_copy_123 : decode cX4_copy 123 = .ok (.iload 5, 2) := by decide +kernel
theorem dX4_copy_125 : decode cX4_copy 125 = .ok (.invokestatic 214, 3) := by decide +kernel
theorem dX4_copy_128 : decode cX4_copy 128 = .ok (.iload 5, 2) := by decide +kernel
theorem dX4_copy_130 : decode cX4_copy 130 = .ok (.ireturn, 1) := by decide +kernel
theorem dX4_lays_0 : decode cX4_lays 0 = .ok (.iload_n 1, 1) := by decide +kernel
theorem dX4_lays_1 : decode cX4_lays 1 = .ok (.invokestatic 184, 3) := by decide +kernel
theorem dX4_lays_4 : decode cX4_lays 4 = .ok (.ifCond .ne 10, 3) := by decide +kernel
theorem dX4_lays_7 : decode cX4_lays 7 = .ok (.aload_n 0, 1) := by decide +kernel
theorem dX4_lays_8 : decode cX4_lays 8 = .ok (.ldc 54, 2) := by decide +kernel
theorem dX4_lays_10 : decode cX4_lays 10 = .ok (.invokevirtual 55, 3) := by decide +kernel
theorem dX4_lays_13 : decode cX4_lays 13 = .ok (.ireturn, 1) := by decide +kernel
theorem dX4_lays_14 : decode cX4_lays 14 = .ok (.aload_n 0, 1) := by decide +kernel
theorem dX4_lays_15 : decode cX4_lays 15 = .ok (.getfield 40, 3) := by decide +kernel
theorem dX4_lays_18 : decode cX4_lays 18 = .ok (.iload_n 1, 1) := by decide +kernel
theorem dX4_lays_19 : decode cX4_lays 19 = .ok (.aaload, 1) := by decide +kernel
theorem dX4_lays_20 : decode cX4_lays 20 = .ok (.astore_n 2, 1) := by decide +kernel
theorem dX4_lays_21 : decode cX4_lays 21 = .ok (.aload_n 2, 1) := by decide +kernel
theorem dX4_lays_22 : decode cX4_lays 22 = .ok (.invokevirtual 197, 3) := by decide +kernel
theorem dX4_lays_25 : decode cX4_lays 25 = .ok (.ifCond .eq 10, 3) := by decide +kernel
theorem dX4_lays_28 : decode cX4_lays 28 = .ok (.aload_n 0, 1) := by decide +kernel
theorem dX4_lays_29 : decode cX4_lays 29 = .ok (.ldc 200, 2) := by decide +kernel
theorem dX4_lays_31 : decode cX4_lays 31 = .ok (.invokevirtual 55, 3) := by decide +kernel
theorem dX4_lays_34 : decode cX4_lays 34 = .ok (.ireturn, 1) := by decide +kernel
theorem dX4_lays_35 : decode cX4_lays 35 = .ok (.iconst 0, 1) := by decide +kernel
theorem dX4_lays_36 : decode cX4_lays 36 = .ok (.istore_n 3, 1) := by decide +kernel
theorem dX4_lays_37 : decode cX4_lays 37 = .ok (.aload_n 2, 1) := by decide +kernel
theorem dX4_lays_38 : decode cX4_lays 38 = .ok (.getfield 194, 3) := by decide +kernel
theorem dX4_lays_41 : decode cX4_lays 41 = .ok (.aload_n 0, 1) := by decide +kernel
theorem dX4_lays_42 : decode cX4_lays 42 = .ok (.getfield 12, 3) := by decide +kernel
theorem dX4_lays_45 : decode cX4_lays 45 = .ok (.getfield 101, 3) := by decide +kernel
theorem dX4_lays_48 : decode cX4_lays 48 = .ok (.invokestatic 220, 3) := by decide +kernel
theorem dX4_lays_51 : decode cX4_lays 51 = .ok (.istore 4, 2) := by decide +kernel
theorem dX4_lays_53 : decode cX4_lays 53 = .ok (.iconst 0, 1) := by decide +kernel
theorem dX4_lays_54 : decode cX4_lays 54 = .ok (.istore 5, 2) := by decide +kernel
theorem dX4_lays_56 : decode cX4_lays 56 = .ok (.iload 5, 2) := by decide +kernel
theorem dX4_lays_58 : decode cX4_lays 58 = .ok (.iload 4, 2) := by decide +kernel
theorem dX4_lays_60 : decode cX4_lays 60 = .ok (.if_icmp .ge 50, 3) := by decide +kernel
theorem dX4_lays_63 : decode cX4_lays 63 = .ok (.aload_n 2, 1) := by decide +kernel
theorem dX4_lays_64 : decode cX4_lays 64 = .ok (.getfield 201, 3) := by decide +kernel
theorem dX4_lays_67 : decode cX4_lays 67 = .ok (.iload 5, 2) := by decide +kernel
theorem dX4_lays_69 : decode cX4_lays 69 = .ok (.laload, 1) := by decide +kernel
theorem dX4_lays_70 : decode cX4_lays 70 = .ok (.lstore 6, 2) := by decide +kernel
theorem dX4_lays_72 : decode cX4_lays 72 = .ok (.lload 6, 2) := by decide +kernel
theorem dX4_lays_74 : decode cX4_lays 74 = .ok (.lconst 0, 1) := by decide +kernel
theorem dX4_lays_75 : decode cX4_lays 75 = .ok (.lcmp, 1) := by decide +kernel
theorem dX4_lays_76 : decode cX4_lays 76 = .ok (.ifCond .lt 28, 3) := by decide +kernel
theorem dX4_lays_79 : decode cX4_lays 79 = .ok (.lload 6, 2) := by decide +kernel
theorem dX4_lays_81 : decode cX4_lays 81 = .ok (.ldc2_w 226, 3) := by decide +kernel
theorem dX4_lays_84 : decode cX4_lays 84 = .ok (.lcmp, 1) := by decide +kernel
theorem dX4_lays_85 : decode cX4_lays 85 = .ok (.ifCond .gt 19, 3) := by decide +kernel
theorem dX4_lays_88 : decode cX4_lays 88 = .ok (.aload_n 0, 1) := by decide +kernel
theorem dX4_lays_89 : decode cX4_lays 89 = .ok (.getfield 12, 3) := by decide +kernel
theorem dX4_lays_92 : decode cX4_lays 92 = .ok (.getfield 116, 3) := by decide +kernel
theorem dX4_lays_95 : decode cX4_lays 95 = .ok (.iload 5, 2) := by decide +kernel
theorem dX4_lays_97 : decode cX4_lays 97 = .ok (.lload 6, 2) := by decide +kernel
theorem dX4_lays_99 : decode cX4_lays 99 = .ok (.l2i, 1) := by decide +kernel
theorem dX4_lays_100 : decode cX4_lays 100 = .ok (.iastore, 1) := by decide +kernel
theorem dX4_lays_101 : decode cX4_lays 101 = .ok (.iinc 3 1, 3) := by decide +kernel
theorem dX4_lays_104 : decode cX4_lays 104 = .ok (.iinc 5 1, 3) := by decide +kernel
theorem dX4_lays_107 : decode cX4_lays 107 = .ok (.goto (-51), 3) := by decide +kernel
theorem dX4_lays_110 : decode cX4_lays 110 = .ok (.iload_n 3, 1) := by decide +kernel
theorem dX4_lays_111 : decode cX4_lays 111 = .ok (.ireturn, 1) := by decide +kernel
theorem dX4_book_0 : decode cX4_book 0 = .ok (.aload_n 0, 1) := by decide +kernel
theorem dX4_book_1 : decode cX4_book 1 = .ok (.iload_n 1, 1) := by decide +kernel
theorem dX4_book_2 : decode cX4_book 2 = .ok (.iload_n 2, 1) := by decide +kernel
theorem dX4_book_3 : decode cX4_book 3 = .ok (.invokevirtual 228, 3) := by decide +kernel
theorem dX4_book_6 : decode cX4_book 6 = .ok (.istore_n 3, 1) := by decide +kernel
theorem dX4_book_7 : decode cX4_book 7 = .ok (.iload_n 3, 1) := by decide +kernel
theorem dX4_book_8 : decode cX4_book 8 = .ok (.ifCond .eq 9, 3) := by decide +kernel
theorem dX4_book_11 : decode cX4_book 11 = .ok (.aload_n 0, 1) := by decide +kernel
theorem dX4_book_12 : decode cX4_book 12 = .ok (.iload_n 3, 1) := by decide +kernel
theorem dX4_book_13 : decode cX4_book 13 = .ok (.invokevirtual 55, 3) := by decide +kernel
theorem dX4_book_16 : decode cX4_book 16 = .ok (.ireturn, 1) := by decide +kernel
theorem dX4_book_17 : decode cX4_book 17 = .ok (.aload_n 0, 1) := by decide +kernel
theorem dX4_book_18 : decode cX4_book 18 = .ok (.getfield 40, 3) := by decide +kernel
theorem dX4_book_21 : decode cX4_book 21 = .ok (.iload_n 1, 1) := by decide +kernel
theorem dX4_book_22 : decode cX4_book 22 = .ok (.aaload, 1) := by decide +kernel
theorem dX4_book_23 : decode cX4_book 23 = .ok (.astore 4, 2) := by decide +kernel
theorem dX4_book_25 : decode cX4_book 25 = .ok (.aload_n 0, 1) := by decide +kernel
theorem dX4_book_26 : decode cX4_book 26 = .ok (.invokevirtual 149, 3) := by decide +kernel
theorem dX4_book_29 : decode cX4_book 29 = .ok (.iconst 0, 1) := by decide +kernel
theorem dX4_book_30 : decode cX4_book 30 = .ok (.istore 5, 2) := by decide +kernel
theorem dX4_book_32 : decode cX4_book 32 = .ok (.iload 5, 2) := by decide +kernel
theorem dX4_book_34 : decode cX4_book 34 = .ok (.aload 4, 2) := by decide +kernel
theorem dX4_book_36 : decode cX4_book 36 = .ok (.getfield 194, 3) := by decide +kernel
theorem dX4_book_39 : decode cX4_book 39 = .ok (.if_icmp .ge 33, 3) := by decide +kernel
theorem dX4_book_42 : decode cX4_book 42 = .ok (.aload 4, 2) := by decide +kernel
theorem dX4_book_44 : decode cX4_book 44 = .ok (.iload 5, 2) := by decide +kernel
theorem dX4_book_46 : decode cX4_book 46 = .ok (.aload_n 0, 1) := by decide +kernel
theorem dX4_book_47 : decode cX4_book 47 = .ok (.getfield 16, 3) := by decide +kernel
theorem dX4_book_50 : decode cX4_book 50 = .ok (.getfield 113, 3) := by decide +kernel
theorem dX4_book_53 : decode cX4_book 53 = .ok (.iload_n 2, 1) := by decide +kernel
theorem dX4_book_54 : decode cX4_book 54 = .ok (.iaload, 1) := by decide +kernel
theorem dX4_book_55 : decode cX4_book 55 = .ok (.i2l, 1) := by decide +kernel
theorem dX4_book_56 : decode cX4_book 56 = .ok (.invokevirtual 205, 3) := by decide +kernel
theorem dX4_book_59 : decode cX4_book 59 = .ok (.aload_n 0, 1) := by decide +kernel
theorem dX4_book_60 : decode cX4_book 60 = .ok (.getfield 16, 3) := by decide +kernel
theorem dX4_book_63 : decode cX4_book 63 = .ok (.invokevirtual 155, 3) := by decide +kernel
theorem dX4_book_66 : decode cX4_book 66 = .ok (.iinc 5 1, 3) := by decide +kernel
theorem dX4_book_69 : decode cX4_book 69 = .ok (.goto (-37), 3) := by decide +kernel
theorem dX4_book_72 : decode cX4_book 72 = .ok (.aload 4, 2) := by decide +kernel
theorem dX4_book_74 : decode cX4_book 74 = .ok (.getfield 194, 3) := by decide +kernel
theorem dX4_book_77 : decode cX4_book 77 = .ok (.ireturn, 1) := by decide +kernel
theorem dX4_read_0 : decode cX4_read 0 = .ok (.aload_n 0, 1) := by decide +kernel
theorem dX4_read_1 : decode cX4_read 1 = .ok (.iload_n 1, 1) := by decide +kernel
theorem dX4_read_2 : decode cX4_read 2 = .ok (.iload_n 2, 1) := by decide +kernel
theorem dX4_read_3 : decode cX4_read 3 = .ok (.invokevirtual 228, 3) := by decide +kernel
theorem dX4_read_6 : decode cX4_read 6 = .ok (.istore_n 3, 1) := by decide +kernel
theorem dX4_read_7 : decode cX4_read 7 = .ok (.iload_n 3, 1) := by decide +kernel
theorem dX4_read_8 : decode cX4_read 8 = .ok (.ifCond .eq 9, 3) := by decide +kernel
theorem dX4_read_11 : decode cX4_read 11 = .ok (.aload_n 0, 1) := by decide +kernel
theorem dX4_read_12 : decode cX4_read 12 = .ok (.iload_n 3, 1) := by decide +kernel
theorem dX4_read_13 : decode cX4_read 13 = .ok (.invokevirtual 55, 3) := by decide +kernel
theorem dX4_read_16 : decode cX4_read 16 = .ok (.ireturn, 1) := by decide +kernel
theorem dX4_read_17 : decode cX4_read 17 = .ok (.iconst 0, 1) := by decide +kernel
theorem dX4_read_18 : decode cX4_read 18 = .ok (.istore 4, 2) := by decide +kernel
theorem dX4_read_20 : decode cX4_read 20 = .ok (.iconst 0, 1) := by decide +kernel
theorem dX4_read_21 : decode cX4_read 21 = .ok (.istore 5, 2) := by decide +kernel
theorem dX4_read_23 : decode cX4_read 23 = .ok (.iload 5, 2) := by decide +kernel
theorem dX4_read_25 : decode cX4_read 25 = .ok (.bipush 6, 2) := by decide +kernel
theorem dX4_read_27 : decode cX4_read 27 = .ok (.if_icmp .ge 66, 3) := by decide +kernel
theorem dX4_read_30 : decode cX4_read 30 = .ok (.iconst 0, 1) := by decide +kernel
theorem dX4_read_31 : decode cX4_read 31 = .ok (.istore 6, 2) := by decide +kernel
theorem dX4_read_33 : decode cX4_read 33 = .ok (.iload 6, 2) := by decide +kernel
theorem dX4_read_35 : decode cX4_read 35 = .ok (.bipush 9, 2) := by decide +kernel
theorem dX4_read_37 : decode cX4_read 37 = .ok (.if_icmp .gt 50, 3) := by decide +kernel
theorem dX4_read_40 : decode cX4_read 40 = .ok (.aload_n 0, 1) := by decide +kernel
theorem dX4_read_41 : decode cX4_read 41 = .ok (.invokevirtual 149, 3) := by decide +kernel
theorem dX4_read_44 : decode cX4_read 44 = .ok (.aload_n 0, 1) := by decide +kernel
theorem dX4_read_45 : decode cX4_read 45 = .ok (.getfield 16, 3) := by decide +kernel
theorem dX4_read_48 : decode cX4_read 48 = .ok (.getfield 104, 3) := by decide +kernel
theorem dX4_read_51 : decode cX4_read 51 = .ok (.iload_n 2, 1) := by decide +kernel
theorem dX4_read_52 : decode cX4_read 52 = .ok (.iload 5, 2) := by decide +kernel
theorem dX4_read_54 : decode cX4_read 54 = .ok (.iastore, 1) := by decide +kernel
theorem dX4_read_55 : decode cX4_read 55 = .ok (.aload_n 0, 1) := by decide +kernel
theorem dX4_read_56 : decode cX4_read 56 = .ok (.getfield 16, 3) := by decide +kernel
theorem dX4_read_59 : decode cX4_read 59 = .ok (.iload 6, 2) := by decide +kernel
theorem dX4_read_61 : decode cX4_read 61 = .ok (.putfield 70, 3) := by decide +kernel
theorem dX4_read_64 : decode cX4_read 64 = .ok (.aload_n 0, 1) := by decide +kernel
theorem dX4_read_65 : decode cX4_read 65 = .ok (.aload_n 0, 1) := by decide +kernel
theorem dX4_read_66 : decode cX4_read 66 = .ok (.getfield 40, 3) := by decide +kernel
theorem dX4_read_69 : decode cX4_read 69 = .ok (.iload_n 1, 1) := by decide +kernel
theorem dX4_read_70 : decode cX4_read 70 = .ok (.aaload, 1) := by decide +kernel
theorem dX4_read_71 : decode cX4_read 71 = .ok (.iload_n 2, 1) := by decide +kernel
theorem dX4_read_72 : decode cX4_read 72 = .ok (.invokevirtual 231, 3) := by decide +kernel
theorem dX4_read_75 : decode cX4_read 75 = .ok (.ifCond .eq 6, 3) := by decide +kernel
theorem dX4_read_78 : decode cX4_read 78 = .ok (.iinc 4 1, 3) := by decide +kernel
theorem dX4_read_81 : decode cX4_read 81 = .ok (.iinc 6 1, 3) := by decide +kernel
theorem dX4_read_84 : decode cX4_read 84 = .ok (.goto (-51), 3) := by decide +kernel
theorem dX4_read_87 : decode cX4_read 87 = .ok (.iinc 5 1, 3) := by decide +kernel
theorem dX4_read_90 : decode cX4_read 90 = .ok (.goto (-67), 3) := by decide +kernel
theorem dX4_read_93 : decode cX4_read 93 = .ok (.iload 4, 2) := by decide +kernel
theorem dX4_read_95 : decode cX4_read 95 = .ok (.ireturn, 1) := by decide +kernel
theorem dX4_image_0 : decode cX4_image 0 = .ok (.aload_n 0, 1) := by decide +kernel
theorem dX4_image_1 : decode cX4_image 1 = .ok (.getfield 19, 3) := by decide +kernel
theorem dX4_image_4 : decode cX4_image 4 = .ok (.aload_n 0, 1) := by decide +kernel
theorem dX4_image_5 : decode cX4_image 5 = .ok (.getfield 12, 3) := by decide +kernel
theorem dX4_image_8 : decode cX4_image 8 = .ok (.invokevirtual 180, 3) := by decide +kernel
theorem dX4_image_11 : decode cX4_image 11 = .ok (.aload_n 0, 1) := by decide +kernel
theorem dX4_image_12 : decode cX4_image 12 = .ok (.iconst 1, 1) := by decide +kernel
theorem dX4_image_13 : decode cX4_image 13 = .ok (.putfield 235, 3) := by decide +kernel
theorem dX4_image_16 : decode cX4_image 16 = .ok (.iconst 1, 1) := by decide +kernel
theorem dX4_image_17 : decode cX4_image 17 = .ok (.ireturn, 1) := by decide +kernel
theorem dX4_undo_0 : decode cX4_undo 0 = .ok (.aload_n 0, 1) := by decide +kernel
theorem dX4_undo_1 : decode cX4_undo 1 = .ok (.getfield 235, 3) := by decide +kernel
theorem dX4_undo_4 : decode cX4_undo 4 = .ok (.ifCond .ne 10, 3) := by decide +kernel
theorem dX4_undo_7 : decode cX4_undo 7 = .ok (.aload_n 0, 1) := by decide +kernel
theorem dX4_undo_8 : decode cX4_undo 8 = .ok (.ldc 161, 2) := by decide +kernel
theorem dX4_undo_10 : decode cX4_undo 10 = .ok (.invokevirtual 55, 3) := by decide +kernel
theorem dX4_undo_13 : decode cX4_undo 13 = .ok (.ireturn, 1) := by decide +kernel
theorem dX4_undo_14 : decode cX4_undo 14 = .ok (.aload_n 0, 1) := by decide +kernel
theorem dX4_undo_15 : decode cX4_undo 15 = .ok (.getfield 12, 3) := by decide +kernel
theorem dX4_undo_18 : decode cX4_undo 18 = .ok (.aload_n 0, 1) := by decide +kernel
theorem dX4_undo_19 : decode cX4_undo 19 = .ok (.getfield 19, 3) := by decide +kernel
theorem dX4_undo_22 : decode cX4_undo 22 = .ok (.invokevirtual 180, 3) := by decide +kernel
theorem dX4_undo_25 : decode cX4_undo 25 = .ok (.aload_n 0, 1) := by decide +kernel
theorem dX4_undo_26 : decode cX4_undo 26 = .ok (.getfield 12, 3) := by decide +kernel
theorem dX4_undo_29 : decode cX4_undo 29 = .ok (.getfield 101, 3) := by decide +kernel
theorem dX4_undo_32 : decode cX4_undo 32 = .ok (.ireturn, 1) := by decide +kernel
theorem dX4_tear_0 : decode cX4_tear 0 = .ok (.aload_n 0, 1) := by decide +kernel
theorem dX4_tear_1 : decode cX4_tear 1 = .ok (.getfield 235, 3) := by decide +kernel
theorem dX4_tear_4 : decode cX4_tear 4 = .ok (.ifCond .eq 7, 3) := by decide +kernel
theorem dX4_tear_7 : decode cX4_tear 7 = .ok (.iconst 1, 1) := by decide +kernel
theorem dX4_tear_8 : decode cX4_tear 8 = .ok (.goto 4, 3) := by decide +kernel
theorem dX4_tear_11 : decode cX4_tear 11 = .ok (.iconst 0, 1) := by decide +kernel
theorem dX4_tear_12 : decode cX4_tear 12 = .ok (.istore_n 1, 1) := by decide +kernel
theorem dX4_tear_13 : decode cX4_tear 13 = .ok (.aload_n 0, 1) := by decide +kernel
theorem dX4_tear_14 : decode cX4_tear 14 = .ok (.iconst 0, 1) := by decide +kernel
theorem dX4_tear_15 : decode cX4_tear 15 = .ok (.putfield 235, 3) := by decide +kernel
theorem dX4_tear_18 : decode cX4_tear 18 = .ok (.iload_n 1, 1) := by decide +kernel
theorem dX4_tear_19 : decode cX4_tear 19 = .ok (.ireturn, 1) := by decide +kernel
theorem dX4_count_0 : decode cX4_count 0 = .ok (.iload_n 1, 1) := by decide +kernel
theorem dX4_count_1 : decode cX4_count 1 = .ok (.tableswitch 66 0 3 #[31, 39, 47, 58], 31) := by decide +kernel
theorem dX4_count_32 : decode cX4_count 32 = .ok (.aload_n 0, 1) := by decide +kernel
theorem dX4_count_33 : decode cX4_count 33 = .ok (.getfield 12, 3) := by decide +kernel
theorem dX4_count_36 : decode cX4_count 36 = .ok (.getfield 101, 3) := by decide +kernel
theorem dX4_count_39 : decode cX4_count 39 = .ok (.ireturn, 1) := by decide +kernel
theorem dX4_count_40 : decode cX4_count 40 = .ok (.aload_n 0, 1) := by decide +kernel
theorem dX4_count_41 : decode cX4_count 41 = .ok (.getfield 25, 3) := by decide +kernel
theorem dX4_count_44 : decode cX4_count 44 = .ok (.getfield 170, 3) := by decide +kernel
theorem dX4_count_47 : decode cX4_count 47 = .ok (.ireturn, 1) := by decide +kernel
theorem dX4_count_48 : decode cX4_count 48 = .ok (.aload_n 0, 1) := by decide +kernel
theorem dX4_count_49 : decode cX4_count 49 = .ok (.getfield 12, 3) := by decide +kernel
theorem dX4_count_52 : decode cX4_count 52 = .ok (.getfield 59, 3) := by decide +kernel
theorem dX4_count_55 : decode cX4_count 55 = .ok (.invokestatic 239, 3) := by decide +kernel
theorem dX4_count_58 : decode cX4_count 58 = .ok (.ireturn, 1) := by decide +kernel
theorem dX4_count_59 : decode cX4_count 59 = .ok (.aload_n 0, 1) := by decide +kernel
theorem dX4_count_60 : decode cX4_count 60 = .ok (.getfield 12, 3) := by decide +kernel
theorem dX4_count_63 : decode cX4_count 63 = .ok (.invokevirtual 244, 3) := by decide +kernel
theorem dX4_count_66 : decode cX4_count 66 = .ok (.ireturn, 1) := by decide +kernel
theorem dX4_count_67 : decode cX4_count 67 = .ok (.aload_n 0, 1) := by decide +kernel
theorem dX4_count_68 : decode cX4_count 68 = .ok (.ldc 54, 2) := by decide +kernel
theorem dX4_count_70 : decode cX4_count 70 = .ok (.invokevirtual 55, 3) := by decide +kernel
theorem dX4_count_73 : decode cX4_count 73 = .ok (.ireturn, 1) := by decide +kernel
theorem dX4_status_0 : decode cX4_status 0 = .ok (.iload_n 1, 1) := by decide +kernel
theorem dX4_status_1 : decode cX4_status 1 = .ok (.iconst (-1), 1) := by decide +kernel
theorem dX4_status_2 : decode cX4_status 2 = .ok (.bipush 6, 2) := by decide +kernel
theorem dX4_status_4 : decode cX4_status 4 = .ok (.invokestatic 50, 3) := by decide +kernel
theorem dX4_status_7 : decode cX4_status 7 = .ok (.ifCond .ne 10, 3) := by decide +kernel
theorem dX4_status_10 : decode cX4_status 10 = .ok (.aload_n 0, 1) := by decide +kernel
theorem dX4_status_11 : decode cX4_status 11 = .ok (.ldc 54, 2) := by decide +kernel
theorem dX4_status_13 : decode cX4_status 13 = .ok (.invokevirtual 55, 3) := by decide +kernel
theorem dX4_status_16 : decode cX4_status 16 = .ok (.ireturn, 1) := by decide +kernel
theorem dX4_status_17 : decode cX4_status 17 = .ok (.iload_n 1, 1) := by decide +kernel
theorem dX4_status_18 : decode cX4_status 18 = .ok (.ifCond .lt 10, 3) := by decide +kernel
theorem dX4_status_21 : decode cX4_status 21 = .ok (.aload_n 0, 1) := by decide +kernel
theorem dX4_status_22 : decode cX4_status 22 = .ok (.getfield 44, 3) := by decide +kernel
theorem dX4_status_25 : decode cX4_status 25 = .ok (.iload_n 1, 1) := by decide +kernel
theorem dX4_status_26 : decode cX4_status 26 = .ok (.iaload, 1) := by decide +kernel
theorem dX4_status_27 : decode cX4_status 27 = .ok (.ireturn, 1) := by decide +kernel
theorem dX4_status_28 : decode cX4_status 28 = .ok (.iconst 0, 1) := by decide +kernel
theorem dX4_status_29 : decode cX4_status 29 = .ok (.istore_n 2, 1) := by decide +kernel
theorem dX4_status_30 : decode cX4_status 30 = .ok (.iconst 0, 1) := by decide +kernel
theorem dX4_status_31 : decode cX4_status 31 = .ok (.istore_n 3, 1) := by decide +kernel
theorem dX4_status_32 : decode cX4_status 32 = .ok (.iload_n 3, 1) := by decide +kernel
theorem dX4_status_33 : decode cX4_status 33 = .ok (.bipush 7, 2) := by decide +kernel
theorem dX4_status_35 : decode cX4_status 35 = .ok (.if_icmp .ge 18, 3) := by decide +kernel
theorem dX4_status_38 : decode cX4_status 38 = .ok (.iload_n 2, 1) := by decide +kernel
theorem dX4_status_39 : decode cX4_status 39 = .ok (.aload_n 0, 1) := by decide +kernel
theorem dX4_status_40 : decode cX4_status 40 = .ok (.getfield 44, 3) := by decide +kernel
theorem dX4_status_43 : decode cX4_status 43 = .ok (.iload_n 3, 1) := by decide +kernel
theorem dX4_status_44 : decode cX4_status 44 = .ok (.iaload, 1) := by decide +kernel
theorem dX4_status_45 : decode cX4_status 45 = .ok (.iadd, 1) := by decide +kernel
theorem dX4_status_46 : decode cX4_status 46 = .ok (.istore_n 2, 1) := by decide +kernel
theorem dX4_status_47 : decode cX4_status 47 = .ok (.iinc 3 1, 3) := by decide +kernel
theorem dX4_status_50 : decode cX4_status 50 = .ok (.goto (-18), 3) := by decide +kernel
theorem dX4_status_53 : decode cX4_status 53 = .ok (.iload_n 2, 1) := by decide +kernel
theorem dX4_status_54 : decode cX4_status 54 = .ok (.ireturn, 1) := by decide +kernel
theorem dX4_tell_0 : decode cX4_tell 0 = .ok (.ldc 54, 2) := by decide +kernel
theorem dX4_tell_2 : decode cX4_tell 2 = .ok (.iload_n 1, 1) := by decide +kernel
theorem dX4_tell_3 : decode cX4_tell 3 = .ok (.isub, 1) := by decide +kernel
theorem dX4_tell_4 : decode cX4_tell 4 = .ok (.istore_n 2, 1) := by decide +kernel
theorem dX4_tell_5 : decode cX4_tell 5 = .ok (.iload_n 2, 1) := by decide +kernel
theorem dX4_tell_6 : decode cX4_tell 6 = .ok (.iconst 0, 1) := by decide +kernel
theorem dX4_tell_7 : decode cX4_tell 7 = .ok (.bipush 6, 2) := by decide +kernel
theorem dX4_tell_9 : decode cX4_tell 9 = .ok (.invokestatic 50, 3) := by decide +kernel
theorem dX4_tell_12 : decode cX4_tell 12 = .ok (.ifCond .eq 13, 3) := by decide +kernel
theorem dX4_tell_15 : decode cX4_tell 15 = .ok (.aload_n 0, 1) := by decide +kernel
theorem dX4_tell_16 : decode cX4_tell 16 = .ok (.getfield 44, 3) := by decide +kernel
theorem dX4_tell_19 : decode cX4_tell 19 = .ok (.iload_n 2, 1) := by decide +kernel
theorem dX4_tell_20 : decode cX4_tell 20 = .ok (.dup2, 1) := by decide +kernel
theorem dX4_tell_21 : decode cX4_tell 21 = .ok (.iaload, 1) := by decide +kernel
theorem dX4_tell_22 : decode cX4_tell 22 = .ok (.iconst 1, 1) := by decide +kernel
theorem dX4_tell_23 : decode cX4_tell 23 = .ok (.iadd, 1) := by decide +kernel
theorem dX4_tell_24 : decode cX4_tell 24 = .ok (.iastore, 1) := by decide +kernel
theorem dX4_tell_25 : decode cX4_tell 25 = .ok (.iload_n 1, 1) := by decide +kernel
theorem dX4_tell_26 : decode cX4_tell 26 = .ok (.ireturn, 1) := by decide +kernel
theorem dX4_put_0 : decode cX4_put 0 = .ok (.iload_n 3, 1) := by decide +kernel
theorem dX4_put_1 : decode cX4_put 1 = .ok (.iconst 0, 1) := by decide +kernel
theorem dX4_put_2 : decode cX4_put 2 = .ok (.iload 4, 2) := by decide +kernel
theorem dX4_put_4 : decode cX4_put 4 = .ok (.invokestatic 50, 3) := by decide +kernel
theorem dX4_put_7 : decode cX4_put 7 = .ok (.ifCond .eq 15, 3) := by decide +kernel
theorem dX4_put_10 : decode cX4_put 10 = .ok (.iload_n 2, 1) := by decide +kernel
theorem dX4_put_11 : decode cX4_put 11 = .ok (.iconst 0, 1) := by decide +kernel
theorem dX4_put_12 : decode cX4_put 12 = .ok (.aload_n 1, 1) := by decide +kernel
theorem dX4_put_13 : decode cX4_put 13 = .ok (.arraylength, 1) := by decide +kernel
theorem dX4_put_14 : decode cX4_put 14 = .ok (.iconst 1, 1) := by decide +kernel
theorem dX4_put_15 : decode cX4_put 15 = .ok (.isub, 1) := by decide +kernel
theorem dX4_put_16 : decode cX4_put 16 = .ok (.invokestatic 50, 3) := by decide +kernel
theorem dX4_put_19 : decode cX4_put 19 = .ok (.ifCond .ne 10, 3) := by decide +kernel
theorem dX4_put_22 : decode cX4_put 22 = .ok (.aload_n 0, 1) := by decide +kernel
theorem dX4_put_23 : decode cX4_put 23 = .ok (.ldc 54, 2) := by decide +kernel
theorem dX4_put_25 : decode cX4_put 25 = .ok (.invokevirtual 55, 3) := by decide +kernel
theorem dX4_put_28 : decode cX4_put 28 = .ok (.ireturn, 1) := by decide +kernel
theorem dX4_put_29 : decode cX4_put 29 = .ok (.aload_n 1, 1) := by decide +kernel
theorem dX4_put_30 : decode cX4_put 30 = .ok (.iload_n 2, 1) := by decide +kernel
theorem dX4_put_31 : decode cX4_put 31 = .ok (.iaload, 1) := by decide +kernel
theorem dX4_put_32 : decode cX4_put 32 = .ok (.istore 5, 2) := by decide +kernel
theorem dX4_put_34 : decode cX4_put 34 = .ok (.aload_n 1, 1) := by decide +kernel
theorem dX4_put_35 : decode cX4_put 35 = .ok (.iload_n 2, 1) := by decide +kernel
theorem dX4_put_36 : decode cX4_put 36 = .ok (.iload_n 3, 1) := by decide +kernel
theorem dX4_put_37 : decode cX4_put 37 = .ok (.iastore, 1) := by decide +kernel
theorem dX4_put_38 : decode cX4_put 38 = .ok (.iload 5, 2) := by decide +kernel
theorem dX4_put_40 : decode cX4_put 40 = .ok (.ireturn, 1) := by decide +kernel
theorem dX4_lookAhead_0 : decode cX4_lookAhead 0 = .ok (.aload_n 0, 1) := by decide +kernel
theorem dX4_lookAhead_1 : decode cX4_lookAhead 1 = .ok (.getfield 16, 3) := by decide +kernel
theorem dX4_lookAhead_4 : decode cX4_lookAhead 4 = .ok (.aload_n 0, 1) := by decide +kernel
theorem dX4_lookAhead_5 : decode cX4_lookAhead 5 = .ok (.getfield 12, 3) := by decide +kernel
theorem dX4_lookAhead_8 : decode cX4_lookAhead 8 = .ok (.invokevirtual 180, 3) := by decide +kernel
theorem dX4_lookAhead_11 : decode cX4_lookAhead 11 = .ok (.return_, 1) := by decide +kernel
theorem dX4_stumbledIn_0 : decode cX4_stumbledIn 0 = .ok (.aload_n 0, 1) := by decide +kernel
theorem dX4_stumbledIn_1 : decode cX4_stumbledIn 1 = .ok (.getfield 16, 3) := by decide +kernel
theorem dX4_stumbledIn_4 : decode cX4_stumbledIn 4 = .ok (.iload_n 1, 1) := by decide +kernel
theorem dX4_stumbledIn_5 : decode cX4_stumbledIn 5 = .ok (.invokevirtual 146, 3) := by decide +kernel
theorem dX4_stumbledIn_8 : decode cX4_stumbledIn 8 = .ok (.aload_n 0, 1) := by decide +kernel
theorem dX4_stumbledIn_9 : decode cX4_stumbledIn 9 = .ok (.getfield 16, 3) := by decide +kernel
theorem dX4_stumbledIn_12 : decode cX4_stumbledIn 12 = .ok (.invokevirtual 86, 3) := by decide +kernel
theorem dX4_stumbledIn_15 : decode cX4_stumbledIn 15 = .ok (.ireturn, 1) := by decide +kernel
theorem dX4_findingOfBook_0 : decode cX4_findingOfBook 0 = .ok (.iload_n 1, 1) := by decide +kernel
theorem dX4_findingOfBook_1 : decode cX4_findingOfBook 1 = .ok (.invokestatic 184, 3) := by decide +kernel
theorem dX4_findingOfBook_4 : decode cX4_findingOfBook 4 = .ok (.ifCond .ne 6, 3) := by decide +kernel
theorem dX4_findingOfBook_7 : decode cX4_findingOfBook 7 = .ok (.ldc 54, 2) := by decide +kernel
theorem dX4_findingOfBook_9 : decode cX4_findingOfBook 9 = .ok (.ireturn, 1) := by decide +kernel
theorem dX4_findingOfBook_10 : decode cX4_findingOfBook 10 = .ok (.aload_n 0, 1) := by decide +kernel
theorem dX4_findingOfBook_11 : decode cX4_findingOfBook 11 = .ok (.getfield 40, 3) := by decide +kernel
theorem dX4_findingOfBook_14 : decode cX4_findingOfBook 14 = .ok (.iload_n 1, 1) := by decide +kernel
theorem dX4_findingOfBook_15 : decode cX4_findingOfBook 15 = .ok (.aaload, 1) := by decide +kernel
theorem dX4_findingOfBook_16 : decode cX4_findingOfBook 16 = .ok (.invokevirtual 197, 3) := by decide +kernel
theorem dX4_findingOfBook_19 : decode cX4_findingOfBook 19 = .ok (.ifCond .eq 6, 3) := by decide +kernel
theorem dX4_findingOfBook_22 : decode cX4_findingOfBook 22 = .ok (.ldc 200, 2) := by decide +kernel
theorem dX4_findingOfBook_24 : decode cX4_findingOfBook 24 = .ok (.ireturn, 1) := by decide +kernel
theorem dX4_findingOfBook_25 : decode cX4_findingOfBook 25 = .ok (.aload_n 0, 1) := by decide +kernel
theorem dX4_findingOfBook_26 : decode cX4_findingOfBook 26 = .ok (.getfield 12, 3) := by decide +kernel
theorem dX4_findingOfBook_29 : decode cX4_findingOfBook 29 = .ok (.iload_n 2, 1) := by decide +kernel
theorem dX4_findingOfBook_30 : decode cX4_findingOfBook 30 = .ok (.invokevirtual 63, 3) := by decide +kernel
theorem dX4_findingOfBook_33 : decode cX4_findingOfBook 33 = .ok (.ifCond .eq 7, 3) := by decide +kernel
theorem dX4_findingOfBook_36 : decode cX4_findingOfBook 36 = .ok (.iconst 0, 1) := by decide +kernel
theorem dX4_findingOfBook_37 : decode cX4_findingOfBook 37 = .ok (.goto 5, 3) := by decide +kernel
theorem dX4_findingOfBook_40 : decode cX4_findingOfBook 40 = .ok (.ldc 54, 2) := by decide +kernel
theorem dX4_findingOfBook_42 : decode cX4_findingOfBook 42 = .ok (.ireturn, 1) := by decide +kernel
theorem dX4_stumblesNoMore_0 : decode cX4_stumblesNoMore 0 = .ok (.iconst 0, 1) := by decide +kernel
theorem dX4_stumblesNoMore_1 : decode cX4_stumblesNoMore 1 = .ok (.istore_n 3, 1) := by decide +kernel
theorem dX4_stumblesNoMore_2 : decode cX4_stumblesNoMore 2 = .ok (.iload_n 3, 1) := by decide +kernel
theorem dX4_stumblesNoMore_3 : decode cX4_stumblesNoMore 3 = .ok (.iload_n 2, 1) := by decide +kernel
theorem dX4_stumblesNoMore_4 : decode cX4_stumblesNoMore 4 = .ok (.if_icmp .ge 39, 3) := by decide +kernel
theorem dX4_stumblesNoMore_7 : decode cX4_stumblesNoMore 7 = .ok (.aload_n 0, 1) := by decide +kernel
theorem dX4_stumblesNoMore_8 : decode cX4_stumblesNoMore 8 = .ok (.getfield 16, 3) := by decide +kernel
theorem dX4_stumblesNoMore_11 : decode cX4_stumblesNoMore 11 = .ok (.invokevirtual 155, 3) := by decide +kernel
theorem dX4_stumblesNoMore_14 : decode cX4_stumblesNoMore 14 = .ok (.aload_n 0, 1) := by decide +kernel
theorem dX4_stumblesNoMore_15 : decode cX4_stumblesNoMore 15 = .ok (.getfield 16, 3) := by decide +kernel
theorem dX4_stumblesNoMore_18 : decode cX4_stumblesNoMore 18 = .ok (.getfield 113, 3) := by decide +kernel
theorem dX4_stumblesNoMore_21 : decode cX4_stumblesNoMore 21 = .ok (.iload_n 1, 1) := by decide +kernel
theorem dX4_stumblesNoMore_22 : decode cX4_stumblesNoMore 22 = .ok (.iaload, 1) := by decide +kernel
theorem dX4_stumblesNoMore_23 : decode cX4_stumblesNoMore 23 = .ok (.aload_n 0, 1) := by decide +kernel
theorem dX4_stumblesNoMore_24 : decode cX4_stumblesNoMore 24 = .ok (.getfield 12, 3) := by decide +kernel
theorem dX4_stumblesNoMore_27 : decode cX4_stumblesNoMore 27 = .ok (.getfield 113, 3) := by decide +kernel
theorem dX4_stumblesNoMore_30 : decode cX4_stumblesNoMore 30 = .ok (.iload_n 1, 1) := by decide +kernel
theorem dX4_stumblesNoMore_31 : decode cX4_stumblesNoMore 31 = .ok (.iaload, 1) := by decide +kernel
theorem dX4_stumblesNoMore_32 : decode cX4_stumblesNoMore 32 = .ok (.if_icmp .le 5, 3) := by decide +kernel
theorem dX4_stumblesNoMore_35 : decode cX4_stumblesNoMore 35 = .ok (.iconst 0, 1) := by decide +kernel
theorem dX4_stumblesNoMore_36 : decode cX4_stumblesNoMore 36 = .ok (.ireturn, 1) := by decide +kernel
theorem dX4_stumblesNoMore_37 : decode cX4_stumblesNoMore 37 = .ok (.iinc 3 1, 3) := by decide +kernel
theorem dX4_stumblesNoMore_40 : decode cX4_stumblesNoMore 40 = .ok (.goto (-38), 3) := by decide +kernel
theorem dX4_stumblesNoMore_43 : decode cX4_stumblesNoMore 43 = .ok (.iconst 1, 1) := by decide +kernel
theorem dX4_stumblesNoMore_44 : decode cX4_stumblesNoMore 44 = .ok (.ireturn, 1) := by decide +kernel
theorem dX4_stumblesJustAs_0 : decode cX4_stumblesJustAs 0 = .ok (.iconst 0, 1) := by decide +kernel
theorem dX4_stumblesJustAs_1 : decode cX4_stumblesJustAs 1 = .ok (.istore_n 3, 1) := by decide +kernel
theorem dX4_stumblesJustAs_2 : decode cX4_stumblesJustAs 2 = .ok (.iload_n 3, 1) := by decide +kernel
theorem dX4_stumblesJustAs_3 : decode cX4_stumblesJustAs 3 = .ok (.aload_n 1, 1) := by decide +kernel
theorem dX4_stumblesJustAs_4 : decode cX4_stumblesJustAs 4 = .ok (.getfield 194, 3) := by decide +kernel
theorem dX4_stumblesJustAs_7 : decode cX4_stumblesJustAs 7 = .ok (.if_icmp .ge 38, 3) := by decide +kernel
theorem dX4_stumblesJustAs_10 : decode cX4_stumblesJustAs 10 = .ok (.aload_n 1, 1) := by decide +kernel
theorem dX4_stumblesJustAs_11 : decode cX4_stumblesJustAs 11 = .ok (.getfield 201, 3) := by decide +kernel
theorem dX4_stumblesJustAs_14 : decode cX4_stumblesJustAs 14 = .ok (.iload_n 3, 1) := by decide +kernel
theorem dX4_stumblesJustAs_15 : decode cX4_stumblesJustAs 15 = .ok (.laload, 1) := by decide +kernel
theorem dX4_stumblesJustAs_16 : decode cX4_stumblesJustAs 16 = .ok (.aload_n 0, 1) := by decide +kernel
theorem dX4_stumblesJustAs_17 : decode cX4_stumblesJustAs 17 = .ok (.getfield 16, 3) := by decide +kernel
theorem dX4_stumblesJustAs_20 : decode cX4_stumblesJustAs 20 = .ok (.getfield 113, 3) := by decide +kernel
theorem dX4_stumblesJustAs_23 : decode cX4_stumblesJustAs 23 = .ok (.iload_n 2, 1) := by decide +kernel
theorem dX4_stumblesJustAs_24 : decode cX4_stumblesJustAs 24 = .ok (.iaload, 1) := by decide +kernel
theorem dX4_stumblesJustAs_25 : decode cX4_stumblesJustAs 25 = .ok (.i2l, 1) := by decide +kernel
theorem dX4_stumblesJustAs_26 : decode cX4_stumblesJustAs 26 = .ok (.lcmp, 1) := by decide +kernel
theorem dX4_stumblesJustAs_27 : decode cX4_stumblesJustAs 27 = .ok (.ifCond .eq 5, 3) := by decide +kernel
theorem dX4_stumblesJustAs_30 : decode cX4_stumblesJustAs 30 = .ok (.iconst 0, 1) := by decide +kernel
theorem dX4_stumblesJustAs_31 : decode cX4_stumblesJustAs 31 = .ok (.ireturn, 1) := by decide +kernel
theorem dX4_stumblesJustAs_32 : decode cX4_stumblesJustAs 32 = .ok (.aload_n 0, 1) := by decide +kernel
theorem dX4_stumblesJustAs_33 : decode cX4_stumblesJustAs 33 = .ok (.getfield 16, 3) := by decide +kernel
theorem dX4_stumblesJustAs_36 : decode cX4_stumblesJustAs 36 = .ok (.invokevirtual 155, 3) := by decide +kernel
theorem dX4_stumblesJustAs_39 : decode cX4_stumblesJustAs 39 = .ok (.iinc 3 1, 3) := by decide +kernel
theorem dX4_stumblesJustAs_42 : decode cX4_stumblesJustAs 42 = .ok (.goto (-40), 3) := by decide +kernel
theorem dX4_stumblesJustAs_45 : decode cX4_stumblesJustAs 45 = .ok (.iconst 1, 1) := by decide +kernel
theorem dX4_stumblesJustAs_46 : decode cX4_stumblesJustAs 46 = .ok (.ireturn, 1) := by decide +kernel
theorem dX4_within_0 : decode cX4_within 0 = .ok (.iload_n 0, 1) := by decide +kernel
theorem dX4_within_1 : decode cX4_within 1 = .ok (.iload_n 1, 1) := by decide +kernel
theorem dX4_within_2 : decode cX4_within 2 = .ok (.if_icmp .lt 12, 3) := by decide +kernel
theorem dX4_within_5 : decode cX4_within 5 = .ok (.iload_n 0, 1) := by decide +kernel
theorem dX4_within_6 : decode cX4_within 6 = .ok (.iload_n 2, 1) := by decide +kernel
theorem dX4_within_7 : decode cX4_within 7 = .ok (.if_icmp .gt 7, 3) := by decide +kernel
theorem dX4_within_10 : decode cX4_within 10 = .ok (.iconst 1, 1) := by decide +kernel
theorem dX4_within_11 : decode cX4_within 11 = .ok (.goto 4, 3) := by decide +kernel
theorem dX4_within_14 : decode cX4_within 14 = .ok (.iconst 0, 1) := by decide +kernel
theorem dX4_within_15 : decode cX4_within 15 = .ok (.ireturn, 1) := by decide +kernel
theorem dX4_isIn_0 : decode cX4_isIn 0 = .ok (.iload_n 0, 1) := by decide +kernel
theorem dX4_isIn_1 : decode cX4_isIn 1 = .ok (.iload_n 1, 1) := by decide +kernel
theorem dX4_isIn_2 : decode cX4_isIn 2 = .ok (.ishr, 1) := by decide +kernel
theorem dX4_isIn_3 : decode cX4_isIn 3 = .ok (.iconst 1, 1) := by decide +kernel
theorem dX4_isIn_4 : decode cX4_isIn 4 = .ok (.iand, 1) := by decide +kernel
theorem dX4_isIn_5 : decode cX4_isIn 5 = .ok (.iconst 1, 1) := by decide +kernel
theorem dX4_isIn_6 : decode cX4_isIn 6 = .ok (.if_icmp .ne 7, 3) := by decide +kernel
theorem dX4_isIn_9 : decode cX4_isIn 9 = .ok (.iconst 1, 1) := by decide +kernel
theorem dX4_isIn_10 : decode cX4_isIn 10 = .ok (.goto 4, 3) := by decide +kernel
theorem dX4_isIn_13 : decode cX4_isIn 13 = .ok (.iconst 0, 1) := by decide +kernel
theorem dX4_isIn_14 : decode cX4_isIn 14 = .ok (.ireturn, 1) := by decide +kernel
theorem dX4_isKind_0 : decode cX4_isKind 0 = .ok (.iload_n 0, 1) := by decide +kernel
theorem dX4_isKind_1 : decode cX4_isKind 1 = .ok (.iconst 0, 1) := by decide +kernel
theorem dX4_isKind_2 : decode cX4_isKind 2 = .ok (.iconst 5, 1) := by decide +kernel
theorem dX4_isKind_3 : decode cX4_isKind 3 = .ok (.invokestatic 50, 3) := by decide +kernel
theorem dX4_isKind_6 : decode cX4_isKind 6 = .ok (.ireturn, 1) := by decide +kernel
theorem dX4_isSheet_0 : decode cX4_isSheet 0 = .ok (.iload_n 0, 1) := by decide +kernel
theorem dX4_isSheet_1 : decode cX4_isSheet 1 = .ok (.iconst 0, 1) := by decide +kernel
theorem dX4_isSheet_2 : decode cX4_isSheet 2 = .ok (.iconst 3, 1) := by decide +kernel
theorem dX4_isSheet_3 : decode cX4_isSheet 3 = .ok (.invokestatic 50, 3) := by decide +kernel
theorem dX4_isSheet_6 : decode cX4_isSheet 6 = .ok (.ireturn, 1) := by decide +kernel
theorem dX4_isWidth_0 : decode cX4_isWidth 0 = .ok (.iload_n 0, 1) := by decide +kernel
theorem dX4_isWidth_1 : decode cX4_isWidth 1 = .ok (.ifCond .eq 21, 3) := by decide +kernel
theorem dX4_isWidth_4 : decode cX4_isWidth 4 = .ok (.iload_n 0, 1) := by decide +kernel
theorem dX4_isWidth_5 : decode cX4_isWidth 5 = .ok (.bipush 8, 2) := by decide +kernel
theorem dX4_isWidth_7 : decode cX4_isWidth 7 = .ok (.if_icmp .eq 15, 3) := by decide +kernel
theorem dX4_isWidth_10 : decode cX4_isWidth 10 = .ok (.iload_n 0, 1) := by decide +kernel
theorem dX4_isWidth_11 : decode cX4_isWidth 11 = .ok (.bipush 16, 2) := by decide +kernel
theorem dX4_isWidth_13 : decode cX4_isWidth 13 = .ok (.if_icmp .eq 9, 3) := by decide +kernel
theorem dX4_isWidth_16 : decode cX4_isWidth 16 = .ok (.iload_n 0, 1) := by decide +kernel
theorem dX4_isWidth_17 : decode cX4_isWidth 17 = .ok (.bipush 64, 2) := by decide +kernel
theorem dX4_isWidth_19 : decode cX4_isWidth 19 = .ok (.if_icmp .ne 7, 3) := by decide +kernel
theorem dX4_isWidth_22 : decode cX4_isWidth 22 = .ok (.iconst 1, 1) := by decide +kernel
theorem dX4_isWidth_23 : decode cX4_isWidth 23 = .ok (.goto 4, 3) := by decide +kernel
theorem dX4_isWidth_26 : decode cX4_isWidth 26 = .ok (.iconst 0, 1) := by decide +kernel
theorem dX4_isWidth_27 : decode cX4_isWidth 27 = .ok (.ireturn, 1) := by decide +kernel
theorem dX4_isUnder_0 : decode cX4_isUnder 0 = .ok (.iload_n 0, 1) := by decide +kernel
theorem dX4_isUnder_1 : decode cX4_isUnder 1 = .ok (.istore_n 2, 1) := by decide +kernel
theorem dX4_isUnder_2 : decode cX4_isUnder 2 = .ok (.iconst 0, 1) := by decide +kernel
theorem dX4_isUnder_3 : decode cX4_isUnder 3 = .ok (.istore_n 3, 1) := by decide +kernel
theorem dX4_isUnder_4 : decode cX4_isUnder 4 = .ok (.iload_n 3, 1) := by decide +kernel
theorem dX4_isUnder_5 : decode cX4_isUnder 5 = .ok (.bipush 6, 2) := by decide +kernel
theorem dX4_isUnder_7 : decode cX4_isUnder 7 = .ok (.if_icmp .ge 29, 3) := by decide +kernel
theorem dX4_isUnder_10 : decode cX4_isUnder 10 = .ok (.iload_n 2, 1) := by decide +kernel
theorem dX4_isUnder_11 : decode cX4_isUnder 11 = .ok (.invokestatic 89, 3) := by decide +kernel
theorem dX4_isUnder_14 : decode cX4_isUnder 14 = .ok (.ifCond .eq 22, 3) := by decide +kernel
theorem dX4_isUnder_17 : decode cX4_isUnder 17 = .ok (.iload_n 2, 1) := by decide +kernel
theorem dX4_isUnder_18 : decode cX4_isUnder 18 = .ok (.iload_n 1, 1) := by decide +kernel
theorem dX4_isUnder_19 : decode cX4_isUnder 19 = .ok (.if_icmp .ne 5, 3) := by decide +kernel
theorem dX4_isUnder_22 : decode cX4_isUnder 22 = .ok (.iconst 1, 1) := by decide +kernel
theorem dX4_isUnder_23 : decode cX4_isUnder 23 = .ok (.ireturn, 1) := by decide +kernel
theorem dX4_isUnder_24 : decode cX4_isUnder 24 = .ok (.getstatic 247, 3) := by decide +kernel
theorem dX4_isUnder_27 : decode cX4_isUnder 27 = .ok (.iload_n 2, 1) := by decide +kernel
theorem dX4_isUnder_28 : decode cX4_isUnder 28 = .ok (.iaload, 1) := by decide +kernel
theorem dX4_isUnder_29 : decode cX4_isUnder 29 = .ok (.istore_n 2, 1) := by decide +kernel
theorem dX4_isUnder_30 : decode cX4_isUnder 30 = .ok (.iinc 3 1, 3) := by decide +kernel
theorem dX4_isUnder_33 : decode cX4_isUnder 33 = .ok (.goto (-29), 3) := by decide +kernel
theorem dX4_isUnder_36 : decode cX4_isUnder 36 = .ok (.iconst 0, 1) := by decide +kernel
theorem dX4_isUnder_37 : decode cX4_isUnder 37 = .ok (.ireturn, 1) := by decide +kernel
theorem dX4_shadeOf_0 : decode cX4_shadeOf 0 = .ok (.iload_n 0, 1) := by decide +kernel
theorem dX4_shadeOf_1 : decode cX4_shadeOf 1 = .ok (.lookupswitch 31 #[(1, 27), (4, 29)], 27) := by decide +kernel
theorem dX4_shadeOf_28 : decode cX4_shadeOf 28 = .ok (.iconst 1, 1) := by decide +kernel
theorem dX4_shadeOf_29 : decode cX4_shadeOf 29 = .ok (.ireturn, 1) := by decide +kernel
theorem dX4_shadeOf_30 : decode cX4_shadeOf 30 = .ok (.iconst 2, 1) := by decide +kernel
theorem dX4_shadeOf_31 : decode cX4_shadeOf 31 = .ok (.ireturn, 1) := by decide +kernel
theorem dX4_shadeOf_32 : decode cX4_shadeOf 32 = .ok (.iconst 0, 1) := by decide +kernel
theorem dX4_shadeOf_33 : decode cX4_shadeOf 33 = .ok (.ireturn, 1) := by decide +kernel
end
section
theorem dX5_init_0 : decode cX5_init 0 = .ok (.aload_n 0, 1) := by decide +kernel
theorem dX5_init_1 : decode cX5_init 1 = .ok (.invokespecial 1, 3) := by decide +kernel
theorem dX5_init_4 : decode cX5_init 4 = .ok (.aload_n 0, 1) := by decide +kernel
theorem dX5_init_5 : decode cX5_init 5 = .ok (.bipush 37, 2) := by decide +kernel
theorem dX5_init_7 : decode cX5_init 7 = .ok (.newarray .int, 2) := by decide +kernel
theorem dX5_init_9 : decode cX5_init 9 = .ok (.putfield 7, 3) := by decide +kernel
theorem dX5_init_12 : decode cX5_init 12 = .ok (.aload_n 0, 1) := by decide +kernel
theorem dX5_init_13 : decode cX5_init 13 = .ok (.bipush 37, 2) := by decide +kernel
theorem dX5_init_15 : decode cX5_init 15 = .ok (.newarray .int, 2) := by decide +kernel
theorem dX5_init_17 : decode cX5_init 17 = .ok (.putfield 13, 3) := by decide +kernel
theorem dX5_init_20 : decode cX5_init 20 = .ok (.aload_n 0, 1) := by decide +kernel
theorem dX5_init_21 : decode cX5_init 21 = .ok (.bipush 37, 2) := by decide +kernel
theorem dX5_init_23 : decode cX5_init 23 = .ok (.newarray .int, 2) := by decide +kernel
theorem dX5_init_25 : decode cX5_init 25 = .ok (.putfield 16, 3) := by decide +kernel
theorem dX5_init_28 : decode cX5_init 28 = .ok (.aload_n 0, 1) := by decide +kernel
theorem dX5_init_29 : decode cX5_init 29 = .ok (.bipush 37, 2) := by decide +kernel
theorem dX5_init_31 : decode cX5_init 31 = .ok (.newarray .int, 2) := by decide +kernel
theorem dX5_init_33 : decode cX5_init 33 = .ok (.putfield 19, 3) := by decide +kernel
theorem dX5_init_36 : decode cX5_init 36 = .ok (.aload_n 0, 1) := by decide +kernel
theorem dX5_init_37 : decode cX5_init 37 = .ok (.bipush 7, 2) := by decide +kernel
theorem dX5_init_39 : decode cX5_init 39 = .ok (.newarray .int, 2) := by decide +kernel
theorem dX5_init_41 : decode cX5_init 41 = .ok (.putfield 22, 3) := by decide +kernel
theorem dX5_init_44 : decode cX5_init 44 = .ok (.aload_n 0, 1) := by decide +kernel
theorem dX5_init_45 : decode cX5_init 45 = .ok (.bipush 120, 2) := by decide +kernel
theorem dX5_init_47 : decode cX5_init 47 = .ok (.newarray .int, 2) := by decide +kernel
theorem dX5_init_49 : decode cX5_init 49 = .ok (.putfield 25, 3) := by decide +kernel
theorem dX5_init_52 : decode cX5_init 52 = .ok (.aload_n 0, 1) := by decide +kernel
theorem dX5_init_53 : decode cX5_init 53 = .ok (.iconst 4, 1) := by decide +kernel
theorem dX5_init_54 : decode cX5_init 54 = .ok (.newarray .int, 2) := by decide +kernel
theorem dX5_init_56 : decode cX5_init 56 = .ok (.putfield 28, 3) := by decide +kernel
theorem dX5_init_59 : decode cX5_init 59 = .ok (.aload_n 0, 1) := by decide +kernel
theorem dX5_init_60 : decode cX5_init 60 = .ok (.iconst 4, 1) := by decide +kernel
theorem dX5_init_61 : decode cX5_init 61 = .ok (.newarray .int, 2) := by decide +kernel
theorem dX5_init_63 : decode cX5_init 63 = .ok (.putfield 31, 3) := by decide +kernel
theorem dX5_init_66 : decode cX5_init 66 = .ok (.aload_n 0, 1) := by decide +kernel
theorem dX5_init_67 : decode cX5_init 67 = .ok (.sipush 160, 3) := by decide +kernel
theorem dX5_init_70 : decode cX5_init 70 = .ok (.newarray .long, 2) := by decide +kernel
theorem dX5_init_72 : decode cX5_init 72 = .ok (.putfield 34, 3) := by decide +kernel
theorem dX5_init_75 : decode cX5_init 75 = .ok (.aload_n 0, 1) := by decide +kernel
theorem dX5_init_76 : decode cX5_init 76 = .ok (.bipush 40, 2) := by decide +kernel
theorem dX5_init_78 : decode cX5_init 78 = .ok (.newarray .long, 2) := by decide +kernel
theorem dX5_init_80 : decode cX5_init 80 = .ok (.putfield 38, 3) := by decide +kernel
theorem dX5_init_83 : decode cX5_init 83 = .ok (.iconst 3, 1) := by decide +kernel
theorem dX5_init_84 : decode cX5_init 84 = .ok (.istore_n 1, 1) := by decide +kernel
theorem dX5_init_85 : decode cX5_init 85 = .ok (.iload_n 1, 1) := by decide +kernel
theorem dX5_init_86 : decode cX5_init 86 = .ok (.bipush 30, 2) := by decide +kernel
theorem dX5_init_88 : decode cX5_init 88 = .ok (.if_icmp .ge 21, 3) := by decide +kernel
theorem dX5_init_91 : decode cX5_init 91 = .ok (.aload_n 0, 1) := by decide +kernel
theorem dX5_init_92 : decode cX5_init 92 = .ok (.getfield 7, 3) := by decide +kernel
theorem dX5_init_95 : decode cX5_init 95 = .ok (.iconst 2, 1) := by decide +kernel
theorem dX5_init_96 : decode cX5_init 96 = .ok (.dup2, 1) := by decide +kernel
theorem dX5_init_97 : decode cX5_init 97 = .ok (.iaload, 1) := by decide +kernel
theorem dX5_init_98 : decode cX5_init 98 = .ok (.iconst 1, 1) := by decide +kernel
theorem dX5_init_99 : decode cX5_init 99 = .ok (.iload_n 1, 1) := by decide +kernel
theorem dX5_init_100 : decode cX5_init 100 = .ok (.ishl, 1) := by decide +kernel
theorem dX5_init_101 : decode cX5_init 101 = .ok (.ior, 1) := by decide +kernel
theorem dX5_init_102 : decode cX5_init 102 = .ok (.iastore, 1) := by decide +kernel
theorem dX5_init_103 : decode cX5_init 103 = .ok (.iinc 1 7, 3) := by decide +kernel
theorem dX5_init_106 : decode cX5_init 106 = .ok (.goto (-21), 3) := by decide +kernel
theorem dX5_init_109 : decode cX5_init 109 = .ok (.aload_n 0, 1) := by decide +kernel
theorem dX5_init_110 : decode cX5_init 110 = .ok (.getfield 7, 3) := by decide +kernel
theorem dX5_init_113 : decode cX5_init 113 = .ok (.iconst 4, 1) := by decide +kernel
theorem dX5_init_114 : decode cX5_init 114 = .ok (.iconst 3, 1) := by decide +kernel
theorem dX5_init_115 : decode cX5_init 115 = .ok (.iastore, 1) := by decide +kernel
theorem dX5_init_116 : decode cX5_init 116 = .ok (.return_, 1) := by decide +kernel
theorem dX5_in_0 : decode cX5_in 0 = .ok (.lload_n 0, 1) := by decide +kernel
theorem dX5_in_1 : decode cX5_in 1 = .ok (.lload_n 2, 1) := by decide +kernel
theorem dX5_in_2 : decode cX5_in 2 = .ok (.lcmp, 1) := by decide +kernel
theorem dX5_in_3 : decode cX5_in 3 = .ok (.ifCond .lt 14, 3) := by decide +kernel
theorem dX5_in_6 : decode cX5_in 6 = .ok (.lload_n 0, 1) := by decide +kernel
theorem dX5_in_7 : decode cX5_in 7 = .ok (.lload 4, 2) := by decide +kernel
theorem dX5_in_9 : decode cX5_in 9 = .ok (.lcmp, 1) := by decide +kernel
theorem dX5_in_10 : decode cX5_in 10 = .ok (.ifCond .gt 7, 3) := by decide +kernel
theorem dX5_in_13 : decode cX5_in 13 = .ok (.iconst 1, 1) := by decide +kernel
theorem dX5_in_14 : decode cX5_in 14 = .ok (.goto 4, 3) := by decide +kernel
theorem dX5_in_17 : decode cX5_in 17 = .ok (.iconst 0, 1) := by decide +kernel
theorem dX5_in_18 : decode cX5_in 18 = .ok (.ireturn, 1) := by decide +kernel
theorem dX5_finds_0 : decode cX5_finds 0 = .ok (.aload_n 0, 1) := by decide +kernel
theorem dX5_finds_1 : decode cX5_finds 1 = .ok (.getfield 22, 3) := by decide +kernel
theorem dX5_finds_4 : decode cX5_finds 4 = .ok (.ldc 41, 2) := by decide +kernel
theorem dX5_finds_6 : decode cX5_finds 6 = .ok (.iload_n 1, 1) := by decide +kernel
theorem dX5_finds_7 : decode cX5_finds 7 = .ok (.isub, 1) := by decide +kernel
theorem dX5_finds_8 : decode cX5_finds 8 = .ok (.dup2, 1) := by decide +kernel
theorem dX5_finds_9 : decode cX5_finds 9 = .ok (.iaload, 1) := by decide +kernel
theorem dX5_finds_10 : decode cX5_finds 10 = .ok (.iconst 1, 1) := by decide +kernel
theorem dX5_finds_11 : decode cX5_finds 11 = .ok (.iadd, 1) := by decide +kernel
theorem dX5_finds_12 : decode cX5_finds 12 = .ok (.iastore, 1) := by decide +kernel
theorem dX5_finds_13 : decode cX5_finds 13 = .ok (.iload_n 1, 1) := by decide +kernel
theorem dX5_finds_14 : decode cX5_finds 14 = .ok (.ireturn, 1) := by decide +kernel
theorem dX5_saves_0 : decode cX5_saves 0 = .ok (.iconst 0, 1) := by decide +kernel
theorem dX5_saves_1 : decode cX5_saves 1 = .ok (.istore_n 1, 1) := by decide +kernel
theorem dX5_saves_2 : decode cX5_saves 2 = .ok (.iload_n 1, 1) := by decide +kernel
theorem dX5_saves_3 : decode cX5_saves 3 = .ok (.bipush 37, 2) := by decide +kernel
theorem dX5_saves_5 : decode cX5_saves 5 = .ok (.if_icmp .ge 21, 3) := by decide +kernel
theorem dX5_saves_8 : decode cX5_saves 8 = .ok (.aload_n 0, 1) := by decide +kernel
theorem dX5_saves_9 : decode cX5_saves 9 = .ok (.getfield 16, 3) := by decide +kernel
theorem dX5_saves_12 : decode cX5_saves 12 = .ok (.iload_n 1, 1) := by decide +kernel
theorem dX5_saves_13 : decode cX5_saves 13 = .ok (.aload_n 0, 1) := by decide +kernel
theorem dX5_saves_14 : decode cX5_saves 14 = .ok (.getfield 7, 3) := by decide +kernel
theorem dX5_saves_17 : decode cX5_saves 17 = .ok (.iload_n 1, 1) := by decide +kernel
theorem dX5_saves_18 : decode cX5_saves 18 = .ok (.iaload, 1) := by decide +kernel
theorem dX5_saves_19 : decode cX5_saves 19 = .ok (.iastore, 1) := by decide +kernel
theorem dX5_saves_20 : decode cX5_saves 20 = .ok (.iinc 1 1, 3) := by decide +kernel
theorem dX5_saves_23 : decode cX5_saves 23 = .ok (.goto (-21), 3) := by decide +kernel
theorem dX5_saves_26 : decode cX5_saves 26 = .ok (.return_, 1) := by decide +kernel
theorem dX5_putsBack_0 : decode cX5_putsBack 0 = .ok (.iconst 0, 1) := by decide +kernel
theorem dX5_putsBack_1 : decode cX5_putsBack 1 = .ok (.istore_n 1, 1) := by decide +kernel
theorem dX5_putsBack_2 : decode cX5_putsBack 2 = .ok (.iload_n 1, 1) := by decide +kernel
theorem dX5_putsBack_3 : decode cX5_putsBack 3 = .ok (.bipush 37, 2) := by decide +kernel
theorem dX5_putsBack_5 : decode cX5_putsBack 5 = .ok (.if_icmp .ge 21, 3) := by decide +kernel
theorem dX5_putsBack_8 : decode cX5_putsBack 8 = .ok (.aload_n 0, 1) := by decide +kernel
theorem dX5_putsBack_9 : decode cX5_putsBack 9 = .ok (.getfield 7, 3) := by decide +kernel
theorem dX5_putsBack_12 : decode cX5_putsBack 12 = .ok (.iload_n 1, 1) := by decide +kernel
theorem dX5_putsBack_13 : decode cX5_putsBack 13 = .ok (.aload_n 0, 1) := by decide +kernel
theorem dX5_putsBack_14 : decode cX5_putsBack 14 = .ok (.getfield 16, 3) := by decide +kernel
theorem dX5_putsBack_17 : decode cX5_putsBack 17 = .ok (.iload_n 1, 1) := by decide +kernel
theorem dX5_putsBack_18 : decode cX5_putsBack 18 = .ok (.iaload, 1) := by decide +kernel
theorem dX5_putsBack_19 : decode cX5_putsBack 19 = .ok (.iastore, 1) := by decide +kernel
theorem dX5_putsBack_20 : decode cX5_putsBack 20 = .ok (.iinc 1 1, 3) := by decide +kernel
theorem dX5_putsBack_23 : decode cX5_putsBack 23 = .ok (.goto (-21), 3) := by decide +kernel
theorem dX5_putsBack_26 : decode cX5_putsBack 26 = .ok (.return_, 1) := by decide +kernel
theorem dX5_laysAside_0 : decode cX5_laysAside 0 = .ok (.iconst 0, 1) := by decide +kernel
theorem dX5_laysAside_1 : decode cX5_laysAside 1 = .ok (.istore_n 1, 1) := by decide +kernel
theorem dX5_laysAside_2 : decode cX5_laysAside 2 = .ok (.iload_n 1, 1) := by decide +kernel
theorem dX5_laysAside_3 : decode cX5_laysAside 3 = .ok (.bipush 37, 2) := by decide +kernel
theorem dX5_laysAside_5 : decode cX5_laysAside 5 = .ok (.if_icmp .ge 21, 3) := by decide +kernel
theorem dX5_laysAside_8 : decode cX5_laysAside 8 = .ok (.aload_n 0, 1) := by decide +kernel
theorem dX5_laysAside_9 : decode cX5_laysAside 9 = .ok (.getfield 19, 3) := by decide +kernel
theorem dX5_laysAside_12 : decode cX5_laysAside 12 = .ok (.iload_n 1, 1) := by decide +kernel
theorem dX5_laysAside_13 : decode cX5_laysAside 13 = .ok (.aload_n 0, 1) := by decide +kernel
theorem dX5_laysAside_14 : decode cX5_laysAside 14 = .ok (.getfield 7, 3) := by decide +kernel
theorem dX5_laysAside_17 : decode cX5_laysAside 17 = .ok (.iload_n 1, 1) := by decide +kernel
theorem dX5_laysAside_18 : decode cX5_laysAside 18 = .ok (.iaload, 1) := by decide +kernel
theorem dX5_laysAside_19 : decode cX5_laysAside 19 = .ok (.iastore, 1) := by decide +kernel
theorem dX5_laysAside_20 : decode cX5_laysAside 20 = .ok (.iinc 1 1, 3) := by decide +kernel
theorem dX5_laysAside_23 : decode cX5_laysAside 23 = .ok (.goto (-21), 3) := by decide +kernel
theorem dX5_laysAside_26 : decode cX5_laysAside 26 = .ok (.return_, 1) := by decide +kernel
theorem dX5_takesBack_0 : decode cX5_takesBack 0 = .ok (.iconst 0, 1) := by decide +kernel
theorem dX5_takesBack_1 : decode cX5_takesBack 1 = .ok (.istore_n 2, 1) := by decide +kernel
theorem dX5_takesBack_2 : decode cX5_takesBack 2 = .ok (.iload_n 2, 1) := by decide +kernel
theorem dX5_takesBack_3 : decode cX5_takesBack 3 = .ok (.bipush 37, 2) := by decide +kernel
theorem dX5_takesBack_5 : decode cX5_takesBack 5 = .ok (.if_icmp .ge 21, 3) := by decide +kernel
theorem dX5_takesBack_8 : decode cX5_takesBack 8 = .ok (.aload_n 0, 1) := by decide +kernel
theorem dX5_takesBack_9 : decode cX5_takesBack 9 = .ok (.getfield 7, 3) := by decide +kernel
theorem dX5_takesBack_12 : decode cX5_takesBack 12 = .ok (.iload_n 2, 1) := by decide +kernel
theorem dX5_takesBack_13 : decode cX5_takesBack 13 = .ok (.aload_n 0, 1) := by decide +kernel
theorem dX5_takesBack_14 : decode cX5_takesBack 14 = .ok (.getfield 19, 3) := by decide +kernel
theorem dX5_takesBack_17 : decode cX5_takesBack 17 = .ok (.iload_n 2, 1) := by decide +kernel
theorem dX5_takesBack_18 : decode cX5_takesBack 18 = .ok (.iaload, 1) := by decide +kernel
theorem dX5_takesBack_19 : decode cX5_takesBack 19 = .ok (.iastore, 1) := by decide +kernel
theorem dX5_takesBack_20 : decode cX5_takesBack 20 = .ok (.iinc 2 1, 3) := by decide +kernel
theorem dX5_takesBack_23 : decode cX5_takesBack 23 = .ok (.goto (-21), 3) := by decide +kernel
theorem dX5_takesBack_26 : decode cX5_takesBack 26 = .ok (.iload_n 1, 1) := by decide +kernel
theorem dX5_takesBack_27 : decode cX5_takesBack 27 = .ok (.ireturn, 1) := by decide +kernel
theorem dX5_becomes_0 : decode cX5_becomes 0 = .ok (.aload_n 0, 1) := by decide +kernel
theorem dX5_becomes_1 : decode cX5_becomes 1 = .ok (.getfield 7, 3) := by decide +kernel
theorem dX5_becomes_4 : decode cX5_becomes 4 = .ok (.iload_n 1, 1) := by decide +kernel
theorem dX5_becomes_5 : decode cX5_becomes 5 = .ok (.iaload, 1) := by decide +kernel
theorem dX5_becomes_6 : decode cX5_becomes 6 = .ok (.istore_n 3, 1) := by decide +kernel
theorem dX5_becomes_7 : decode cX5_becomes 7 = .ok (.aload_n 0, 1) := by decide +kernel
theorem dX5_becomes_8 : decode cX5_becomes 8 = .ok (.getfield 7, 3) := by decide +kernel
theorem dX5_becomes_11 : decode cX5_becomes 11 = .ok (.iload_n 1, 1) := by decide +kernel
theorem dX5_becomes_12 : decode cX5_becomes 12 = .ok (.iload_n 2, 1) := by decide +kernel
theorem dX5_becomes_13 : decode cX5_becomes 13 = .ok (.iastore, 1) := by decide +kernel
theorem dX5_becomes_14 : decode cX5_becomes 14 = .ok (.iload_n 3, 1) := by decide +kernel
theorem dX5_becomes_15 : decode cX5_becomes 15 = .ok (.ireturn, 1) := by decide +kernel
theorem dX5_spot_0 : decode cX5_spot 0 = .ok (.iconst 5, 1) := by decide +kernel
theorem dX5_spot_1 : decode cX5_spot 1 = .ok (.iconst 4, 1) := by decide +kernel
theorem dX5_spot_2 : decode cX5_spot 2 = .ok (.iload_n 0, 1) := by decide +kernel
theorem dX5_spot_3 : decode cX5_spot 3 = .ok (.imul, 1) := by decide +kernel
theorem dX5_spot_4 : decode cX5_spot 4 = .ok (.iadd, 1) := by decide +kernel
theorem dX5_spot_5 : decode cX5_spot 5 = .ok (.iload_n 1, 1) := by decide +kernel
theorem dX5_spot_6 : decode cX5_spot 6 = .ok (.iadd, 1) := by decide +kernel
theorem dX5_spot_7 : decode cX5_spot 7 = .ok (.ireturn, 1) := by decide +kernel
theorem dX5_its_0 : decode cX5_its 0 = .ok (.aload_n 0, 1) := by decide +kernel
theorem dX5_its_1 : decode cX5_its 1 = .ok (.getfield 7, 3) := by decide +kernel
theorem dX5_its_4 : decode cX5_its 4 = .ok (.iload_n 1, 1) := by decide +kernel
theorem dX5_its_5 : decode cX5_its 5 = .ok (.iload_n 2, 1) := by decide +kernel
theorem dX5_its_6 : decode cX5_its 6 = .ok (.invokestatic 42, 3) := by decide +kernel
theorem dX5_its_9 : decode cX5_its 9 = .ok (.iaload, 1) := by decide +kernel
theorem dX5_its_10 : decode cX5_its 10 = .ok (.ireturn, 1) := by decide +kernel
theorem dX5_isPlace_0 : decode cX5_isPlace 0 = .ok (.iload_n 1, 1) := by decide +kernel
theorem dX5_isPlace_1 : decode cX5_isPlace 1 = .ok (.i2l, 1) := by decide +kernel
theorem dX5_isPlace_2 : decode cX5_isPlace 2 = .ok (.lconst 0, 1) := by decide +kernel
theorem dX5_isPlace_3 : decode cX5_isPlace 3 = .ok (.aload_n 0, 1) := by decide +kernel
theorem dX5_isPlace_4 : decode cX5_isPlace 4 = .ok (.getfield 7, 3) := by decide +kernel
theorem dX5_isPlace_7 : decode cX5_isPlace 7 = .ok (.iconst 1, 1) := by decide +kernel
theorem dX5_isPlace_8 : decode cX5_isPlace 8 = .ok (.iaload, 1) := by decide +kernel
theorem dX5_isPlace_9 : decode cX5_isPlace 9 = .ok (.iconst 1, 1) := by decide +kernel
theorem dX5_isPlace_10 : decode cX5_isPlace 10 = .ok (.isub, 1) := by decide +kernel
theorem dX5_isPlace_11 : decode cX5_isPlace 11 = .ok (.i2l, 1) := by decide +kernel
theorem dX5_isPlace_12 : decode cX5_isPlace 12 = .ok (.invokestatic 46, 3) := by decide +kernel
theorem dX5_isPlace_15 : decode cX5_isPlace 15 = .ok (.ireturn, 1) := by decide +kernel
theorem dX5_isKind_0 : decode cX5_isKind 0 = .ok (.iload_n 0, 1) := by decide +kernel
theorem dX5_isKind_1 : decode cX5_isKind 1 = .ok (.i2l, 1) := by decide +kernel
theorem dX5_isKind_2 : decode cX5_isKind 2 = .ok (.lconst 0, 1) := by decide +kernel
theorem dX5_isKind_3 : decode cX5_isKind 3 = .ok (.ldc2_w 52, 3) := by decide +kernel
theorem dX5_isKind_6 : decode cX5_isKind 6 = .ok (.invokestatic 46, 3) := by decide +kernel
theorem dX5_isKind_9 : decode cX5_isKind 9 = .ok (.ireturn, 1) := by decide +kernel
theorem dX5_together_0 : decode cX5_together 0 = .ok (.iconst 0, 1) := by decide +kernel
theorem dX5_together_1 : decode cX5_together 1 = .ok (.istore_n 2, 1) := by decide +kernel
theorem dX5_together_2 : decode cX5_together 2 = .ok (.iconst 0, 1) := by decide +kernel
theorem dX5_together_3 : decode cX5_together 3 = .ok (.istore_n 3, 1) := by decide +kernel
theorem dX5_together_4 : decode cX5_together 4 = .ok (.iload_n 3, 1) := by decide +kernel
theorem dX5_together_5 : decode cX5_together 5 = .ok (.aload_n 0, 1) := by decide +kernel
theorem dX5_together_6 : decode cX5_together 6 = .ok (.getfield 7, 3) := by decide +kernel
theorem dX5_together_9 : decode cX5_together 9 = .ok (.iconst 1, 1) := by decide +kernel
theorem dX5_together_10 : decode cX5_together 10 = .ok (.iaload, 1) := by decide +kernel
theorem dX5_together_11 : decode cX5_together 11 = .ok (.if_icmp .ge 18, 3) := by decide +kernel
theorem dX5_together_14 : decode cX5_together 14 = .ok (.iload_n 2, 1) := by decide +kernel
theorem dX5_together_15 : decode cX5_together 15 = .ok (.aload_n 0, 1) := by decide +kernel
theorem dX5_together_16 : decode cX5_together 16 = .ok (.iload_n 3, 1) := by decide +kernel
theorem dX5_together_17 : decode cX5_together 17 = .ok (.iload_n 1, 1) := by decide +kernel
theorem dX5_together_18 : decode cX5_together 18 = .ok (.invokevirtual 54, 3) := by decide +kernel
theorem dX5_together_21 : decode cX5_together 21 = .ok (.iadd, 1) := by decide +kernel
theorem dX5_together_22 : decode cX5_together 22 = .ok (.istore_n 2, 1) := by decide +kernel
theorem dX5_together_23 : decode cX5_together 23 = .ok (.iinc 3 1, 3) := by decide +kernel
theorem dX5_together_26 : decode cX5_together 26 = .ok (.goto (-22), 3) := by decide +kernel
theorem dX5_together_29 : decode cX5_together 29 = .ok (.iload_n 2, 1) := by decide +kernel
theorem dX5_together_30 : decode cX5_together 30 = .ok (.ireturn, 1) := by decide +kernel
theorem dX5_paceOf_0 : decode cX5_paceOf 0 = .ok (.aload_n 0, 1) := by decide +kernel
theorem dX5_paceOf_1 : decode cX5_paceOf 1 = .ok (.getfield 7, 3) := by decide +kernel
theorem dX5_paceOf_4 : decode cX5_paceOf 4 = .ok (.iconst 0, 1) := by decide +kernel
theorem dX5_paceOf_5 : decode cX5_paceOf 5 = .ok (.iaload, 1) := by decide +kernel
theorem dX5_paceOf_6 : decode cX5_paceOf 6 = .ok (.iload_n 1, 1) := by decide +kernel
theorem dX5_paceOf_7 : decode cX5_paceOf 7 = .ok (.isub, 1) := by decide +kernel
theorem dX5_paceOf_8 : decode cX5_paceOf 8 = .ok (.bipush 30, 2) := by decide +kernel
theorem dX5_paceOf_10 : decode cX5_paceOf 10 = .ok (.irem, 1) := by decide +kernel
theorem dX5_paceOf_11 : decode cX5_paceOf 11 = .ok (.istore_n 2, 1) := by decide +kernel
theorem dX5_paceOf_12 : decode cX5_paceOf 12 = .ok (.iload_n 2, 1) := by decide +kernel
theorem dX5_paceOf_13 : decode cX5_paceOf 13 = .ok (.ifCond .ge 10, 3) := by decide +kernel
theorem dX5_paceOf_16 : decode cX5_paceOf 16 = .ok (.iload_n 2, 1) := by decide +kernel
theorem dX5_paceOf_17 : decode cX5_paceOf 17 = .ok (.bipush 30, 2) := by decide +kernel
theorem dX5_paceOf_19 : decode cX5_paceOf 19 = .ok (.iadd, 1) := by decide +kernel
theorem dX5_paceOf_20 : decode cX5_paceOf 20 = .ok (.goto 4, 3) := by decide +kernel
theorem dX5_paceOf_23 : decode cX5_paceOf 23 = .ok (.iload_n 2, 1) := by decide +kernel
theorem dX5_paceOf_24 : decode cX5_paceOf 24 = .ok (.ireturn, 1) := by decide +kernel
theorem dX5_isAtRoot_0 : decode cX5_isAtRoot 0 = .ok (.aload_n 0, 1) := by decide +kernel
theorem dX5_isAtRoot_1 : decode cX5_isAtRoot 1 = .ok (.getfield 7, 3) := by decide +kernel
theorem dX5_isAtRoot_4 : decode cX5_isAtRoot 4 = .ok (.iconst 2, 1) := by decide +kernel
theorem dX5_isAtRoot_5 : decode cX5_isAtRoot 5 = .ok (.iaload, 1) := by decide +kernel
theorem dX5_isAtRoot_6 : decode cX5_isAtRoot 6 = .ok (.aload_n 0, 1) := by decide +kernel
theorem dX5_isAtRoot_7 : decode cX5_isAtRoot 7 = .ok (.iload_n 1, 1) := by decide +kernel
theorem dX5_isAtRoot_8 : decode cX5_isAtRoot 8 = .ok (.invokevirtual 57, 3) := by decide +kernel
theorem dX5_isAtRoot_11 : decode cX5_isAtRoot 11 = .ok (.ishr, 1) := by decide +kernel
theorem dX5_isAtRoot_12 : decode cX5_isAtRoot 12 = .ok (.iconst 1, 1) := by decide +kernel
theorem dX5_isAtRoot_13 : decode cX5_isAtRoot 13 = .ok (.iand, 1) := by decide +kernel
theorem dX5_isAtRoot_14 : decode cX5_isAtRoot 14 = .ok (.iconst 1, 1) := by decide +kernel
theorem dX5_isAtRoot_15 : decode cX5_isAtRoot 15 = .ok (.if_icmp .ne 7, 3) := by decide +kernel
theorem dX5_isAtRoot_18 : decode cX5_isAtRoot 18 = .ok (.iconst 1, 1) := by decide +kernel
theorem dX5_isAtRoot_19 : decode cX5_isAtRoot 19 = .ok (.goto 4, 3) := by decide +kernel
theorem dX5_isAtRoot_22 : decode cX5_isAtRoot 22 = .ok (.iconst 0, 1) := by decide +kernel
theorem dX5_isAtRoot_23 : decode cX5_isAtRoot 23 = .ok (.ireturn, 1) := by decide +kernel
theorem dX5_roots_0 : decode cX5_roots 0 = .ok (.iload_n 1, 1) := by decide +kernel
theorem dX5_roots_1 : decode cX5_roots 1 = .ok (.i2l, 1) := by decide +kernel
theorem dX5_roots_2 : decode cX5_roots 2 = .ok (.lconst 0, 1) := by decide +kernel
theorem dX5_roots_3 : decode cX5_roots 3 = .ok (.ldc2_w 61, 3) := by decide +kernel
theorem dX5_roots_6 : decode cX5_roots 6 = .ok (.invokestatic 46, 3) := by decide +kernel
theorem dX5_roots_9 : decode cX5_roots 9 = .ok (.ifCond .eq 12, 3) := by decide +kernel
theorem dX5_roots_12 : decode cX5_roots 12 = .ok (.aload_n 0, 1) := by decide +kernel
theorem dX5_roots_13 : decode cX5_roots 13 = .ok (.iconst 2, 1) := by decide +kernel
theorem dX5_roots_14 : decode cX5_roots 14 = .ok (.iload_n 1, 1) := by decide +kernel
theorem dX5_roots_15 : decode cX5_roots 15 = .ok (.invokevirtual 63, 3) := by decide +kernel
theorem dX5_roots_18 : decode cX5_roots 18 = .ok (.goto 9, 3) := by decide +kernel
theorem dX5_roots_21 : decode cX5_roots 21 = .ok (.aload_n 0, 1) := by decide +kernel
theorem dX5_roots_22 : decode cX5_roots 22 = .ok (.ldc 41, 2) := by decide +kernel
theorem dX5_roots_24 : decode cX5_roots 24 = .ok (.invokevirtual 66, 3) := by decide +kernel
theorem dX5_roots_27 : decode cX5_roots 27 = .ok (.ireturn, 1) := by decide +kernel
theorem dX5_lantern_0 : decode cX5_lantern 0 = .ok (.iload_n 1, 1) := by decide +kernel
theorem dX5_lantern_1 : decode cX5_lantern 1 = .ok (.iconst (-1), 1) := by decide +kernel
theorem dX5_lantern_2 : decode cX5_lantern 2 = .ok (.if_icmp .eq 11, 3) := by decide +kernel
theorem dX5_lantern_5 : decode cX5_lantern 5 = .ok (.aload_n 0, 1) := by decide +kernel
theorem dX5_lantern_6 : decode cX5_lantern 6 = .ok (.iload_n 1, 1) := by decide +kernel
theorem dX5_lantern_7 : decode cX5_lantern 7 = .ok (.invokevirtual 69, 3) := by decide +kernel
theorem dX5_lantern_10 : decode cX5_lantern 10 = .ok (.ifCond .eq 12, 3) := by decide +kernel
theorem dX5_lantern_13 : decode cX5_lantern 13 = .ok (.aload_n 0, 1) := by decide +kernel
theorem dX5_lantern_14 : decode cX5_lantern 14 = .ok (.iconst 3, 1) := by decide +kernel
theorem dX5_lantern_15 : decode cX5_lantern 15 = .ok (.iload_n 1, 1) := by decide +kernel
theorem dX5_lantern_16 : decode cX5_lantern 16 = .ok (.invokevirtual 63, 3) := by decide +kernel
theorem dX5_lantern_19 : decode cX5_lantern 19 = .ok (.goto 9, 3) := by decide +kernel
theorem dX5_lantern_22 : decode cX5_lantern 22 = .ok (.aload_n 0, 1) := by decide +kernel
theorem dX5_lantern_23 : decode cX5_lantern 23 = .ok (.ldc 41, 2) := by decide +kernel
theorem dX5_lantern_25 : decode cX5_lantern 25 = .ok (.invokevirtual 66, 3) := by decide +kernel
theorem dX5_lantern_28 : decode cX5_lantern 28 = .ok (.ireturn, 1) := by decide +kernel
theorem dX5_bright_0 : decode cX5_bright 0 = .ok (.iload_n 1, 1) := by decide +kernel
theorem dX5_bright_1 : decode cX5_bright 1 = .ok (.i2l, 1) := by decide +kernel
theorem dX5_bright_2 : decode cX5_bright 2 = .ok (.lconst 0, 1) := by decide +kernel
theorem dX5_bright_3 : decode cX5_bright 3 = .ok (.ldc2_w 73, 3) := by decide +kernel
theorem dX5_bright_6 : decode cX5_bright 6 = .ok (.invokestatic 46, 3) := by decide +kernel
theorem dX5_bright_9 : decode cX5_bright 9 = .ok (.ifCond .eq 12, 3) := by decide +kernel
theorem dX5_bright_12 : decode cX5_bright 12 = .ok (.aload_n 0, 1) := by decide +kernel
theorem dX5_bright_13 : decode cX5_bright 13 = .ok (.iconst 4, 1) := by decide +kernel
theorem dX5_bright_14 : decode cX5_bright 14 = .ok (.iload_n 1, 1) := by decide +kernel
theorem dX5_bright_15 : decode cX5_bright 15 = .ok (.invokevirtual 63, 3) := by decide +kernel
theorem dX5_bright_18 : decode cX5_bright 18 = .ok (.goto 9, 3) := by decide +kernel
theorem dX5_bright_21 : decode cX5_bright 21 = .ok (.aload_n 0, 1) := by decide +kernel
theorem dX5_bright_22 : decode cX5_bright 22 = .ok (.ldc 41, 2) := by decide +kernel
theorem dX5_bright_24 : decode cX5_bright 24 = .ok (.invokevirtual 66, 3) := by decide +kernel
theorem dX5_bright_27 : decode cX5_bright 27 = .ok (.ireturn, 1) := by decide +kernel
theorem dX5_shadesOf_0 : decode cX5_shadesOf 0 = .ok (.aload_n 0, 1) := by decide +kernel
theorem dX5_shadesOf_1 : decode cX5_shadesOf 1 = .ok (.iload_n 1, 1) := by decide +kernel
theorem dX5_shadesOf_2 : decode cX5_shadesOf 2 = .ok (.iconst 0, 1) := by decide +kernel
theorem dX5_shadesOf_3 : decode cX5_shadesOf 3 = .ok (.invokevirtual 54, 3) := by decide +kernel
theorem dX5_shadesOf_6 : decode cX5_shadesOf 6 = .ok (.istore_n 2, 1) := by decide +kernel
theorem dX5_shadesOf_7 : decode cX5_shadesOf 7 = .ok (.iload_n 2, 1) := by decide +kernel
theorem dX5_shadesOf_8 : decode cX5_shadesOf 8 = .ok (.iconst 1, 1) := by decide +kernel
theorem dX5_shadesOf_9 : decode cX5_shadesOf 9 = .ok (.if_icmp .ne 7, 3) := by decide +kernel
theorem dX5_shadesOf_12 : decode cX5_shadesOf 12 = .ok (.iconst 1, 1) := by decide +kernel
theorem dX5_shadesOf_13 : decode cX5_shadesOf 13 = .ok (.goto 13, 3) := by decide +kernel
theorem dX5_shadesOf_16 : decode cX5_shadesOf 16 = .ok (.iload_n 2, 1) := by decide +kernel
theorem dX5_shadesOf_17 : decode cX5_shadesOf 17 = .ok (.iconst 4, 1) := by decide +kernel
theorem dX5_shadesOf_18 : decode cX5_shadesOf 18 = .ok (.if_icmp .ne 7, 3) := by decide +kernel
theorem dX5_shadesOf_21 : decode cX5_shadesOf 21 = .ok (.iconst 2, 1) := by decide +kernel
theorem dX5_shadesOf_22 : decode cX5_shadesOf 22 = .ok (.goto 4, 3) := by decide +kernel
theorem dX5_shadesOf_25 : decode cX5_shadesOf 25 = .ok (.iconst 0, 1) := by decide +kernel
theorem dX5_shadesOf_26 : decode cX5_shadesOf 26 = .ok (.ireturn, 1) := by decide +kernel
theorem dX5_farOf_0 : decode cX5_farOf 0 = .ok (.iload_n 1, 1) := by decide +kernel
theorem dX5_farOf_1 : decode cX5_farOf 1 = .ok (.aload_n 0, 1) := by decide +kernel
theorem dX5_farOf_2 : decode cX5_farOf 2 = .ok (.getfield 7, 3) := by decide +kernel
theorem dX5_farOf_5 : decode cX5_farOf 5 = .ok (.iconst 3, 1) := by decide +kernel
theorem dX5_farOf_6 : decode cX5_farOf 6 = .ok (.iaload, 1) := by decide +kernel
theorem dX5_farOf_7 : decode cX5_farOf 7 = .ok (.if_icmp .ge 14, 3) := by decide +kernel
theorem dX5_farOf_10 : decode cX5_farOf 10 = .ok (.aload_n 0, 1) := by decide +kernel
theorem dX5_farOf_11 : decode cX5_farOf 11 = .ok (.getfield 7, 3) := by decide +kernel
theorem dX5_farOf_14 : decode cX5_farOf 14 = .ok (.iconst 3, 1) := by decide +kernel
theorem dX5_farOf_15 : decode cX5_farOf 15 = .ok (.iaload, 1) := by decide +kernel
theorem dX5_farOf_16 : decode cX5_farOf 16 = .ok (.iload_n 1, 1) := by decide +kernel
theorem dX5_farOf_17 : decode cX5_farOf 17 = .ok (.isub, 1) := by decide +kernel
theorem dX5_farOf_18 : decode cX5_farOf 18 = .ok (.goto 11, 3) := by decide +kernel
theorem dX5_farOf_21 : decode cX5_farOf 21 = .ok (.iload_n 1, 1) := by decide +kernel
theorem dX5_farOf_22 : decode cX5_farOf 22 = .ok (.aload_n 0, 1) := by decide +kernel
theorem dX5_farOf_23 : decode cX5_farOf 23 = .ok (.getfield 7, 3) := by decide +kernel
theorem dX5_farOf_26 : decode cX5_farOf 26 = .ok (.iconst 3, 1) := by decide +kernel
theorem dX5_farOf_27 : decode cX5_farOf 27 = .ok (.iaload, 1) := by decide +kernel
theorem dX5_farOf_28 : decode cX5_farOf 28 = .ok (.isub, 1) := by decide +kernel
theorem dX5_farOf_29 : decode cX5_farOf 29 = .ok (.ireturn, 1) := by decide +kernel
theorem dX5_isLit_0 : decode cX5_isLit 0 = .ok (.aload_n 0, 1) := by decide +kernel
theorem dX5_isLit_1 : decode cX5_isLit 1 = .ok (.aload_n 0, 1) := by decide +kernel
theorem dX5_isLit_2 : decode cX5_isLit 2 = .ok (.getfield 7, 3) := by decide +kernel
theorem dX5_isLit_5 : decode cX5_isLit 5 = .ok (.iconst 3, 1) := by decide +kernel
theorem dX5_isLit_6 : decode cX5_isLit 6 = .ok (.iaload, 1) := by decide +kernel
theorem dX5_isLit_7 : decode cX5_isLit 7 = .ok (.invokevirtual 69, 3) := by decide +kernel
theorem dX5_isLit_10 : decode cX5_isLit 10 = .ok (.ifCond .ne 5, 3) := by decide +kernel
theorem dX5_isLit_13 : decode cX5_isLit 13 = .ok (.iconst 0, 1) := by decide +kernel
theorem dX5_isLit_14 : decode cX5_isLit 14 = .ok (.ireturn, 1) := by decide +kernel
theorem dX5_isLit_15 : decode cX5_isLit 15 = .ok (.aload_n 0, 1) := by decide +kernel
theorem dX5_isLit_16 : decode cX5_isLit 16 = .ok (.getfield 7, 3) := by decide +kernel
theorem dX5_isLit_19 : decode cX5_isLit 19 = .ok (.iconst 4, 1) := by decide +kernel
theorem dX5_isLit_20 : decode cX5_isLit 20 = .ok (.iaload, 1) := by decide +kernel
theorem dX5_isLit_21 : decode cX5_isLit 21 = .ok (.istore_n 2, 1) := by decide +kernel
theorem dX5_isLit_22 : decode cX5_isLit 22 = .ok (.aload_n 0, 1) := by decide +kernel
theorem dX5_isLit_23 : decode cX5_isLit 23 = .ok (.getfield 7, 3) := by decide +kernel
theorem dX5_isLit_26 : decode cX5_isLit 26 = .ok (.iconst 3, 1) := by decide +kernel
theorem dX5_isLit_27 : decode cX5_isLit 27 = .ok (.iaload, 1) := by decide +kernel
theorem dX5_isLit_28 : decode cX5_isLit 28 = .ok (.iconst 1, 1) := by decide +kernel
theorem dX5_isLit_29 : decode cX5_isLit 29 = .ok (.iadd, 1) := by decide +kernel
theorem dX5_isLit_30 : decode cX5_isLit 30 = .ok (.istore_n 3, 1) := by decide +kernel
theorem dX5_isLit_31 : decode cX5_isLit 31 = .ok (.iload_n 3, 1) := by decide +kernel
theorem dX5_isLit_32 : decode cX5_isLit 32 = .ok (.iload_n 1, 1) := by decide +kernel
theorem dX5_isLit_33 : decode cX5_isLit 33 = .ok (.if_icmp .ge 17, 3) := by decide +kernel
theorem dX5_isLit_36 : decode cX5_isLit 36 = .ok (.iload_n 2, 1) := by decide +kernel
theorem dX5_isLit_37 : decode cX5_isLit 37 = .ok (.aload_n 0, 1) := by decide +kernel
theorem dX5_isLit_38 : decode cX5_isLit 38 = .ok (.iload_n 3, 1) := by decide +kernel
theorem dX5_isLit_39 : decode cX5_isLit 39 = .ok (.invokevirtual 75, 3) := by decide +kernel
theorem dX5_isLit_42 : decode cX5_isLit 42 = .ok (.isub, 1) := by decide +kernel
theorem dX5_isLit_43 : decode cX5_isLit 43 = .ok (.istore_n 2, 1) := by decide +kernel
theorem dX5_isLit_44 : decode cX5_isLit 44 = .ok (.iinc 3 1, 3) := by decide +kernel
theorem dX5_isLit_47 : decode cX5_isLit 47 = .ok (.goto (-16), 3) := by decide +kernel
theorem dX5_isLit_50 : decode cX5_isLit 50 = .ok (.aload_n 0, 1) := by decide +kernel
theorem dX5_isLit_51 : decode cX5_isLit 51 = .ok (.iload_n 1, 1) := by decide +kernel
theorem dX5_isLit_52 : decode cX5_isLit 52 = .ok (.invokevirtual 78, 3) := by decide +kernel
theorem dX5_isLit_55 : decode cX5_isLit 55 = .ok (.ifCond .eq 12, 3) := by decide +kernel
theorem dX5_isLit_58 : decode cX5_isLit 58 = .ok (.aload_n 0, 1) := by decide +kernel
theorem dX5_isLit_59 : decode cX5_isLit 59 = .ok (.iload_n 1, 1) := by decide +kernel
theorem dX5_isLit_60 : decode cX5_isLit 60 = .ok (.invokevirtual 78, 3) := by decide +kernel
theorem dX5_isLit_63 : decode cX5_isLit 63 = .ok (.iload_n 2, 1) := by decide +kernel
theorem dX5_isLit_64 : decode cX5_isLit 64 = .ok (.if_icmp .gt 7, 3) := by decide +kernel
theorem dX5_isLit_67 : decode cX5_isLit 67 = .ok (.iconst 1, 1) := by decide +kernel
theorem dX5_isLit_68 : decode cX5_isLit 68 = .ok (.goto 4, 3) := by decide +kernel
theorem dX5_isLit_71 : decode cX5_isLit 71 = .ok (.iconst 0, 1) := by decide +kernel
theorem dX5_isLit_72 : decode cX5_isLit 72 = .ok (.ireturn, 1) := by decide +kernel
theorem dX5_litOnes_0 : decode cX5_litOnes 0 = .ok (.iconst 0, 1) := by decide +kernel
theorem dX5_litOnes_1 : decode cX5_litOnes 1 = .ok (.istore_n 1, 1) := by decide +kernel
theorem dX5_litOnes_2 : decode cX5_litOnes 2 = .ok (.iconst 0, 1) := by decide +kernel
theorem dX5_litOnes_3 : decode cX5_litOnes 3 = .ok (.istore_n 2, 1) := by decide +kernel
theorem dX5_litOnes_4 : decode cX5_litOnes 4 = .ok (.iload_n 2, 1) := by decide +kernel
theorem dX5_litOnes_5 : decode cX5_litOnes 5 = .ok (.aload_n 0, 1) := by decide +kernel
theorem dX5_litOnes_6 : decode cX5_litOnes 6 = .ok (.getfield 7, 3) := by decide +kernel
theorem dX5_litOnes_9 : decode cX5_litOnes 9 = .ok (.iconst 1, 1) := by decide +kernel
theorem dX5_litOnes_10 : decode cX5_litOnes 10 = .ok (.iaload, 1) := by decide +kernel
theorem dX5_litOnes_11 : decode cX5_litOnes 11 = .ok (.if_icmp .ge 27, 3) := by decide +kernel
theorem dX5_litOnes_14 : decode cX5_litOnes 14 = .ok (.iload_n 1, 1) := by decide +kernel
theorem dX5_litOnes_15 : decode cX5_litOnes 15 = .ok (.aload_n 0, 1) := by decide +kernel
theorem dX5_litOnes_16 : decode cX5_litOnes 16 = .ok (.iload_n 2, 1) := by decide +kernel
theorem dX5_litOnes_17 : decode cX5_litOnes 17 = .ok (.invokevirtual 81, 3) := by decide +kernel
theorem dX5_litOnes_20 : decode cX5_litOnes 20 = .ok (.ifCond .eq 9, 3) := by decide +kernel
theorem dX5_litOnes_23 : decode cX5_litOnes 23 = .ok (.iconst 1, 1) := by decide +kernel
theorem dX5_litOnes_24 : decode cX5_litOnes 24 = .ok (.iload_n 2, 1) := by decide +kernel
theorem dX5_litOnes_25 : decode cX5_litOnes 25 = .ok (.ishl, 1) := by decide +kernel
theorem dX5_litOnes_26 : decode cX5_litOnes 26 = .ok (.goto 4, 3) := by decide +kernel
theorem dX5_litOnes_29 : decode cX5_litOnes 29 = .ok (.iconst 0, 1) := by decide +kernel
theorem dX5_litOnes_30 : decode cX5_litOnes 30 = .ok (.ior, 1) := by decide +kernel
theorem dX5_litOnes_31 : decode cX5_litOnes 31 = .ok (.istore_n 1, 1) := by decide +kernel
theorem dX5_litOnes_32 : decode cX5_litOnes 32 = .ok (.iinc 2 1, 3) := by decide +kernel
theorem dX5_litOnes_35 : decode cX5_litOnes 35 = .ok (.goto (-31), 3) := by decide +kernel
theorem dX5_litOnes_38 : decode cX5_litOnes 38 = .ok (.iload_n 1, 1) := by decide +kernel
theorem dX5_litOnes_39 : decode cX5_litOnes 39 = .ok (.ireturn, 1) := by decide +kernel
theorem dX5_rootedOnes_0 : decode cX5_rootedOnes 0 = .ok (.iconst 0, 1) := by decide +kernel
theorem dX5_rootedOnes_1 : decode cX5_rootedOnes 1 = .ok (.istore_n 1, 1) := by decide +kernel
theorem dX5_rootedOnes_2 : decode cX5_rootedOnes 2 = .ok (.iconst 0, 1) := by decide +kernel
theorem dX5_rootedOnes_3 : decode cX5_rootedOnes 3 = .ok (.istore_n 2, 1) := by decide +kernel
theorem dX5_rootedOnes_4 : decode cX5_rootedOnes 4 = .ok (.iload_n 2, 1) := by decide +kernel
theorem dX5_rootedOnes_5 : decode cX5_rootedOnes 5 = .ok (.aload_n 0, 1) := by decide +kernel
theorem dX5_rootedOnes_6 : decode cX5_rootedOnes 6 = .ok (.getfield 7, 3) := by decide +kernel
theorem dX5_rootedOnes_9 : decode cX5_rootedOnes 9 = .ok (.iconst 1, 1) := by decide +kernel
theorem dX5_rootedOnes_10 : decode cX5_rootedOnes 10 = .ok (.iaload, 1) := by decide +kernel
theorem dX5_rootedOnes_11 : decode cX5_rootedOnes 11 = .ok (.if_icmp .ge 27, 3) := by decide +kernel
theorem dX5_rootedOnes_14 : decode cX5_rootedOnes 14 = .ok (.iload_n 1, 1) := by decide +kernel
theorem dX5_rootedOnes_15 : decode cX5_rootedOnes 15 = .ok (.aload_n 0, 1) := by decide +kernel
theorem dX5_rootedOnes_16 : decode cX5_rootedOnes 16 = .ok (.iload_n 2, 1) := by decide +kernel
theorem dX5_rootedOnes_17 : decode cX5_rootedOnes 17 = .ok (.invokevirtual 84, 3) := by decide +kernel
theorem dX5_rootedOnes_20 : decode cX5_rootedOnes 20 = .ok (.ifCond .eq 9, 3) := by decide +kernel
theorem dX5_rootedOnes_23 : decode cX5_rootedOnes 23 = .ok (.iconst 1, 1) := by decide +kernel
theorem dX5_rootedOnes_24 : decode cX5_rootedOnes 24 = .ok (.iload_n 2, 1) := by decide +kernel
theorem dX5_rootedOnes_25 : decode cX5_rootedOnes 25 = .ok (.ishl, 1) := by decide +kernel
theorem dX5_rootedOnes_26 : decode cX5_rootedOnes 26 = .ok (.goto 4, 3) := by decide +kernel
theorem dX5_rootedOnes_29 : decode cX5_rootedOnes 29 = .ok (.iconst 0, 1) := by decide +kernel
theorem dX5_rootedOnes_30 : decode cX5_rootedOnes 30 = .ok (.ior, 1) := by decide +kernel
theorem dX5_rootedOnes_31 : decode cX5_rootedOnes 31 = .ok (.istore_n 1, 1) := by decide +kernel
theorem dX5_rootedOnes_32 : decode cX5_rootedOnes 32 = .ok (.iinc 2 1, 3) := by decide +kernel
theorem dX5_rootedOnes_35 : decode cX5_rootedOnes 35 = .ok (.goto (-31), 3) := by decide +kernel
theorem dX5_rootedOnes_38 : decode cX5_rootedOnes 38 = .ok (.iload_n 1, 1) := by decide +kernel
theorem dX5_rootedOnes_39 : decode cX5_rootedOnes 39 = .ok (.ireturn, 1) := by decide +kernel
theorem dX5_heardOnes_0 : decode cX5_heardOnes 0 = .ok (.iconst 0, 1) := by decide +kernel
theorem dX5_heardOnes_1 : decode cX5_heardOnes 1 = .ok (.istore_n 1, 1) := by decide +kernel
theorem dX5_heardOnes_2 : decode cX5_heardOnes 2 = .ok (.iconst 0, 1) := by decide +kernel
theorem dX5_heardOnes_3 : decode cX5_heardOnes 3 = .ok (.istore_n 2, 1) := by decide +kernel
theorem dX5_heardOnes_4 : decode cX5_heardOnes 4 = .ok (.iload_n 2, 1) := by decide +kernel
theorem dX5_heardOnes_5 : decode cX5_heardOnes 5 = .ok (.aload_n 0, 1) := by decide +kernel
theorem dX5_heardOnes_6 : decode cX5_heardOnes 6 = .ok (.getfield 7, 3) := by decide +kernel
theorem dX5_heardOnes_9 : decode cX5_heardOnes 9 = .ok (.iconst 1, 1) := by decide +kernel
theorem dX5_heardOnes_10 : decode cX5_heardOnes 10 = .ok (.iaload, 1) := by decide +kernel
theorem dX5_heardOnes_11 : decode cX5_heardOnes 11 = .ok (.if_icmp .ge 20, 3) := by decide +kernel
theorem dX5_heardOnes_14 : decode cX5_heardOnes 14 = .ok (.iload_n 1, 1) := by decide +kernel
theorem dX5_heardOnes_15 : decode cX5_heardOnes 15 = .ok (.aload_n 0, 1) := by decide +kernel
theorem dX5_heardOnes_16 : decode cX5_heardOnes 16 = .ok (.iload_n 2, 1) := by decide +kernel
theorem dX5_heardOnes_17 : decode cX5_heardOnes 17 = .ok (.iconst 1, 1) := by decide +kernel
theorem dX5_heardOnes_18 : decode cX5_heardOnes 18 = .ok (.invokevirtual 54, 3) := by decide +kernel
theorem dX5_heardOnes_21 : decode cX5_heardOnes 21 = .ok (.iload_n 2, 1) := by decide +kernel
theorem dX5_heardOnes_22 : decode cX5_heardOnes 22 = .ok (.ishl, 1) := by decide +kernel
theorem dX5_heardOnes_23 : decode cX5_heardOnes 23 = .ok (.ior, 1) := by decide +kernel
theorem dX5_heardOnes_24 : decode cX5_heardOnes 24 = .ok (.istore_n 1, 1) := by decide +kernel
theorem dX5_heardOnes_25 : decode cX5_heardOnes 25 = .ok (.iinc 2 1, 3) := by decide +kernel
theorem dX5_heardOnes_28 : decode cX5_heardOnes 28 = .ok (.goto (-24), 3) := by decide +kernel
theorem dX5_heardOnes_31 : decode cX5_heardOnes 31 = .ok (.iload_n 1, 1) := by decide +kernel
theorem dX5_heardOnes_32 : decode cX5_heardOnes 32 = .ok (.ireturn, 1) := by decide +kernel
theorem dX5_now_0 : decode cX5_now 0 = .ok (.iload_n 1, 1) := by decide +kernel
theorem dX5_now_1 : decode cX5_now 1 = .ok (.tableswitch 96 0 7 #[47, 54, 61, 68, 75, 80, 85, 90], 47) := by decide +kernel
theorem dX5_now_48 : decode cX5_now 48 = .ok (.aload_n 0, 1) := by decide +kernel
theorem dX5_now_49 : decode cX5_now 49 = .ok (.getfield 7, 3) := by decide +kernel
theorem dX5_now_52 : decode cX5_now 52 = .ok (.iconst 0, 1) := by decide +kernel
theorem dX5_now_53 : decode cX5_now 53 = .ok (.iaload, 1) := by decide +kernel
theorem dX5_now_54 : decode cX5_now 54 = .ok (.ireturn, 1) := by decide +kernel
theorem dX5_now_55 : decode cX5_now 55 = .ok (.aload_n 0, 1) := by decide +kernel
theorem dX5_now_56 : decode cX5_now 56 = .ok (.getfield 7, 3) := by decide +kernel
theorem dX5_now_59 : decode cX5_now 59 = .ok (.iconst 2, 1) := by decide +kernel
theorem dX5_now_60 : decode cX5_now 60 = .ok (.iaload, 1) := by decide +kernel
theorem dX5_now_61 : decode cX5_now 61 = .ok (.ireturn, 1) := by decide +kernel
theorem dX5_now_62 : decode cX5_now 62 = .ok (.aload_n 0, 1) := by decide +kernel
theorem dX5_now_63 : decode cX5_now 63 = .ok (.getfield 7, 3) := by decide +kernel
theorem dX5_now_66 : decode cX5_now 66 = .ok (.iconst 3, 1) := by decide +kernel
theorem dX5_now_67 : decode cX5_now 67 = .ok (.iaload, 1) := by decide +kernel
theorem dX5_now_68 : decode cX5_now 68 = .ok (.ireturn, 1) := by decide +kernel
theorem dX5_now_69 : decode cX5_now 69 = .ok (.aload_n 0, 1) := by decide +kernel
theorem dX5_now_70 : decode cX5_now 70 = .ok (.getfield 7, 3) := by decide +kernel
theorem dX5_now_73 : decode cX5_now 73 = .ok (.iconst 4, 1) := by decide +kernel
theorem dX5_now_74 : decode cX5_now 74 = .ok (.iaload, 1) := by decide +kernel
theorem dX5_now_75 : decode cX5_now 75 = .ok (.ireturn, 1) := by decide +kernel
theorem dX5_now_76 : decode cX5_now 76 = .ok (.aload_n 0, 1) := by decide +kernel
theorem dX5_now_77 : decode cX5_now 77 = .ok (.invokevirtual 87, 3) := by decide +kernel
theorem dX5_now_80 : decode cX5_now 80 = .ok (.ireturn, 1) := by decide +kernel
theorem dX5_now_81 : decode cX5_now 81 = .ok (.aload_n 0, 1) := by decide +kernel
theorem dX5_now_82 : decode cX5_now 82 = .ok (.invokevirtual 91, 3) := by decide +kernel
theorem dX5_now_85 : decode cX5_now 85 = .ok (.ireturn, 1) := by decide +kernel
theorem dX5_now_86 : decode cX5_now 86 = .ok (.aload_n 0, 1) := by decide +kernel
theorem dX5_now_87 : decode cX5_now 87 = .ok (.invokevirtual 94, 3) := by decide +kernel
theorem dX5_now_90 : decode cX5_now 90 = .ok (.ireturn, 1) := by decide +kernel
theorem dX5_now_91 : decode cX5_now 91 = .ok (.aload_n 0, 1) := by decide +kernel
theorem dX5_now_92 : decode cX5_now 92 = .ok (.iconst 2, 1) := by decide +kernel
theorem dX5_now_93 : decode cX5_now 93 = .ok (.invokevirtual 97, 3) := by decide +kernel
theorem dX5_now_96 : decode cX5_now 96 = .ok (.ireturn, 1) := by decide +kernel
theorem dX5_now_97 : decode cX5_now 97 = .ok (.aload_n 0, 1) := by decide +kernel
theorem dX5_now_98 : decode cX5_now 98 = .ok (.ldc 41, 2) := by decide +kernel
theorem dX5_now_100 : decode cX5_now 100 = .ok (.invokevirtual 66, 3) := by decide +kernel
theorem dX5_now_103 : decode cX5_now 103 = .ok (.ireturn, 1) := by decide +kernel
theorem dX5_isSeeing_0 : decode cX5_isSeeing 0 = .ok (.aload_n 0, 1) := by decide +kernel
theorem dX5_isSeeing_1 : decode cX5_isSeeing 1 = .ok (.iload_n 1, 1) := by decide +kernel
theorem dX5_isSeeing_2 : decode cX5_isSeeing 2 = .ok (.invokevirtual 81, 3) := by decide +kernel
theorem dX5_isSeeing_5 : decode cX5_isSeeing 5 = .ok (.istore_n 2, 1) := by decide +kernel
theorem dX5_isSeeing_6 : decode cX5_isSeeing 6 = .ok (.aload_n 0, 1) := by decide +kernel
theorem dX5_isSeeing_7 : decode cX5_isSeeing 7 = .ok (.iload_n 1, 1) := by decide +kernel
theorem dX5_isSeeing_8 : decode cX5_isSeeing 8 = .ok (.iconst 0, 1) := by decide +kernel
theorem dX5_isSeeing_9 : decode cX5_isSeeing 9 = .ok (.invokevirtual 54, 3) := by decide +kernel
theorem dX5_isSeeing_12 : decode cX5_isSeeing 12 = .ok (.tableswitch 106 1 5 #[36, 106, 55, 57, 84], 36) := by decide +kernel
theorem dX5_isSeeing_48 : decode cX5_isSeeing 48 = .ok (.iload_n 2, 1) := by decide +kernel
theorem dX5_isSeeing_49 : decode cX5_isSeeing 49 = .ok (.ifCond .eq 16, 3) := by decide +kernel
theorem dX5_isSeeing_52 : decode cX5_isSeeing 52 = .ok (.aload_n 0, 1) := by decide +kernel
theorem dX5_isSeeing_53 : decode cX5_isSeeing 53 = .ok (.iload_n 1, 1) := by decide +kernel
theorem dX5_isSeeing_54 : decode cX5_isSeeing 54 = .ok (.invokevirtual 78, 3) := by decide +kernel
theorem dX5_isSeeing_57 : decode cX5_isSeeing 57 = .ok (.iconst 2, 1) := by decide +kernel
theorem dX5_isSeeing_58 : decode cX5_isSeeing 58 = .ok (.if_icmp .gt 7, 3) := by decide +kernel
theorem dX5_isSeeing_61 : decode cX5_isSeeing 61 = .ok (.iconst 1, 1) := by decide +kernel
theorem dX5_isSeeing_62 : decode cX5_isSeeing 62 = .ok (.goto 4, 3) := by decide +kernel
theorem dX5_isSeeing_65 : decode cX5_isSeeing 65 = .ok (.iconst 0, 1) := by decide +kernel
theorem dX5_isSeeing_66 : decode cX5_isSeeing 66 = .ok (.ireturn, 1) := by decide +kernel
theorem dX5_isSeeing_67 : decode cX5_isSeeing 67 = .ok (.iconst 1, 1) := by decide +kernel
theorem dX5_isSeeing_68 : decode cX5_isSeeing 68 = .ok (.ireturn, 1) := by decide +kernel
theorem dX5_isSeeing_69 : decode cX5_isSeeing 69 = .ok (.iload_n 2, 1) := by decide +kernel
theorem dX5_isSeeing_70 : decode cX5_isSeeing 70 = .ok (.ifCond .eq 24, 3) := by decide +kernel
theorem dX5_isSeeing_73 : decode cX5_isSeeing 73 = .ok (.aload_n 0, 1) := by decide +kernel
theorem dX5_isSeeing_74 : decode cX5_isSeeing 74 = .ok (.iload_n 1, 1) := by decide +kernel
theorem dX5_isSeeing_75 : decode cX5_isSeeing 75 = .ok (.invokevirtual 78, 3) := by decide +kernel
theorem dX5_isSeeing_78 : decode cX5_isSeeing 78 = .ok (.iconst 2, 1) := by decide +kernel
theorem dX5_isSeeing_79 : decode cX5_isSeeing 79 = .ok (.if_icmp .gt 15, 3) := by decide +kernel
theorem dX5_isSeeing_82 : decode cX5_isSeeing 82 = .ok (.aload_n 0, 1) := by decide +kernel
theorem dX5_isSeeing_83 : decode cX5_isSeeing 83 = .ok (.iload_n 1, 1) := by decide +kernel
theorem dX5_isSeeing_84 : decode cX5_isSeeing 84 = .ok (.invokevirtual 78, 3) := by decide +kernel
theorem dX5_isSeeing_87 : decode cX5_isSeeing 87 = .ok (.ifCond .le 7, 3) := by decide +kernel
theorem dX5_isSeeing_90 : decode cX5_isSeeing 90 = .ok (.iconst 1, 1) := by decide +kernel
theorem dX5_isSeeing_91 : decode cX5_isSeeing 91 = .ok (.goto 4, 3) := by decide +kernel
theorem dX5_isSeeing_94 : decode cX5_isSeeing 94 = .ok (.iconst 0, 1) := by decide +kernel
theorem dX5_isSeeing_95 : decode cX5_isSeeing 95 = .ok (.ireturn, 1) := by decide +kernel
theorem dX5_isSeeing_96 : decode cX5_isSeeing 96 = .ok (.iload_n 2, 1) := by decide +kernel
theorem dX5_isSeeing_97 : decode cX5_isSeeing 97 = .ok (.ifCond .eq 19, 3) := by decide +kernel
theorem dX5_isSeeing_100 : decode cX5_isSeeing 100 = .ok (.aload_n 0, 1) := by decide +kernel
theorem dX5_isSeeing_101 : decode cX5_isSeeing 101 = .ok (.getfield 7, 3) := by decide +kernel
theorem dX5_isSeeing_104 : decode cX5_isSeeing 104 = .ok (.iconst 0, 1) := by decide +kernel
theorem dX5_isSeeing_105 : decode cX5_isSeeing 105 = .ok (.iaload, 1) := by decide +kernel
theorem dX5_isSeeing_106 : decode cX5_isSeeing 106 = .ok (.iconst 3, 1) := by decide +kernel
theorem dX5_isSeeing_107 : decode cX5_isSeeing 107 = .ok (.irem, 1) := by decide +kernel
theorem dX5_isSeeing_108 : decode cX5_isSeeing 108 = .ok (.iconst 2, 1) := by decide +kernel
theorem dX5_isSeeing_109 : decode cX5_isSeeing 109 = .ok (.if_icmp .eq 7, 3) := by decide +kernel
theorem dX5_isSeeing_112 : decode cX5_isSeeing 112 = .ok (.iconst 1, 1) := by decide +kernel
theorem dX5_isSeeing_113 : decode cX5_isSeeing 113 = .ok (.goto 4, 3) := by decide +kernel
theorem dX5_isSeeing_116 : decode cX5_isSeeing 116 = .ok (.iconst 0, 1) := by decide +kernel
theorem dX5_isSeeing_117 : decode cX5_isSeeing 117 = .ok (.ireturn, 1) := by decide +kernel
theorem dX5_isSeeing_118 : decode cX5_isSeeing 118 = .ok (.iload_n 2, 1) := by decide +kernel
theorem dX5_isSeeing_119 : decode cX5_isSeeing 119 = .ok (.ireturn, 1) := by decide +kernel
theorem dX5_isHeeding_0 : decode cX5_isHeeding 0 = .ok (.aload_n 0, 1) := by decide +kernel
theorem dX5_isHeeding_1 : decode cX5_isHeeding 1 = .ok (.iload_n 1, 1) := by decide +kernel
theorem dX5_isHeeding_2 : decode cX5_isHeeding 2 = .ok (.iconst 0, 1) := by decide +kernel
theorem dX5_isHeeding_3 : decode cX5_isHeeding 3 = .ok (.invokevirtual 54, 3) := by decide +kernel
theorem dX5_isHeeding_6 : decode cX5_isHeeding 6 = .ok (.istore_n 2, 1) := by decide +kernel
theorem dX5_isHeeding_7 : decode cX5_isHeeding 7 = .ok (.iload_n 2, 1) := by decide +kernel
theorem dX5_isHeeding_8 : decode cX5_isHeeding 8 = .ok (.iconst 2, 1) := by decide +kernel
theorem dX5_isHeeding_9 : decode cX5_isHeeding 9 = .ok (.if_icmp .eq 19, 3) := by decide +kernel
theorem dX5_isHeeding_12 : decode cX5_isHeeding 12 = .ok (.iload_n 2, 1) := by decide +kernel
theorem dX5_isHeeding_13 : decode cX5_isHeeding 13 = .ok (.iconst 5, 1) := by decide +kernel
theorem dX5_isHeeding_14 : decode cX5_isHeeding 14 = .ok (.if_icmp .eq 18, 3) := by decide +kernel
theorem dX5_isHeeding_17 : decode cX5_isHeeding 17 = .ok (.aload_n 0, 1) := by decide +kernel
theorem dX5_isHeeding_18 : decode cX5_isHeeding 18 = .ok (.iload_n 1, 1) := by decide +kernel
theorem dX5_isHeeding_19 : decode cX5_isHeeding 19 = .ok (.iconst 3, 1) := by decide +kernel
theorem dX5_isHeeding_20 : decode cX5_isHeeding 20 = .ok (.invokevirtual 54, 3) := by decide +kernel
theorem dX5_isHeeding_23 : decode cX5_isHeeding 23 = .ok (.bipush 30, 2) := by decide +kernel
theorem dX5_isHeeding_25 : decode cX5_isHeeding 25 = .ok (.if_icmp .lt 7, 3) := by decide +kernel
theorem dX5_isHeeding_28 : decode cX5_isHeeding 28 = .ok (.iconst 1, 1) := by decide +kernel
theorem dX5_isHeeding_29 : decode cX5_isHeeding 29 = .ok (.goto 4, 3) := by decide +kernel
theorem dX5_isHeeding_32 : decode cX5_isHeeding 32 = .ok (.iconst 0, 1) := by decide +kernel
theorem dX5_isHeeding_33 : decode cX5_isHeeding 33 = .ok (.ireturn, 1) := by decide +kernel
theorem dX5_isSaying_0 : decode cX5_isSaying 0 = .ok (.aload_n 0, 1) := by decide +kernel
theorem dX5_isSaying_1 : decode cX5_isSaying 1 = .ok (.getfield 100, 3) := by decide +kernel
theorem dX5_isSaying_4 : decode cX5_isSaying 4 = .ok (.iload_n 1, 1) := by decide +kernel
theorem dX5_isSaying_5 : decode cX5_isSaying 5 = .ok (.ishr, 1) := by decide +kernel
theorem dX5_isSaying_6 : decode cX5_isSaying 6 = .ok (.iconst 1, 1) := by decide +kernel
theorem dX5_isSaying_7 : decode cX5_isSaying 7 = .ok (.iand, 1) := by decide +kernel
theorem dX5_isSaying_8 : decode cX5_isSaying 8 = .ok (.iconst 1, 1) := by decide +kernel
theorem dX5_isSaying_9 : decode cX5_isSaying 9 = .ok (.if_icmp .ne 7, 3) := by decide +kernel
theorem dX5_isSaying_12 : decode cX5_isSaying 12 = .ok (.iconst 1, 1) := by decide +kernel
theorem dX5_isSaying_13 : decode cX5_isSaying 13 = .ok (.goto 4, 3) := by decide +kernel
theorem dX5_isSaying_16 : decode cX5_isSaying 16 = .ok (.iconst 0, 1) := by decide +kernel
theorem dX5_isSaying_17 : decode cX5_isSaying 17 = .ok (.istore_n 2, 1) := by decide +kernel
theorem dX5_isSaying_18 : decode cX5_isSaying 18 = .ok (.iload_n 2, 1) := by decide +kernel
theorem dX5_isSaying_19 : decode cX5_isSaying 19 = .ok (.ifCond .ne 19, 3) := by decide +kernel
theorem dX5_isSaying_22 : decode cX5_isSaying 22 = .ok (.aload_n 0, 1) := by decide +kernel
theorem dX5_isSaying_23 : decode cX5_isSaying 23 = .ok (.iload_n 1, 1) := by decide +kernel
theorem dX5_isSaying_24 : decode cX5_isSaying 24 = .ok (.invokevirtual 84, 3) := by decide +kernel
theorem dX5_isSaying_27 : decode cX5_isSaying 27 = .ok (.ifCond .eq 15, 3) := by decide +kernel
theorem dX5_isSaying_30 : decode cX5_isSaying 30 = .ok (.aload_n 0, 1) := by decide +kernel
theorem dX5_isSaying_31 : decode cX5_isSaying 31 = .ok (.iload_n 1, 1) := by decide +kernel
theorem dX5_isSaying_32 : decode cX5_isSaying 32 = .ok (.invokevirtual 104, 3) := by decide +kernel
theorem dX5_isSaying_35 : decode cX5_isSaying 35 = .ok (.ifCond .eq 7, 3) := by decide +kernel
theorem dX5_isSaying_38 : decode cX5_isSaying 38 = .ok (.iconst 1, 1) := by decide +kernel
theorem dX5_isSaying_39 : decode cX5_isSaying 39 = .ok (.goto 4, 3) := by decide +kernel
theorem dX5_isSaying_42 : decode cX5_isSaying 42 = .ok (.iconst 0, 1) := by decide +kernel
theorem dX5_isSaying_43 : decode cX5_isSaying 43 = .ok (.istore_n 3, 1) := by decide +kernel
theorem dX5_isSaying_44 : decode cX5_isSaying 44 = .ok (.iload_n 3, 1) := by decide +kernel
theorem dX5_isSaying_45 : decode cX5_isSaying 45 = .ok (.ifCond .ne 13, 3) := by decide +kernel
theorem dX5_isSaying_48 : decode cX5_isSaying 48 = .ok (.aload_n 0, 1) := by decide +kernel
theorem dX5_isSaying_49 : decode cX5_isSaying 49 = .ok (.iload_n 1, 1) := by decide +kernel
theorem dX5_isSaying_50 : decode cX5_isSaying 50 = .ok (.iconst 1, 1) := by decide +kernel
theorem dX5_isSaying_51 : decode cX5_isSaying 51 = .ok (.invokevirtual 54, 3) := by decide +kernel
theorem dX5_isSaying_54 : decode cX5_isSaying 54 = .ok (.iconst 1, 1) := by decide +kernel
theorem dX5_isSaying_55 : decode cX5_isSaying 55 = .ok (.if_icmp .ne 7, 3) := by decide +kernel
theorem dX5_isSaying_58 : decode cX5_isSaying 58 = .ok (.iconst 1, 1) := by decide +kernel
theorem dX5_isSaying_59 : decode cX5_isSaying 59 = .ok (.goto 4, 3) := by decide +kernel
theorem dX5_isSaying_62 : decode cX5_isSaying 62 = .ok (.iconst 0, 1) := by decide +kernel
theorem dX5_isSaying_63 : decode cX5_isSaying 63 = .ok (.istore 4, 2) := by decide +kernel
theorem dX5_isSaying_65 : decode cX5_isSaying 65 = .ok (.aload_n 0, 1) := by decide +kernel
theorem dX5_isSaying_66 : decode cX5_isSaying 66 = .ok (.iload_n 1, 1) := by decide +kernel
theorem dX5_isSaying_67 : decode cX5_isSaying 67 = .ok (.iconst 0, 1) := by decide +kernel
theorem dX5_isSaying_68 : decode cX5_isSaying 68 = .ok (.invokevirtual 54, 3) := by decide +kernel
theorem dX5_isSaying_71 : decode cX5_isSaying 71 = .ok (.tableswitch 62 1 5 #[33, 36, 62, 38, 60], 33) := by decide +kernel
theorem dX5_isSaying_104 : decode cX5_isSaying 104 = .ok (.iload 4, 2) := by decide +kernel
theorem dX5_isSaying_106 : decode cX5_isSaying 106 = .ok (.ireturn, 1) := by decide +kernel
theorem dX5_isSaying_107 : decode cX5_isSaying 107 = .ok (.iload_n 2, 1) := by decide +kernel
theorem dX5_isSaying_108 : decode cX5_isSaying 108 = .ok (.ireturn, 1) := by decide +kernel
theorem dX5_isSaying_109 : decode cX5_isSaying 109 = .ok (.iload 4, 2) := by decide +kernel
theorem dX5_isSaying_111 : decode cX5_isSaying 111 = .ok (.ifCond .eq 18, 3) := by decide +kernel
theorem dX5_isSaying_114 : decode cX5_isSaying 114 = .ok (.aload_n 0, 1) := by decide +kernel
theorem dX5_isSaying_115 : decode cX5_isSaying 115 = .ok (.iload_n 1, 1) := by decide +kernel
theorem dX5_isSaying_116 : decode cX5_isSaying 116 = .ok (.iconst 3, 1) := by decide +kernel
theorem dX5_isSaying_117 : decode cX5_isSaying 117 = .ok (.invokevirtual 54, 3) := by decide +kernel
theorem dX5_isSaying_120 : decode cX5_isSaying 120 = .ok (.bipush 20, 2) := by decide +kernel
theorem dX5_isSaying_122 : decode cX5_isSaying 122 = .ok (.if_icmp .lt 7, 3) := by decide +kernel
theorem dX5_isSaying_125 : decode cX5_isSaying 125 = .ok (.iconst 1, 1) := by decide +kernel
theorem dX5_isSaying_126 : decode cX5_isSaying 126 = .ok (.goto 4, 3) := by decide +kernel
theorem dX5_isSaying_129 : decode cX5_isSaying 129 = .ok (.iconst 0, 1) := by decide +kernel
theorem dX5_isSaying_130 : decode cX5_isSaying 130 = .ok (.ireturn, 1) := by decide +kernel
theorem dX5_isSaying_131 : decode cX5_isSaying 131 = .ok (.iconst 0, 1) := by decide +kernel
theorem dX5_isSaying_132 : decode cX5_isSaying 132 = .ok (.ireturn, 1) := by decide +kernel
theorem dX5_isSaying_133 : decode cX5_isSaying 133 = .ok (.iload_n 3, 1) := by decide +kernel
theorem dX5_isSaying_134 : decode cX5_isSaying 134 = .ok (.ireturn, 1) := by decide +kernel
theorem dX5_adds_0 : decode cX5_adds 0 = .ok (.aload_n 0, 1) := by decide +kernel
theorem dX5_adds_1 : decode cX5_adds 1 = .ok (.getfield 7, 3) := by decide +kernel
theorem dX5_adds_4 : decode cX5_adds 4 = .ok (.iconst 1, 1) := by decide +kernel
theorem dX5_adds_5 : decode cX5_adds 5 = .ok (.iaload, 1) := by decide +kernel
theorem dX5_adds_6 : decode cX5_adds 6 = .ok (.istore_n 2, 1) := by decide +kernel
theorem dX5_adds_7 : decode cX5_adds 7 = .ok (.aload_n 0, 1) := by decide +kernel
theorem dX5_adds_8 : decode cX5_adds 8 = .ok (.getfield 7, 3) := by decide +kernel
theorem dX5_adds_11 : decode cX5_adds 11 = .ok (.iconst 1, 1) := by decide +kernel
theorem dX5_adds_12 : decode cX5_adds 12 = .ok (.dup2, 1) := by decide +kernel
theorem dX5_adds_13 : decode cX5_adds 13 = .ok (.iaload, 1) := by decide +kernel
theorem dX5_adds_14 : decode cX5_adds 14 = .ok (.iconst 1, 1) := by decide +kernel
theorem dX5_adds_15 : decode cX5_adds 15 = .ok (.iadd, 1) := by decide +kernel
theorem dX5_adds_16 : decode cX5_adds 16 = .ok (.iastore, 1) := by decide +kernel
theorem dX5_adds_17 : decode cX5_adds 17 = .ok (.aload_n 0, 1) := by decide +kernel
theorem dX5_adds_18 : decode cX5_adds 18 = .ok (.getfield 7, 3) := by decide +kernel
theorem dX5_adds_21 : decode cX5_adds 21 = .ok (.iload_n 2, 1) := by decide +kernel
theorem dX5_adds_22 : decode cX5_adds 22 = .ok (.iconst 0, 1) := by decide +kernel
theorem dX5_adds_23 : decode cX5_adds 23 = .ok (.invokestatic 42, 3) := by decide +kernel
theorem dX5_adds_26 : decode cX5_adds 26 = .ok (.iload_n 1, 1) := by decide +kernel
theorem dX5_adds_27 : decode cX5_adds 27 = .ok (.iastore, 1) := by decide +kernel
theorem dX5_adds_28 : decode cX5_adds 28 = .ok (.aload_n 0, 1) := by decide +kernel
theorem dX5_adds_29 : decode cX5_adds 29 = .ok (.getfield 7, 3) := by decide +kernel
theorem dX5_adds_32 : decode cX5_adds 32 = .ok (.iload_n 2, 1) := by decide +kernel
theorem dX5_adds_33 : decode cX5_adds 33 = .ok (.iconst 1, 1) := by decide +kernel
theorem dX5_adds_34 : decode cX5_adds 34 = .ok (.invokestatic 42, 3) := by decide +kernel
theorem dX5_adds_37 : decode cX5_adds 37 = .ok (.iconst 0, 1) := by decide +kernel
theorem dX5_adds_38 : decode cX5_adds 38 = .ok (.iastore, 1) := by decide +kernel
theorem dX5_adds_39 : decode cX5_adds 39 = .ok (.aload_n 0, 1) := by decide +kernel
theorem dX5_adds_40 : decode cX5_adds 40 = .ok (.getfield 7, 3) := by decide +kernel
theorem dX5_adds_43 : decode cX5_adds 43 = .ok (.iload_n 2, 1) := by decide +kernel
theorem dX5_adds_44 : decode cX5_adds 44 = .ok (.iconst 2, 1) := by decide +kernel
theorem dX5_adds_45 : decode cX5_adds 45 = .ok (.invokestatic 42, 3) := by decide +kernel
theorem dX5_adds_48 : decode cX5_adds 48 = .ok (.iconst 0, 1) := by decide +kernel
theorem dX5_adds_49 : decode cX5_adds 49 = .ok (.iastore, 1) := by decide +kernel
theorem dX5_adds_50 : decode cX5_adds 50 = .ok (.aload_n 0, 1) := by decide +kernel
theorem dX5_adds_51 : decode cX5_adds 51 = .ok (.getfield 7, 3) := by decide +kernel
theorem dX5_adds_54 : decode cX5_adds 54 = .ok (.iload_n 2, 1) := by decide +kernel
theorem dX5_adds_55 : decode cX5_adds 55 = .ok (.iconst 3, 1) := by decide +kernel
theorem dX5_adds_56 : decode cX5_adds 56 = .ok (.invokestatic 42, 3) := by decide +kernel
theorem dX5_adds_59 : decode cX5_adds 59 = .ok (.bipush 50, 2) := by decide +kernel
theorem dX5_adds_61 : decode cX5_adds 61 = .ok (.iastore, 1) := by decide +kernel
theorem dX5_adds_62 : decode cX5_adds 62 = .ok (.iload_n 2, 1) := by decide +kernel
theorem dX5_adds_63 : decode cX5_adds 63 = .ok (.ireturn, 1) := by decide +kernel
theorem dX5_walker_0 : decode cX5_walker 0 = .ok (.iload_n 1, 1) := by decide +kernel
theorem dX5_walker_1 : decode cX5_walker 1 = .ok (.invokestatic 107, 3) := by decide +kernel
theorem dX5_walker_4 : decode cX5_walker 4 = .ok (.ifCond .ne 10, 3) := by decide +kernel
theorem dX5_walker_7 : decode cX5_walker 7 = .ok (.aload_n 0, 1) := by decide +kernel
theorem dX5_walker_8 : decode cX5_walker 8 = .ok (.ldc 41, 2) := by decide +kernel
theorem dX5_walker_10 : decode cX5_walker 10 = .ok (.invokevirtual 66, 3) := by decide +kernel
theorem dX5_walker_13 : decode cX5_walker 13 = .ok (.ireturn, 1) := by decide +kernel
theorem dX5_walker_14 : decode cX5_walker 14 = .ok (.aload_n 0, 1) := by decide +kernel
theorem dX5_walker_15 : decode cX5_walker 15 = .ok (.getfield 7, 3) := by decide +kernel
theorem dX5_walker_18 : decode cX5_walker 18 = .ok (.iconst 1, 1) := by decide +kernel
theorem dX5_walker_19 : decode cX5_walker 19 = .ok (.iaload, 1) := by decide +kernel
theorem dX5_walker_20 : decode cX5_walker 20 = .ok (.bipush 8, 2) := by decide +kernel
theorem dX5_walker_22 : decode cX5_walker 22 = .ok (.if_icmp .ne 12, 3) := by decide +kernel
theorem dX5_walker_25 : decode cX5_walker 25 = .ok (.aload_n 0, 1) := by decide +kernel
theorem dX5_walker_26 : decode cX5_walker 26 = .ok (.ldc 110, 2) := by decide +kernel
theorem dX5_walker_28 : decode cX5_walker 28 = .ok (.invokevirtual 66, 3) := by decide +kernel
theorem dX5_walker_31 : decode cX5_walker 31 = .ok (.goto 8, 3) := by decide +kernel
theorem dX5_walker_34 : decode cX5_walker 34 = .ok (.aload_n 0, 1) := by decide +kernel
theorem dX5_walker_35 : decode cX5_walker 35 = .ok (.iload_n 1, 1) := by decide +kernel
theorem dX5_walker_36 : decode cX5_walker 36 = .ok (.invokevirtual 111, 3) := by decide +kernel
theorem dX5_walker_39 : decode cX5_walker 39 = .ok (.ireturn, 1) := by decide +kernel
theorem dX5_of_0 : decode cX5_of 0 = .ok (.aload_n 0, 1) := by decide +kernel
theorem dX5_of_1 : decode cX5_of 1 = .ok (.iload_n 1, 1) := by decide +kernel
theorem dX5_of_2 : decode cX5_of 2 = .ok (.invokevirtual 69, 3) := by decide +kernel
theorem dX5_of_5 : decode cX5_of 5 = .ok (.ifCond .ne 10, 3) := by decide +kernel
theorem dX5_of_8 : decode cX5_of 8 = .ok (.aload_n 0, 1) := by decide +kernel
theorem dX5_of_9 : decode cX5_of 9 = .ok (.ldc 41, 2) := by decide +kernel
theorem dX5_of_11 : decode cX5_of 11 = .ok (.invokevirtual 66, 3) := by decide +kernel
theorem dX5_of_14 : decode cX5_of 14 = .ok (.ireturn, 1) := by decide +kernel
theorem dX5_of_15 : decode cX5_of 15 = .ok (.iload_n 2, 1) := by decide +kernel
theorem dX5_of_16 : decode cX5_of 16 = .ok (.tableswitch 116 0 7 #[48, 55, 61, 68, 75, 82, 88, 102], 48) := by decide +kernel
theorem dX5_of_64 : decode cX5_of 64 = .ok (.aload_n 0, 1) := by decide +kernel
theorem dX5_of_65 : decode cX5_of 65 = .ok (.iload_n 1, 1) := by decide +kernel
theorem dX5_of_66 : decode cX5_of 66 = .ok (.iconst 0, 1) := by decide +kernel
theorem dX5_of_67 : decode cX5_of 67 = .ok (.invokevirtual 54, 3) := by decide +kernel
theorem dX5_of_70 : decode cX5_of 70 = .ok (.ireturn, 1) := by decide +kernel
theorem dX5_of_71 : decode cX5_of 71 = .ok (.aload_n 0, 1) := by decide +kernel
theorem dX5_of_72 : decode cX5_of 72 = .ok (.iload_n 1, 1) := by decide +kernel
theorem dX5_of_73 : decode cX5_of 73 = .ok (.invokevirtual 57, 3) := by decide +kernel
theorem dX5_of_76 : decode cX5_of 76 = .ok (.ireturn, 1) := by decide +kernel
theorem dX5_of_77 : decode cX5_of 77 = .ok (.aload_n 0, 1) := by decide +kernel
theorem dX5_of_78 : decode cX5_of 78 = .ok (.iload_n 1, 1) := by decide +kernel
theorem dX5_of_79 : decode cX5_of 79 = .ok (.iconst 1, 1) := by decide +kernel
theorem dX5_of_80 : decode cX5_of 80 = .ok (.invokevirtual 54, 3) := by decide +kernel
theorem dX5_of_83 : decode cX5_of 83 = .ok (.ireturn, 1) := by decide +kernel
theorem dX5_of_84 : decode cX5_of 84 = .ok (.aload_n 0, 1) := by decide +kernel
theorem dX5_of_85 : decode cX5_of 85 = .ok (.iload_n 1, 1) := by decide +kernel
theorem dX5_of_86 : decode cX5_of 86 = .ok (.iconst 2, 1) := by decide +kernel
theorem dX5_of_87 : decode cX5_of 87 = .ok (.invokevirtual 54, 3) := by decide +kernel
theorem dX5_of_90 : decode cX5_of 90 = .ok (.ireturn, 1) := by decide +kernel
theorem dX5_of_91 : decode cX5_of 91 = .ok (.aload_n 0, 1) := by decide +kernel
theorem dX5_of_92 : decode cX5_of 92 = .ok (.iload_n 1, 1) := by decide +kernel
theorem dX5_of_93 : decode cX5_of 93 = .ok (.iconst 3, 1) := by decide +kernel
theorem dX5_of_94 : decode cX5_of 94 = .ok (.invokevirtual 54, 3) := by decide +kernel
theorem dX5_of_97 : decode cX5_of 97 = .ok (.ireturn, 1) := by decide +kernel
theorem dX5_of_98 : decode cX5_of 98 = .ok (.aload_n 0, 1) := by decide +kernel
theorem dX5_of_99 : decode cX5_of 99 = .ok (.iload_n 1, 1) := by decide +kernel
theorem dX5_of_100 : decode cX5_of 100 = .ok (.invokevirtual 75, 3) := by decide +kernel
theorem dX5_of_103 : decode cX5_of 103 = .ok (.ireturn, 1) := by decide +kernel
theorem dX5_of_104 : decode cX5_of 104 = .ok (.aload_n 0, 1) := by decide +kernel
theorem dX5_of_105 : decode cX5_of 105 = .ok (.iload_n 1, 1) := by decide +kernel
theorem dX5_of_106 : decode cX5_of 106 = .ok (.invokevirtual 104, 3) := by decide +kernel
theorem dX5_of_109 : decode cX5_of 109 = .ok (.ifCond .eq 7, 3) := by decide +kernel
theorem dX5_of_112 : decode cX5_of 112 = .ok (.iconst 1, 1) := by decide +kernel
theorem dX5_of_113 : decode cX5_of 113 = .ok (.goto 4, 3) := by decide +kernel
theorem dX5_of_116 : decode cX5_of 116 = .ok (.iconst 0, 1) := by decide +kernel
theorem dX5_of_117 : decode cX5_of 117 = .ok (.ireturn, 1) := by decide +kernel
theorem dX5_of_118 : decode cX5_of 118 = .ok (.aload_n 0, 1) := by decide +kernel
theorem dX5_of_119 : decode cX5_of 119 = .ok (.iload_n 1, 1) := by decide +kernel
theorem dX5_of_120 : decode cX5_of 120 = .ok (.invokevirtual 114, 3) := by decide +kernel
theorem dX5_of_123 : decode cX5_of 123 = .ok (.ifCond .eq 7, 3) := by decide +kernel
theorem dX5_of_126 : decode cX5_of 126 = .ok (.iconst 1, 1) := by decide +kernel
theorem dX5_of_127 : decode cX5_of 127 = .ok (.goto 4, 3) := by decide +kernel
theorem dX5_of_130 : decode cX5_of 130 = .ok (.iconst 0, 1) := by decide +kernel
theorem dX5_of_131 : decode cX5_of 131 = .ok (.ireturn, 1) := by decide +kernel
theorem dX5_of_132 : decode cX5_of 132 = .ok (.aload_n 0, 1) := by decide +kernel
theorem dX5_of_133 : decode cX5_of 133 = .ok (.ldc 41, 2) := by decide +kernel
theorem dX5_of_135 : decode cX5_of 135 = .ok (.invokevirtual 66, 3) := by decide +kernel
theorem dX5_of_138 : decode cX5_of 138 = .ok (.ireturn, 1) := by decide +kernel
theorem dX5_set_0 : decode cX5_set 0 = .ok (.iload_n 2, 1) := by decide +kernel
theorem dX5_set_1 : decode cX5_set 1 = .ok (.i2l, 1) := by decide +kernel
theorem dX5_set_2 : decode cX5_set 2 = .ok (.ldc2_w 117, 3) := by decide +kernel
theorem dX5_set_5 : decode cX5_set 5 = .ok (.ldc2_w 119, 3) := by decide +kernel
theorem dX5_set_8 : decode cX5_set 8 = .ok (.invokestatic 46, 3) := by decide +kernel
theorem dX5_set_11 : decode cX5_set 11 = .ok (.ifCond .eq 39, 3) := by decide +kernel
theorem dX5_set_14 : decode cX5_set 14 = .ok (.iload_n 3, 1) := by decide +kernel
theorem dX5_set_15 : decode cX5_set 15 = .ok (.i2l, 1) := by decide +kernel
theorem dX5_set_16 : decode cX5_set 16 = .ok (.lconst 0, 1) := by decide +kernel
theorem dX5_set_17 : decode cX5_set 17 = .ok (.iload_n 2, 1) := by decide +kernel
theorem dX5_set_18 : decode cX5_set 18 = .ok (.iconst 2, 1) := by decide +kernel
theorem dX5_set_19 : decode cX5_set 19 = .ok (.if_icmp .ne 7, 3) := by decide +kernel
theorem dX5_set_22 : decode cX5_set 22 = .ok (.lconst 1, 1) := by decide +kernel
theorem dX5_set_23 : decode cX5_set 23 = .ok (.goto 17, 3) := by decide +kernel
theorem dX5_set_26 : decode cX5_set 26 = .ok (.iload_n 2, 1) := by decide +kernel
theorem dX5_set_27 : decode cX5_set 27 = .ok (.iconst 3, 1) := by decide +kernel
theorem dX5_set_28 : decode cX5_set 28 = .ok (.if_icmp .ne 9, 3) := by decide +kernel
theorem dX5_set_31 : decode cX5_set 31 = .ok (.ldc2_w 121, 3) := by decide +kernel
theorem dX5_set_34 : decode cX5_set 34 = .ok (.goto 6, 3) := by decide +kernel
theorem dX5_set_37 : decode cX5_set 37 = .ok (.ldc2_w 123, 3) := by decide +kernel
theorem dX5_set_40 : decode cX5_set 40 = .ok (.invokestatic 46, 3) := by decide +kernel
theorem dX5_set_43 : decode cX5_set 43 = .ok (.ifCond .eq 7, 3) := by decide +kernel
theorem dX5_set_46 : decode cX5_set 46 = .ok (.iconst 1, 1) := by decide +kernel
theorem dX5_set_47 : decode cX5_set 47 = .ok (.goto 4, 3) := by decide +kernel
theorem dX5_set_50 : decode cX5_set 50 = .ok (.iconst 0, 1) := by decide +kernel
theorem dX5_set_51 : decode cX5_set 51 = .ok (.istore 4, 2) := by decide +kernel
theorem dX5_set_53 : decode cX5_set 53 = .ok (.aload_n 0, 1) := by decide +kernel
theorem dX5_set_54 : decode cX5_set 54 = .ok (.iload_n 1, 1) := by decide +kernel
theorem dX5_set_55 : decode cX5_set 55 = .ok (.invokevirtual 69, 3) := by decide +kernel
theorem dX5_set_58 : decode cX5_set 58 = .ok (.ifCond .eq 23, 3) := by decide +kernel
theorem dX5_set_61 : decode cX5_set 61 = .ok (.iload 4, 2) := by decide +kernel
theorem dX5_set_63 : decode cX5_set 63 = .ok (.ifCond .eq 18, 3) := by decide +kernel
theorem dX5_set_66 : decode cX5_set 66 = .ok (.aload_n 0, 1) := by decide +kernel
theorem dX5_set_67 : decode cX5_set 67 = .ok (.iload_n 1, 1) := by decide +kernel
theorem dX5_set_68 : decode cX5_set 68 = .ok (.iload_n 2, 1) := by decide +kernel
theorem dX5_set_69 : decode cX5_set 69 = .ok (.iconst 1, 1) := by decide +kernel
theorem dX5_set_70 : decode cX5_set 70 = .ok (.isub, 1) := by decide +kernel
theorem dX5_set_71 : decode cX5_set 71 = .ok (.invokestatic 42, 3) := by decide +kernel
theorem dX5_set_74 : decode cX5_set 74 = .ok (.iload_n 3, 1) := by decide +kernel
theorem dX5_set_75 : decode cX5_set 75 = .ok (.invokevirtual 63, 3) := by decide +kernel
theorem dX5_set_78 : decode cX5_set 78 = .ok (.goto 9, 3) := by decide +kernel
theorem dX5_set_81 : decode cX5_set 81 = .ok (.aload_n 0, 1) := by decide +kernel
theorem dX5_set_82 : decode cX5_set 82 = .ok (.ldc 41, 2) := by decide +kernel
theorem dX5_set_84 : decode cX5_set 84 = .ok (.invokevirtual 66, 3) := by decide +kernel
theorem dX5_set_87 : decode cX5_set 87 = .ok (.ireturn, 1) := by decide +kernel
theorem dX5_swaps_0 : decode cX5_swaps 0 = .ok (.iconst 0, 1) := by decide +kernel
theorem dX5_swaps_1 : decode cX5_swaps 1 = .ok (.istore_n 3, 1) := by decide +kernel
theorem dX5_swaps_2 : decode cX5_swaps 2 = .ok (.iload_n 3, 1) := by decide +kernel
theorem dX5_swaps_3 : decode cX5_swaps 3 = .ok (.iconst 3, 1) := by decide +kernel
theorem dX5_swaps_4 : decode cX5_swaps 4 = .ok (.if_icmp .gt 38, 3) := by decide +kernel
theorem dX5_swaps_7 : decode cX5_swaps 7 = .ok (.aload_n 0, 1) := by decide +kernel
theorem dX5_swaps_8 : decode cX5_swaps 8 = .ok (.iload_n 1, 1) := by decide +kernel
theorem dX5_swaps_9 : decode cX5_swaps 9 = .ok (.iload_n 3, 1) := by decide +kernel
theorem dX5_swaps_10 : decode cX5_swaps 10 = .ok (.invokestatic 42, 3) := by decide +kernel
theorem dX5_swaps_13 : decode cX5_swaps 13 = .ok (.aload_n 0, 1) := by decide +kernel
theorem dX5_swaps_14 : decode cX5_swaps 14 = .ok (.iload_n 2, 1) := by decide +kernel
theorem dX5_swaps_15 : decode cX5_swaps 15 = .ok (.iload_n 3, 1) := by decide +kernel
theorem dX5_swaps_16 : decode cX5_swaps 16 = .ok (.invokevirtual 54, 3) := by decide +kernel
theorem dX5_swaps_19 : decode cX5_swaps 19 = .ok (.invokevirtual 63, 3) := by decide +kernel
theorem dX5_swaps_22 : decode cX5_swaps 22 = .ok (.istore 4, 2) := by decide +kernel
theorem dX5_swaps_24 : decode cX5_swaps 24 = .ok (.aload_n 0, 1) := by decide +kernel
theorem dX5_swaps_25 : decode cX5_swaps 25 = .ok (.getfield 7, 3) := by decide +kernel
theorem dX5_swaps_28 : decode cX5_swaps 28 = .ok (.iload_n 2, 1) := by decide +kernel
theorem dX5_swaps_29 : decode cX5_swaps 29 = .ok (.iload_n 3, 1) := by decide +kernel
theorem dX5_swaps_30 : decode cX5_swaps 30 = .ok (.invokestatic 42, 3) := by decide +kernel
theorem dX5_swaps_33 : decode cX5_swaps 33 = .ok (.iload 4, 2) := by decide +kernel
theorem dX5_swaps_35 : decode cX5_swaps 35 = .ok (.iastore, 1) := by decide +kernel
theorem dX5_swaps_36 : decode cX5_swaps 36 = .ok (.iinc 3 1, 3) := by decide +kernel
theorem dX5_swaps_39 : decode cX5_swaps 39 = .ok (.goto (-37), 3) := by decide +kernel
theorem dX5_swaps_42 : decode cX5_swaps 42 = .ok (.return_, 1) := by decide +kernel
theorem dX5_swap_0 : decode cX5_swap 0 = .ok (.aload_n 0, 1) := by decide +kernel
theorem dX5_swap_1 : decode cX5_swap 1 = .ok (.iload_n 1, 1) := by decide +kernel
theorem dX5_swap_2 : decode cX5_swap 2 = .ok (.invokevirtual 69, 3) := by decide +kernel
theorem dX5_swap_5 : decode cX5_swap 5 = .ok (.ifCond .eq 16, 3) := by decide +kernel
theorem dX5_swap_8 : decode cX5_swap 8 = .ok (.aload_n 0, 1) := by decide +kernel
theorem dX5_swap_9 : decode cX5_swap 9 = .ok (.iload_n 2, 1) := by decide +kernel
theorem dX5_swap_10 : decode cX5_swap 10 = .ok (.invokevirtual 69, 3) := by decide +kernel
theorem dX5_swap_13 : decode cX5_swap 13 = .ok (.ifCond .eq 8, 3) := by decide +kernel
theorem dX5_swap_16 : decode cX5_swap 16 = .ok (.iload_n 1, 1) := by decide +kernel
theorem dX5_swap_17 : decode cX5_swap 17 = .ok (.iload_n 2, 1) := by decide +kernel
theorem dX5_swap_18 : decode cX5_swap 18 = .ok (.if_icmp .ne 10, 3) := by decide +kernel
theorem dX5_swap_21 : decode cX5_swap 21 = .ok (.aload_n 0, 1) := by decide +kernel
theorem dX5_swap_22 : decode cX5_swap 22 = .ok (.ldc 41, 2) := by decide +kernel
theorem dX5_swap_24 : decode cX5_swap 24 = .ok (.invokevirtual 66, 3) := by decide +kernel
theorem dX5_swap_27 : decode cX5_swap 27 = .ok (.ireturn, 1) := by decide +kernel
theorem dX5_swap_28 : decode cX5_swap 28 = .ok (.aload_n 0, 1) := by decide +kernel
theorem dX5_swap_29 : decode cX5_swap 29 = .ok (.iload_n 1, 1) := by decide +kernel
theorem dX5_swap_30 : decode cX5_swap 30 = .ok (.iload_n 2, 1) := by decide +kernel
theorem dX5_swap_31 : decode cX5_swap 31 = .ok (.invokevirtual 125, 3) := by decide +kernel
theorem dX5_swap_34 : decode cX5_swap 34 = .ok (.iconst 1, 1) := by decide +kernel
theorem dX5_swap_35 : decode cX5_swap 35 = .ok (.ireturn, 1) := by decide +kernel
theorem dX5_turn_0 : decode cX5_turn 0 = .ok (.aload_n 0, 1) := by decide +kernel
theorem dX5_turn_1 : decode cX5_turn 1 = .ok (.iload_n 1, 1) := by decide +kernel
theorem dX5_turn_2 : decode cX5_turn 2 = .ok (.invokevirtual 69, 3) := by decide +kernel
theorem dX5_turn_5 : decode cX5_turn 5 = .ok (.ifCond .eq 23, 3) := by decide +kernel
theorem dX5_turn_8 : decode cX5_turn 8 = .ok (.iload_n 2, 1) := by decide +kernel
theorem dX5_turn_9 : decode cX5_turn 9 = .ok (.invokestatic 107, 3) := by decide +kernel
theorem dX5_turn_12 : decode cX5_turn 12 = .ok (.ifCond .eq 16, 3) := by decide +kernel
theorem dX5_turn_15 : decode cX5_turn 15 = .ok (.aload_n 0, 1) := by decide +kernel
theorem dX5_turn_16 : decode cX5_turn 16 = .ok (.iload_n 1, 1) := by decide +kernel
theorem dX5_turn_17 : decode cX5_turn 17 = .ok (.iconst 0, 1) := by decide +kernel
theorem dX5_turn_18 : decode cX5_turn 18 = .ok (.invokestatic 42, 3) := by decide +kernel
theorem dX5_turn_21 : decode cX5_turn 21 = .ok (.iload_n 2, 1) := by decide +kernel
theorem dX5_turn_22 : decode cX5_turn 22 = .ok (.invokevirtual 63, 3) := by decide +kernel
theorem dX5_turn_25 : decode cX5_turn 25 = .ok (.goto 9, 3) := by decide +kernel
theorem dX5_turn_28 : decode cX5_turn 28 = .ok (.aload_n 0, 1) := by decide +kernel
theorem dX5_turn_29 : decode cX5_turn 29 = .ok (.ldc 41, 2) := by decide +kernel
theorem dX5_turn_31 : decode cX5_turn 31 = .ok (.invokevirtual 66, 3) := by decide +kernel
theorem dX5_turn_34 : decode cX5_turn 34 = .ok (.ireturn, 1) := by decide +kernel
theorem dX5_isUnder_0 : decode cX5_isUnder 0 = .ok (.iload_n 1, 1) := by decide +kernel
theorem dX5_isUnder_1 : decode cX5_isUnder 1 = .ok (.ifCond .eq 28, 3) := by decide +kernel
theorem dX5_isUnder_4 : decode cX5_isUnder 4 = .ok (.iload_n 0, 1) := by decide +kernel
theorem dX5_isUnder_5 : decode cX5_isUnder 5 = .ok (.iload_n 1, 1) := by decide +kernel
theorem dX5_isUnder_6 : decode cX5_isUnder 6 = .ok (.if_icmp .eq 23, 3) := by decide +kernel
theorem dX5_isUnder_9 : decode cX5_isUnder 9 = .ok (.iload_n 0, 1) := by decide +kernel
theorem dX5_isUnder_10 : decode cX5_isUnder 10 = .ok (.iconst 4, 1) := by decide +kernel
theorem dX5_isUnder_11 : decode cX5_isUnder 11 = .ok (.if_icmp .ne 8, 3) := by decide +kernel
theorem dX5_isUnder_14 : decode cX5_isUnder 14 = .ok (.iload_n 1, 1) := by decide +kernel
theorem dX5_isUnder_15 : decode cX5_isUnder 15 = .ok (.iconst 1, 1) := by decide +kernel
theorem dX5_isUnder_16 : decode cX5_isUnder 16 = .ok (.if_icmp .eq 13, 3) := by decide +kernel
theorem dX5_isUnder_19 : decode cX5_isUnder 19 = .ok (.iload_n 0, 1) := by decide +kernel
theorem dX5_isUnder_20 : decode cX5_isUnder 20 = .ok (.iconst 5, 1) := by decide +kernel
theorem dX5_isUnder_21 : decode cX5_isUnder 21 = .ok (.if_icmp .ne 12, 3) := by decide +kernel
theorem dX5_isUnder_24 : decode cX5_isUnder 24 = .ok (.iload_n 1, 1) := by decide +kernel
theorem dX5_isUnder_25 : decode cX5_isUnder 25 = .ok (.iconst 2, 1) := by decide +kernel
theorem dX5_isUnder_26 : decode cX5_isUnder 26 = .ok (.if_icmp .ne 7, 3) := by decide +kernel
theorem dX5_isUnder_29 : decode cX5_isUnder 29 = .ok (.iconst 1, 1) := by decide +kernel
theorem dX5_isUnder_30 : decode cX5_isUnder 30 = .ok (.goto 4, 3) := by decide +kernel
theorem dX5_isUnder_33 : decode cX5_isUnder 33 = .ok (.iconst 0, 1) := by decide +kernel
theorem dX5_isUnder_34 : decode cX5_isUnder 34 = .ok (.ireturn, 1) := by decide +kernel
theorem dX5_as_0 : decode cX5_as 0 = .ok (.aload_n 0, 1) := by decide +kernel
theorem dX5_as_1 : decode cX5_as 1 = .ok (.iload_n 1, 1) := by decide +kernel
theorem dX5_as_2 : decode cX5_as 2 = .ok (.invokevirtual 69, 3) := by decide +kernel
theorem dX5_as_5 : decode cX5_as 5 = .ok (.ifCond .eq 10, 3) := by decide +kernel
theorem dX5_as_8 : decode cX5_as 8 = .ok (.iload_n 2, 1) := by decide +kernel
theorem dX5_as_9 : decode cX5_as 9 = .ok (.invokestatic 107, 3) := by decide +kernel
theorem dX5_as_12 : decode cX5_as 12 = .ok (.ifCond .ne 10, 3) := by decide +kernel
theorem dX5_as_15 : decode cX5_as 15 = .ok (.aload_n 0, 1) := by decide +kernel
theorem dX5_as_16 : decode cX5_as 16 = .ok (.ldc 41, 2) := by decide +kernel
theorem dX5_as_18 : decode cX5_as 18 = .ok (.invokevirtual 66, 3) := by decide +kernel
theorem dX5_as_21 : decode cX5_as 21 = .ok (.ireturn, 1) := by decide +kernel
theorem dX5_as_22 : decode cX5_as 22 = .ok (.aload_n 0, 1) := by decide +kernel
theorem dX5_as_23 : decode cX5_as 23 = .ok (.iload_n 1, 1) := by decide +kernel
theorem dX5_as_24 : decode cX5_as 24 = .ok (.iconst 0, 1) := by decide +kernel
theorem dX5_as_25 : decode cX5_as 25 = .ok (.invokevirtual 54, 3) := by decide +kernel
theorem dX5_as_28 : decode cX5_as 28 = .ok (.iload_n 2, 1) := by decide +kernel
theorem dX5_as_29 : decode cX5_as 29 = .ok (.invokestatic 129, 3) := by decide +kernel
theorem dX5_as_32 : decode cX5_as 32 = .ok (.ifCond .eq 12, 3) := by decide +kernel
theorem dX5_as_35 : decode cX5_as 35 = .ok (.aload_n 0, 1) := by decide +kernel
theorem dX5_as_36 : decode cX5_as 36 = .ok (.iload_n 1, 1) := by decide +kernel
theorem dX5_as_37 : decode cX5_as 37 = .ok (.iconst 3, 1) := by decide +kernel
theorem dX5_as_38 : decode cX5_as 38 = .ok (.invokevirtual 54, 3) := by decide +kernel
theorem dX5_as_41 : decode cX5_as 41 = .ok (.goto 9, 3) := by decide +kernel
theorem dX5_as_44 : decode cX5_as 44 = .ok (.aload_n 0, 1) := by decide +kernel
theorem dX5_as_45 : decode cX5_as 45 = .ok (.ldc 133, 2) := by decide +kernel
theorem dX5_as_47 : decode cX5_as 47 = .ok (.invokevirtual 66, 3) := by decide +kernel
theorem dX5_as_50 : decode cX5_as 50 = .ok (.ireturn, 1) := by decide +kernel
theorem dX5_treads_0 : decode cX5_treads 0 = .ok (.aload_n 0, 1) := by decide +kernel
theorem dX5_treads_1 : decode cX5_treads 1 = .ok (.iload_n 1, 1) := by decide +kernel
theorem dX5_treads_2 : decode cX5_treads 2 = .ok (.iconst 1, 1) := by decide +kernel
theorem dX5_treads_3 : decode cX5_treads 3 = .ok (.invokevirtual 54, 3) := by decide +kernel
theorem dX5_treads_6 : decode cX5_treads 6 = .ok (.iconst 1, 1) := by decide +kernel
theorem dX5_treads_7 : decode cX5_treads 7 = .ok (.if_icmp .ne 15, 3) := by decide +kernel
theorem dX5_treads_10 : decode cX5_treads 10 = .ok (.aload_n 0, 1) := by decide +kernel
theorem dX5_treads_11 : decode cX5_treads 11 = .ok (.iload_n 1, 1) := by decide +kernel
theorem dX5_treads_12 : decode cX5_treads 12 = .ok (.invokevirtual 114, 3) := by decide +kernel
theorem dX5_treads_15 : decode cX5_treads 15 = .ok (.ifCond .eq 7, 3) := by decide +kernel
theorem dX5_treads_18 : decode cX5_treads 18 = .ok (.iconst 1, 1) := by decide +kernel
theorem dX5_treads_19 : decode cX5_treads 19 = .ok (.goto 4, 3) := by decide +kernel
theorem dX5_treads_22 : decode cX5_treads 22 = .ok (.iconst 0, 1) := by decide +kernel
theorem dX5_treads_23 : decode cX5_treads 23 = .ok (.istore_n 2, 1) := by decide +kernel
theorem dX5_treads_24 : decode cX5_treads 24 = .ok (.aload_n 0, 1) := by decide +kernel
theorem dX5_treads_25 : decode cX5_treads 25 = .ok (.iload_n 1, 1) := by decide +kernel
theorem dX5_treads_26 : decode cX5_treads 26 = .ok (.invokevirtual 84, 3) := by decide +kernel
theorem dX5_treads_29 : decode cX5_treads 29 = .ok (.ifCond .eq 19, 3) := by decide +kernel
theorem dX5_treads_32 : decode cX5_treads 32 = .ok (.aload_n 0, 1) := by decide +kernel
theorem dX5_treads_33 : decode cX5_treads 33 = .ok (.iload_n 1, 1) := by decide +kernel
theorem dX5_treads_34 : decode cX5_treads 34 = .ok (.invokevirtual 104, 3) := by decide +kernel
theorem dX5_treads_37 : decode cX5_treads 37 = .ok (.ifCond .ne 11, 3) := by decide +kernel
theorem dX5_treads_40 : decode cX5_treads 40 = .ok (.iload_n 2, 1) := by decide +kernel
theorem dX5_treads_41 : decode cX5_treads 41 = .ok (.ifCond .ne 7, 3) := by decide +kernel
theorem dX5_treads_44 : decode cX5_treads 44 = .ok (.iconst 1, 1) := by decide +kernel
theorem dX5_treads_45 : decode cX5_treads 45 = .ok (.goto 4, 3) := by decide +kernel
theorem dX5_treads_48 : decode cX5_treads 48 = .ok (.iconst 0, 1) := by decide +kernel
theorem dX5_treads_49 : decode cX5_treads 49 = .ok (.istore_n 3, 1) := by decide +kernel
theorem dX5_treads_50 : decode cX5_treads 50 = .ok (.aload_n 0, 1) := by decide +kernel
theorem dX5_treads_51 : decode cX5_treads 51 = .ok (.iload_n 1, 1) := by decide +kernel
theorem dX5_treads_52 : decode cX5_treads 52 = .ok (.iconst 3, 1) := by decide +kernel
theorem dX5_treads_53 : decode cX5_treads 53 = .ok (.invokevirtual 54, 3) := by decide +kernel
theorem dX5_treads_56 : decode cX5_treads 56 = .ok (.iload_n 3, 1) := by decide +kernel
theorem dX5_treads_57 : decode cX5_treads 57 = .ok (.ifCond .eq 8, 3) := by decide +kernel
theorem dX5_treads_60 : decode cX5_treads 60 = .ok (.bipush (-10), 2) := by decide +kernel
theorem dX5_treads_62 : decode cX5_treads 62 = .ok (.goto 4, 3) := by decide +kernel
theorem dX5_treads_65 : decode cX5_treads 65 = .ok (.iconst 1, 1) := by decide +kernel
theorem dX5_treads_66 : decode cX5_treads 66 = .ok (.iadd, 1) := by decide +kernel
theorem dX5_treads_67 : decode cX5_treads 67 = .ok (.istore 4, 2) := by decide +kernel
theorem dX5_treads_69 : decode cX5_treads 69 = .ok (.aload_n 0, 1) := by decide +kernel
theorem dX5_treads_70 : decode cX5_treads 70 = .ok (.getfield 7, 3) := by decide +kernel
theorem dX5_treads_73 : decode cX5_treads 73 = .ok (.iload_n 1, 1) := by decide +kernel
theorem dX5_treads_74 : decode cX5_treads 74 = .ok (.iconst 3, 1) := by decide +kernel
theorem dX5_treads_75 : decode cX5_treads 75 = .ok (.invokestatic 42, 3) := by decide +kernel
theorem dX5_treads_78 : decode cX5_treads 78 = .ok (.iload 4, 2) := by decide +kernel
theorem dX5_treads_80 : decode cX5_treads 80 = .ok (.ifCond .ge 7, 3) := by decide +kernel
theorem dX5_treads_83 : decode cX5_treads 83 = .ok (.iconst 0, 1) := by decide +kernel
theorem dX5_treads_84 : decode cX5_treads 84 = .ok (.goto 17, 3) := by decide +kernel
theorem dX5_treads_87 : decode cX5_treads 87 = .ok (.iload 4, 2) := by decide +kernel
theorem dX5_treads_89 : decode cX5_treads 89 = .ok (.bipush 99, 2) := by decide +kernel
theorem dX5_treads_91 : decode cX5_treads 91 = .ok (.if_icmp .le 8, 3) := by decide +kernel
theorem dX5_treads_94 : decode cX5_treads 94 = .ok (.bipush 99, 2) := by decide +kernel
theorem dX5_treads_96 : decode cX5_treads 96 = .ok (.goto 5, 3) := by decide +kernel
theorem dX5_treads_99 : decode cX5_treads 99 = .ok (.iload 4, 2) := by decide +kernel
theorem dX5_treads_101 : decode cX5_treads 101 = .ok (.iastore, 1) := by decide +kernel
theorem dX5_treads_102 : decode cX5_treads 102 = .ok (.aload_n 0, 1) := by decide +kernel
theorem dX5_treads_103 : decode cX5_treads 103 = .ok (.getfield 7, 3) := by decide +kernel
theorem dX5_treads_106 : decode cX5_treads 106 = .ok (.iload_n 1, 1) := by decide +kernel
theorem dX5_treads_107 : decode cX5_treads 107 = .ok (.iconst 2, 1) := by decide +kernel
theorem dX5_treads_108 : decode cX5_treads 108 = .ok (.invokestatic 42, 3) := by decide +kernel
theorem dX5_treads_111 : decode cX5_treads 111 = .ok (.dup2, 1) := by decide +kernel
theorem dX5_treads_112 : decode cX5_treads 112 = .ok (.iaload, 1) := by decide +kernel
theorem dX5_treads_113 : decode cX5_treads 113 = .ok (.iload_n 3, 1) := by decide +kernel
theorem dX5_treads_114 : decode cX5_treads 114 = .ok (.ifCond .eq 19, 3) := by decide +kernel
theorem dX5_treads_117 : decode cX5_treads 117 = .ok (.aload_n 0, 1) := by decide +kernel
theorem dX5_treads_118 : decode cX5_treads 118 = .ok (.iload_n 1, 1) := by decide +kernel
theorem dX5_treads_119 : decode cX5_treads 119 = .ok (.iconst 2, 1) := by decide +kernel
theorem dX5_treads_120 : decode cX5_treads 120 = .ok (.invokevirtual 54, 3) := by decide +kernel
theorem dX5_treads_123 : decode cX5_treads 123 = .ok (.sipush 9999, 3) := by decide +kernel
theorem dX5_treads_126 : decode cX5_treads 126 = .ok (.if_icmp .ge 7, 3) := by decide +kernel
theorem dX5_treads_129 : decode cX5_treads 129 = .ok (.iconst 1, 1) := by decide +kernel
theorem dX5_treads_130 : decode cX5_treads 130 = .ok (.goto 4, 3) := by decide +kernel
theorem dX5_treads_133 : decode cX5_treads 133 = .ok (.iconst 0, 1) := by decide +kernel
theorem dX5_treads_134 : decode cX5_treads 134 = .ok (.iadd, 1) := by decide +kernel
theorem dX5_treads_135 : decode cX5_treads 135 = .ok (.iastore, 1) := by decide +kernel
theorem dX5_treads_136 : decode cX5_treads 136 = .ok (.aload_n 0, 1) := by decide +kernel
theorem dX5_treads_137 : decode cX5_treads 137 = .ok (.dup, 1) := by decide +kernel
theorem dX5_treads_138 : decode cX5_treads 138 = .ok (.getfield 100, 3) := by decide +kernel
theorem dX5_treads_141 : decode cX5_treads 141 = .ok (.iload_n 3, 1) := by decide +kernel
theorem dX5_treads_142 : decode cX5_treads 142 = .ok (.ifCond .eq 9, 3) := by decide +kernel
theorem dX5_treads_145 : decode cX5_treads 145 = .ok (.iconst 1, 1) := by decide +kernel
theorem dX5_treads_146 : decode cX5_treads 146 = .ok (.iload_n 1, 1) := by decide +kernel
theorem dX5_treads_147 : decode cX5_treads 147 = .ok (.ishl, 1) := by decide +kernel
theorem dX5_treads_148 : decode cX5_treads 148 = .ok (.goto 4, 3) := by decide +kernel
theorem dX5_treads_151 : decode cX5_treads 151 = .ok (.iconst 0, 1) := by decide +kernel
theorem dX5_treads_152 : decode cX5_treads 152 = .ok (.ior, 1) := by decide +kernel
theorem dX5_treads_153 : decode cX5_treads 153 = .ok (.putfield 100, 3) := by decide +kernel
theorem dX5_treads_156 : decode cX5_treads 156 = .ok (.return_, 1) := by decide +kernel
theorem dX5_step_0 : decode cX5_step 0 = .ok (.aload_n 0, 1) := by decide +kernel
theorem dX5_step_1 : decode cX5_step 1 = .ok (.getfield 7, 3) := by decide +kernel
theorem dX5_step_4 : decode cX5_step 4 = .ok (.iconst 0, 1) := by decide +kernel
theorem dX5_step_5 : decode cX5_step 5 = .ok (.dup2, 1) := by decide +kernel
theorem dX5_step_6 : decode cX5_step 6 = .ok (.iaload, 1) := by decide +kernel
theorem dX5_step_7 : decode cX5_step 7 = .ok (.iconst 1, 1) := by decide +kernel
theorem dX5_step_8 : decode cX5_step 8 = .ok (.iadd, 1) := by decide +kernel
theorem dX5_step_9 : decode cX5_step 9 = .ok (.iastore, 1) := by decide +kernel
theorem dX5_step_10 : decode cX5_step 10 = .ok (.aload_n 0, 1) := by decide +kernel
theorem dX5_step_11 : decode cX5_step 11 = .ok (.iconst 0, 1) := by decide +kernel
theorem dX5_step_12 : decode cX5_step 12 = .ok (.putfield 100, 3) := by decide +kernel
theorem dX5_step_15 : decode cX5_step 15 = .ok (.iconst 0, 1) := by decide +kernel
theorem dX5_step_16 : decode cX5_step 16 = .ok (.istore_n 1, 1) := by decide +kernel
theorem dX5_step_17 : decode cX5_step 17 = .ok (.iload_n 1, 1) := by decide +kernel
theorem dX5_step_18 : decode cX5_step 18 = .ok (.aload_n 0, 1) := by decide +kernel
theorem dX5_step_19 : decode cX5_step 19 = .ok (.getfield 7, 3) := by decide +kernel
theorem dX5_step_22 : decode cX5_step 22 = .ok (.iconst 1, 1) := by decide +kernel
theorem dX5_step_23 : decode cX5_step 23 = .ok (.iaload, 1) := by decide +kernel
theorem dX5_step_24 : decode cX5_step 24 = .ok (.if_icmp .ge 14, 3) := by decide +kernel
theorem dX5_step_27 : decode cX5_step 27 = .ok (.aload_n 0, 1) := by decide +kernel
theorem dX5_step_28 : decode cX5_step 28 = .ok (.iload_n 1, 1) := by decide +kernel
theorem dX5_step_29 : decode cX5_step 29 = .ok (.invokevirtual 134, 3) := by decide +kernel
theorem dX5_step_32 : decode cX5_step 32 = .ok (.iinc 1 1, 3) := by decide +kernel
theorem dX5_step_35 : decode cX5_step 35 = .ok (.goto (-18), 3) := by decide +kernel
theorem dX5_step_38 : decode cX5_step 38 = .ok (.iconst 0, 1) := by decide +kernel
theorem dX5_step_39 : decode cX5_step 39 = .ok (.istore_n 1, 1) := by decide +kernel
theorem dX5_step_40 : decode cX5_step 40 = .ok (.iconst 0, 1) := by decide +kernel
theorem dX5_step_41 : decode cX5_step 41 = .ok (.istore_n 2, 1) := by decide +kernel
theorem dX5_step_42 : decode cX5_step 42 = .ok (.iload_n 2, 1) := by decide +kernel
theorem dX5_step_43 : decode cX5_step 43 = .ok (.aload_n 0, 1) := by decide +kernel
theorem dX5_step_44 : decode cX5_step 44 = .ok (.getfield 7, 3) := by decide +kernel
theorem dX5_step_47 : decode cX5_step 47 = .ok (.iconst 1, 1) := by decide +kernel
theorem dX5_step_48 : decode cX5_step 48 = .ok (.iaload, 1) := by decide +kernel
theorem dX5_step_49 : decode cX5_step 49 = .ok (.if_icmp .ge 27, 3) := by decide +kernel
theorem dX5_step_52 : decode cX5_step 52 = .ok (.iload_n 1, 1) := by decide +kernel
theorem dX5_step_53 : decode cX5_step 53 = .ok (.aload_n 0, 1) := by decide +kernel
theorem dX5_step_54 : decode cX5_step 54 = .ok (.iload_n 2, 1) := by decide +kernel
theorem dX5_step_55 : decode cX5_step 55 = .ok (.invokevirtual 138, 3) := by decide +kernel
theorem dX5_step_58 : decode cX5_step 58 = .ok (.ifCond .eq 9, 3) := by decide +kernel
theorem dX5_step_61 : decode cX5_step 61 = .ok (.iconst 2, 1) := by decide +kernel
theorem dX5_step_62 : decode cX5_step 62 = .ok (.iload_n 2, 1) := by decide +kernel
theorem dX5_step_63 : decode cX5_step 63 = .ok (.ishl, 1) := by decide +kernel
theorem dX5_step_64 : decode cX5_step 64 = .ok (.goto 4, 3) := by decide +kernel
theorem dX5_step_67 : decode cX5_step 67 = .ok (.iconst 0, 1) := by decide +kernel
theorem dX5_step_68 : decode cX5_step 68 = .ok (.ior, 1) := by decide +kernel
theorem dX5_step_69 : decode cX5_step 69 = .ok (.istore_n 1, 1) := by decide +kernel
theorem dX5_step_70 : decode cX5_step 70 = .ok (.iinc 2 1, 3) := by decide +kernel
theorem dX5_step_73 : decode cX5_step 73 = .ok (.goto (-31), 3) := by decide +kernel
theorem dX5_step_76 : decode cX5_step 76 = .ok (.iconst 0, 1) := by decide +kernel
theorem dX5_step_77 : decode cX5_step 77 = .ok (.istore_n 2, 1) := by decide +kernel
theorem dX5_step_78 : decode cX5_step 78 = .ok (.iload_n 2, 1) := by decide +kernel
theorem dX5_step_79 : decode cX5_step 79 = .ok (.aload_n 0, 1) := by decide +kernel
theorem dX5_step_80 : decode cX5_step 80 = .ok (.getfield 7, 3) := by decide +kernel
theorem dX5_step_83 : decode cX5_step 83 = .ok (.iconst 1, 1) := by decide +kernel
theorem dX5_step_84 : decode cX5_step 84 = .ok (.iaload, 1) := by decide +kernel
theorem dX5_step_85 : decode cX5_step 85 = .ok (.if_icmp .ge 24, 3) := by decide +kernel
theorem dX5_step_88 : decode cX5_step 88 = .ok (.aload_n 0, 1) := by decide +kernel
theorem dX5_step_89 : decode cX5_step 89 = .ok (.getfield 7, 3) := by decide +kernel
theorem dX5_step_92 : decode cX5_step 92 = .ok (.iload_n 2, 1) := by decide +kernel
theorem dX5_step_93 : decode cX5_step 93 = .ok (.iconst 1, 1) := by decide +kernel
theorem dX5_step_94 : decode cX5_step 94 = .ok (.invokestatic 42, 3) := by decide +kernel
theorem dX5_step_97 : decode cX5_step 97 = .ok (.iload_n 1, 1) := by decide +kernel
theorem dX5_step_98 : decode cX5_step 98 = .ok (.iload_n 2, 1) := by decide +kernel
theorem dX5_step_99 : decode cX5_step 99 = .ok (.ishr, 1) := by decide +kernel
theorem dX5_step_100 : decode cX5_step 100 = .ok (.iconst 1, 1) := by decide +kernel
theorem dX5_step_101 : decode cX5_step 101 = .ok (.iand, 1) := by decide +kernel
theorem dX5_step_102 : decode cX5_step 102 = .ok (.iastore, 1) := by decide +kernel
theorem dX5_step_103 : decode cX5_step 103 = .ok (.iinc 2 1, 3) := by decide +kernel
theorem dX5_step_106 : decode cX5_step 106 = .ok (.goto (-28), 3) := by decide +kernel
theorem dX5_step_109 : decode cX5_step 109 = .ok (.return_, 1) := by decide +kernel
theorem dX5_stepsGo_0 : decode cX5_stepsGo 0 = .ok (.iconst 0, 1) := by decide +kernel
theorem dX5_stepsGo_1 : decode cX5_stepsGo 1 = .ok (.istore_n 2, 1) := by decide +kernel
theorem dX5_stepsGo_2 : decode cX5_stepsGo 2 = .ok (.iload_n 2, 1) := by decide +kernel
theorem dX5_stepsGo_3 : decode cX5_stepsGo 3 = .ok (.iload_n 1, 1) := by decide +kernel
theorem dX5_stepsGo_4 : decode cX5_stepsGo 4 = .ok (.if_icmp .ge 13, 3) := by decide +kernel
theorem dX5_stepsGo_7 : decode cX5_stepsGo 7 = .ok (.aload_n 0, 1) := by decide +kernel
theorem dX5_stepsGo_8 : decode cX5_stepsGo 8 = .ok (.invokevirtual 141, 3) := by decide +kernel
theorem dX5_stepsGo_11 : decode cX5_stepsGo 11 = .ok (.iinc 2 1, 3) := by decide +kernel
theorem dX5_stepsGo_14 : decode cX5_stepsGo 14 = .ok (.goto (-12), 3) := by decide +kernel
theorem dX5_stepsGo_17 : decode cX5_stepsGo 17 = .ok (.return_, 1) := by decide +kernel
theorem dX5_steps_0 : decode cX5_steps 0 = .ok (.iload_n 1, 1) := by decide +kernel
theorem dX5_steps_1 : decode cX5_steps 1 = .ok (.i2l, 1) := by decide +kernel
theorem dX5_steps_2 : decode cX5_steps 2 = .ok (.lconst 1, 1) := by decide +kernel
theorem dX5_steps_3 : decode cX5_steps 3 = .ok (.ldc2_w 144, 3) := by decide +kernel
theorem dX5_steps_6 : decode cX5_steps 6 = .ok (.invokestatic 46, 3) := by decide +kernel
theorem dX5_steps_9 : decode cX5_steps 9 = .ok (.ifCond .ne 10, 3) := by decide +kernel
theorem dX5_steps_12 : decode cX5_steps 12 = .ok (.aload_n 0, 1) := by decide +kernel
theorem dX5_steps_13 : decode cX5_steps 13 = .ok (.ldc 41, 2) := by decide +kernel
theorem dX5_steps_15 : decode cX5_steps 15 = .ok (.invokevirtual 66, 3) := by decide +kernel
theorem dX5_steps_18 : decode cX5_steps 18 = .ok (.ireturn, 1) := by decide +kernel
theorem dX5_steps_19 : decode cX5_steps 19 = .ok (.aload_n 0, 1) := by decide +kernel
theorem dX5_steps_20 : decode cX5_steps 20 = .ok (.getfield 7, 3) := by decide +kernel
theorem dX5_steps_23 : decode cX5_steps 23 = .ok (.iconst 0, 1) := by decide +kernel
theorem dX5_steps_24 : decode cX5_steps 24 = .ok (.iaload, 1) := by decide +kernel
theorem dX5_steps_25 : decode cX5_steps 25 = .ok (.iload_n 1, 1) := by decide +kernel
theorem dX5_steps_26 : decode cX5_steps 26 = .ok (.iadd, 1) := by decide +kernel
theorem dX5_steps_27 : decode cX5_steps 27 = .ok (.ldc 146, 2) := by decide +kernel
theorem dX5_steps_29 : decode cX5_steps 29 = .ok (.if_icmp .le 10, 3) := by decide +kernel
theorem dX5_steps_32 : decode cX5_steps 32 = .ok (.aload_n 0, 1) := by decide +kernel
theorem dX5_steps_33 : decode cX5_steps 33 = .ok (.ldc 147, 2) := by decide +kernel
theorem dX5_steps_35 : decode cX5_steps 35 = .ok (.invokevirtual 66, 3) := by decide +kernel
theorem dX5_steps_38 : decode cX5_steps 38 = .ok (.ireturn, 1) := by decide +kernel
theorem dX5_steps_39 : decode cX5_steps 39 = .ok (.aload_n 0, 1) := by decide +kernel
theorem dX5_steps_40 : decode cX5_steps 40 = .ok (.iload_n 1, 1) := by decide +kernel
theorem dX5_steps_41 : decode cX5_steps 41 = .ok (.invokevirtual 148, 3) := by decide +kernel
theorem dX5_steps_44 : decode cX5_steps 44 = .ok (.aload_n 0, 1) := by decide +kernel
theorem dX5_steps_45 : decode cX5_steps 45 = .ok (.iconst 2, 1) := by decide +kernel
theorem dX5_steps_46 : decode cX5_steps 46 = .ok (.invokevirtual 97, 3) := by decide +kernel
theorem dX5_steps_49 : decode cX5_steps 49 = .ok (.ireturn, 1) := by decide +kernel
theorem dX5_isAhead_0 : decode cX5_isAhead 0 = .ok (.iload_n 0, 1) := by decide +kernel
theorem dX5_isAhead_1 : decode cX5_isAhead 1 = .ok (.i2l, 1) := by decide +kernel
theorem dX5_isAhead_2 : decode cX5_isAhead 2 = .ok (.lconst 0, 1) := by decide +kernel
theorem dX5_isAhead_3 : decode cX5_isAhead 3 = .ok (.ldc2_w 151, 3) := by decide +kernel
theorem dX5_isAhead_6 : decode cX5_isAhead 6 = .ok (.invokestatic 46, 3) := by decide +kernel
theorem dX5_isAhead_9 : decode cX5_isAhead 9 = .ok (.ireturn, 1) := by decide +kernel
theorem dX5_behind_0 : decode cX5_behind 0 = .ok (.aload_n 0, 1) := by decide +kernel
theorem dX5_behind_1 : decode cX5_behind 1 = .ok (.invokevirtual 153, 3) := by decide +kernel
theorem dX5_behind_4 : decode cX5_behind 4 = .ok (.aload_n 0, 1) := by decide +kernel
theorem dX5_behind_5 : decode cX5_behind 5 = .ok (.iload_n 2, 1) := by decide +kernel
theorem dX5_behind_6 : decode cX5_behind 6 = .ok (.invokevirtual 148, 3) := by decide +kernel
theorem dX5_behind_9 : decode cX5_behind 9 = .ok (.aload_n 0, 1) := by decide +kernel
theorem dX5_behind_10 : decode cX5_behind 10 = .ok (.iload_n 1, 1) := by decide +kernel
theorem dX5_behind_11 : decode cX5_behind 11 = .ok (.iconst (-1), 1) := by decide +kernel
theorem dX5_behind_12 : decode cX5_behind 12 = .ok (.if_icmp .ne 11, 3) := by decide +kernel
theorem dX5_behind_15 : decode cX5_behind 15 = .ok (.aload_n 0, 1) := by decide +kernel
theorem dX5_behind_16 : decode cX5_behind 16 = .ok (.iconst 2, 1) := by decide +kernel
theorem dX5_behind_17 : decode cX5_behind 17 = .ok (.invokevirtual 97, 3) := by decide +kernel
theorem dX5_behind_20 : decode cX5_behind 20 = .ok (.goto 9, 3) := by decide +kernel
theorem dX5_behind_23 : decode cX5_behind 23 = .ok (.aload_n 0, 1) := by decide +kernel
theorem dX5_behind_24 : decode cX5_behind 24 = .ok (.getfield 7, 3) := by decide +kernel
theorem dX5_behind_27 : decode cX5_behind 27 = .ok (.iload_n 1, 1) := by decide +kernel
theorem dX5_behind_28 : decode cX5_behind 28 = .ok (.iaload, 1) := by decide +kernel
theorem dX5_behind_29 : decode cX5_behind 29 = .ok (.invokevirtual 156, 3) := by decide +kernel
theorem dX5_behind_32 : decode cX5_behind 32 = .ok (.ireturn, 1) := by decide +kernel
theorem dX5_on_0 : decode cX5_on 0 = .ok (.aload_n 0, 1) := by decide +kernel
theorem dX5_on_1 : decode cX5_on 1 = .ok (.iload_n 1, 1) := by decide +kernel
theorem dX5_on_2 : decode cX5_on 2 = .ok (.invokevirtual 69, 3) := by decide +kernel
theorem dX5_on_5 : decode cX5_on 5 = .ok (.ifCond .eq 22, 3) := by decide +kernel
theorem dX5_on_8 : decode cX5_on 8 = .ok (.iload_n 2, 1) := by decide +kernel
theorem dX5_on_9 : decode cX5_on 9 = .ok (.invokestatic 159, 3) := by decide +kernel
theorem dX5_on_12 : decode cX5_on 12 = .ok (.ifCond .eq 15, 3) := by decide +kernel
theorem dX5_on_15 : decode cX5_on 15 = .ok (.iload_n 3, 1) := by decide +kernel
theorem dX5_on_16 : decode cX5_on 16 = .ok (.i2l, 1) := by decide +kernel
theorem dX5_on_17 : decode cX5_on 17 = .ok (.lconst 0, 1) := by decide +kernel
theorem dX5_on_18 : decode cX5_on 18 = .ok (.ldc2_w 117, 3) := by decide +kernel
theorem dX5_on_21 : decode cX5_on 21 = .ok (.invokestatic 46, 3) := by decide +kernel
theorem dX5_on_24 : decode cX5_on 24 = .ok (.ifCond .ne 10, 3) := by decide +kernel
theorem dX5_on_27 : decode cX5_on 27 = .ok (.aload_n 0, 1) := by decide +kernel
theorem dX5_on_28 : decode cX5_on 28 = .ok (.ldc 41, 2) := by decide +kernel
theorem dX5_on_30 : decode cX5_on 30 = .ok (.invokevirtual 66, 3) := by decide +kernel
theorem dX5_on_33 : decode cX5_on 33 = .ok (.ireturn, 1) := by decide +kernel
theorem dX5_on_34 : decode cX5_on 34 = .ok (.aload_n 0, 1) := by decide +kernel
theorem dX5_on_35 : decode cX5_on 35 = .ok (.iload_n 1, 1) := by decide +kernel
theorem dX5_on_36 : decode cX5_on 36 = .ok (.iload_n 3, 1) := by decide +kernel
theorem dX5_on_37 : decode cX5_on 37 = .ok (.iconst 1, 1) := by decide +kernel
theorem dX5_on_38 : decode cX5_on 38 = .ok (.iadd, 1) := by decide +kernel
theorem dX5_on_39 : decode cX5_on 39 = .ok (.invokestatic 42, 3) := by decide +kernel
theorem dX5_on_42 : decode cX5_on 42 = .ok (.iload_n 2, 1) := by decide +kernel
theorem dX5_on_43 : decode cX5_on 43 = .ok (.invokevirtual 162, 3) := by decide +kernel
theorem dX5_on_46 : decode cX5_on 46 = .ok (.ireturn, 1) := by decide +kernel
theorem dX5_falls_0 : decode cX5_falls 0 = .ok (.iload_n 1, 1) := by decide +kernel
theorem dX5_falls_1 : decode cX5_falls 1 = .ok (.invokestatic 159, 3) := by decide +kernel
theorem dX5_falls_4 : decode cX5_falls 4 = .ok (.ifCond .eq 12, 3) := by decide +kernel
theorem dX5_falls_7 : decode cX5_falls 7 = .ok (.aload_n 0, 1) := by decide +kernel
theorem dX5_falls_8 : decode cX5_falls 8 = .ok (.iconst (-1), 1) := by decide +kernel
theorem dX5_falls_9 : decode cX5_falls 9 = .ok (.iload_n 1, 1) := by decide +kernel
theorem dX5_falls_10 : decode cX5_falls 10 = .ok (.invokevirtual 162, 3) := by decide +kernel
theorem dX5_falls_13 : decode cX5_falls 13 = .ok (.goto 9, 3) := by decide +kernel
theorem dX5_falls_16 : decode cX5_falls 16 = .ok (.aload_n 0, 1) := by decide +kernel
theorem dX5_falls_17 : decode cX5_falls 17 = .ok (.ldc 41, 2) := by decide +kernel
theorem dX5_falls_19 : decode cX5_falls 19 = .ok (.invokevirtual 66, 3) := by decide +kernel
theorem dX5_falls_22 : decode cX5_falls 22 = .ok (.ireturn, 1) := by decide +kernel
theorem dX5_toldAt_0 : decode cX5_toldAt 0 = .ok (.aload_n 0, 1) := by decide +kernel
theorem dX5_toldAt_1 : decode cX5_toldAt 1 = .ok (.iload_n 1, 1) := by decide +kernel
theorem dX5_toldAt_2 : decode cX5_toldAt 2 = .ok (.invokevirtual 156, 3) := by decide +kernel
theorem dX5_toldAt_5 : decode cX5_toldAt 5 = .ok (.istore_n 2, 1) := by decide +kernel
theorem dX5_toldAt_6 : decode cX5_toldAt 6 = .ok (.iload_n 2, 1) := by decide +kernel
theorem dX5_toldAt_7 : decode cX5_toldAt 7 = .ok (.sipush 300, 3) := by decide +kernel
theorem dX5_toldAt_10 : decode cX5_toldAt 10 = .ok (.if_icmp .le 12, 3) := by decide +kernel
theorem dX5_toldAt_13 : decode cX5_toldAt 13 = .ok (.aload_n 0, 1) := by decide +kernel
theorem dX5_toldAt_14 : decode cX5_toldAt 14 = .ok (.ldc 165, 2) := by decide +kernel
theorem dX5_toldAt_16 : decode cX5_toldAt 16 = .ok (.invokevirtual 66, 3) := by decide +kernel
theorem dX5_toldAt_19 : decode cX5_toldAt 19 = .ok (.goto 4, 3) := by decide +kernel
theorem dX5_toldAt_22 : decode cX5_toldAt 22 = .ok (.iload_n 2, 1) := by decide +kernel
theorem dX5_toldAt_23 : decode cX5_toldAt 23 = .ok (.ireturn, 1) := by decide +kernel
theorem dX5_trips_0 : decode cX5_trips 0 = .ok (.aload_n 0, 1) := by decide +kernel
theorem dX5_trips_1 : decode cX5_trips 1 = .ok (.iload_n 1, 1) := by decide +kernel
theorem dX5_trips_2 : decode cX5_trips 2 = .ok (.invokevirtual 69, 3) := by decide +kernel
theorem dX5_trips_5 : decode cX5_trips 5 = .ok (.ifCond .ne 10, 3) := by decide +kernel
theorem dX5_trips_8 : decode cX5_trips 8 = .ok (.aload_n 0, 1) := by decide +kernel
theorem dX5_trips_9 : decode cX5_trips 9 = .ok (.ldc 41, 2) := by decide +kernel
theorem dX5_trips_11 : decode cX5_trips 11 = .ok (.invokevirtual 66, 3) := by decide +kernel
theorem dX5_trips_14 : decode cX5_trips 14 = .ok (.ireturn, 1) := by decide +kernel
theorem dX5_trips_15 : decode cX5_trips 15 = .ok (.aload_n 0, 1) := by decide +kernel
theorem dX5_trips_16 : decode cX5_trips 16 = .ok (.invokevirtual 153, 3) := by decide +kernel
theorem dX5_trips_19 : decode cX5_trips 19 = .ok (.iconst 0, 1) := by decide +kernel
theorem dX5_trips_20 : decode cX5_trips 20 = .ok (.istore_n 2, 1) := by decide +kernel
theorem dX5_trips_21 : decode cX5_trips 21 = .ok (.aload_n 0, 1) := by decide +kernel
theorem dX5_trips_22 : decode cX5_trips 22 = .ok (.iconst 0, 1) := by decide +kernel
theorem dX5_trips_23 : decode cX5_trips 23 = .ok (.putfield 100, 3) := by decide +kernel
theorem dX5_trips_26 : decode cX5_trips 26 = .ok (.iload_n 2, 1) := by decide +kernel
theorem dX5_trips_27 : decode cX5_trips 27 = .ok (.sipush 300, 3) := by decide +kernel
theorem dX5_trips_30 : decode cX5_trips 30 = .ok (.if_icmp .gt 24, 3) := by decide +kernel
theorem dX5_trips_33 : decode cX5_trips 33 = .ok (.aload_n 0, 1) := by decide +kernel
theorem dX5_trips_34 : decode cX5_trips 34 = .ok (.getfield 100, 3) := by decide +kernel
theorem dX5_trips_37 : decode cX5_trips 37 = .ok (.iload_n 1, 1) := by decide +kernel
theorem dX5_trips_38 : decode cX5_trips 38 = .ok (.ishr, 1) := by decide +kernel
theorem dX5_trips_39 : decode cX5_trips 39 = .ok (.iconst 1, 1) := by decide +kernel
theorem dX5_trips_40 : decode cX5_trips 40 = .ok (.iand, 1) := by decide +kernel
theorem dX5_trips_41 : decode cX5_trips 41 = .ok (.ifCond .ne 13, 3) := by decide +kernel
theorem dX5_trips_44 : decode cX5_trips 44 = .ok (.aload_n 0, 1) := by decide +kernel
theorem dX5_trips_45 : decode cX5_trips 45 = .ok (.invokevirtual 141, 3) := by decide +kernel
theorem dX5_trips_48 : decode cX5_trips 48 = .ok (.iinc 2 1, 3) := by decide +kernel
theorem dX5_trips_51 : decode cX5_trips 51 = .ok (.goto (-25), 3) := by decide +kernel
theorem dX5_trips_54 : decode cX5_trips 54 = .ok (.aload_n 0, 1) := by decide +kernel
theorem dX5_trips_55 : decode cX5_trips 55 = .ok (.iload_n 2, 1) := by decide +kernel
theorem dX5_trips_56 : decode cX5_trips 56 = .ok (.invokevirtual 166, 3) := by decide +kernel
theorem dX5_trips_59 : decode cX5_trips 59 = .ok (.ireturn, 1) := by decide +kernel
theorem dX5_hears_0 : decode cX5_hears 0 = .ok (.aload_n 0, 1) := by decide +kernel
theorem dX5_hears_1 : decode cX5_hears 1 = .ok (.iload_n 1, 1) := by decide +kernel
theorem dX5_hears_2 : decode cX5_hears 2 = .ok (.invokevirtual 69, 3) := by decide +kernel
theorem dX5_hears_5 : decode cX5_hears 5 = .ok (.ifCond .ne 10, 3) := by decide +kernel
theorem dX5_hears_8 : decode cX5_hears 8 = .ok (.aload_n 0, 1) := by decide +kernel
theorem dX5_hears_9 : decode cX5_hears 9 = .ok (.ldc 41, 2) := by decide +kernel
theorem dX5_hears_11 : decode cX5_hears 11 = .ok (.invokevirtual 66, 3) := by decide +kernel
theorem dX5_hears_14 : decode cX5_hears 14 = .ok (.ireturn, 1) := by decide +kernel
theorem dX5_hears_15 : decode cX5_hears 15 = .ok (.aload_n 0, 1) := by decide +kernel
theorem dX5_hears_16 : decode cX5_hears 16 = .ok (.invokevirtual 153, 3) := by decide +kernel
theorem dX5_hears_19 : decode cX5_hears 19 = .ok (.iconst 0, 1) := by decide +kernel
theorem dX5_hears_20 : decode cX5_hears 20 = .ok (.istore_n 2, 1) := by decide +kernel
theorem dX5_hears_21 : decode cX5_hears 21 = .ok (.iload_n 2, 1) := by decide +kernel
theorem dX5_hears_22 : decode cX5_hears 22 = .ok (.sipush 300, 3) := by decide +kernel
theorem dX5_hears_25 : decode cX5_hears 25 = .ok (.if_icmp .gt 22, 3) := by decide +kernel
theorem dX5_hears_28 : decode cX5_hears 28 = .ok (.aload_n 0, 1) := by decide +kernel
theorem dX5_hears_29 : decode cX5_hears 29 = .ok (.iload_n 1, 1) := by decide +kernel
theorem dX5_hears_30 : decode cX5_hears 30 = .ok (.iconst 1, 1) := by decide +kernel
theorem dX5_hears_31 : decode cX5_hears 31 = .ok (.invokevirtual 54, 3) := by decide +kernel
theorem dX5_hears_34 : decode cX5_hears 34 = .ok (.ifCond .ne 13, 3) := by decide +kernel
theorem dX5_hears_37 : decode cX5_hears 37 = .ok (.aload_n 0, 1) := by decide +kernel
theorem dX5_hears_38 : decode cX5_hears 38 = .ok (.invokevirtual 141, 3) := by decide +kernel
theorem dX5_hears_41 : decode cX5_hears 41 = .ok (.iinc 2 1, 3) := by decide +kernel
theorem dX5_hears_44 : decode cX5_hears 44 = .ok (.goto (-23), 3) := by decide +kernel
theorem dX5_hears_47 : decode cX5_hears 47 = .ok (.aload_n 0, 1) := by decide +kernel
theorem dX5_hears_48 : decode cX5_hears 48 = .ok (.iload_n 2, 1) := by decide +kernel
theorem dX5_hears_49 : decode cX5_hears 49 = .ok (.invokevirtual 166, 3) := by decide +kernel
theorem dX5_hears_52 : decode cX5_hears 52 = .ok (.ireturn, 1) := by decide +kernel
theorem dX5_isSoon_0 : decode cX5_isSoon 0 = .ok (.iload_n 0, 1) := by decide +kernel
theorem dX5_isSoon_1 : decode cX5_isSoon 1 = .ok (.i2l, 1) := by decide +kernel
theorem dX5_isSoon_2 : decode cX5_isSoon 2 = .ok (.lconst 1, 1) := by decide +kernel
theorem dX5_isSoon_3 : decode cX5_isSoon 3 = .ok (.ldc2_w 169, 3) := by decide +kernel
theorem dX5_isSoon_6 : decode cX5_isSoon 6 = .ok (.invokestatic 46, 3) := by decide +kernel
theorem dX5_isSoon_9 : decode cX5_isSoon 9 = .ok (.ireturn, 1) := by decide +kernel
theorem dX5_leastBy_0 : decode cX5_leastBy 0 = .ok (.aload_n 0, 1) := by decide +kernel
theorem dX5_leastBy_1 : decode cX5_leastBy 1 = .ok (.getfield 7, 3) := by decide +kernel
theorem dX5_leastBy_4 : decode cX5_leastBy 4 = .ok (.iload_n 1, 1) := by decide +kernel
theorem dX5_leastBy_5 : decode cX5_leastBy 5 = .ok (.iaload, 1) := by decide +kernel
theorem dX5_leastBy_6 : decode cX5_leastBy 6 = .ok (.istore 5, 2) := by decide +kernel
theorem dX5_leastBy_8 : decode cX5_leastBy 8 = .ok (.iconst 0, 1) := by decide +kernel
theorem dX5_leastBy_9 : decode cX5_leastBy 9 = .ok (.istore 6, 2) := by decide +kernel
theorem dX5_leastBy_11 : decode cX5_leastBy 11 = .ok (.ldc 171, 2) := by decide +kernel
theorem dX5_leastBy_13 : decode cX5_leastBy 13 = .ok (.istore 7, 2) := by decide +kernel
theorem dX5_leastBy_15 : decode cX5_leastBy 15 = .ok (.iconst 0, 1) := by decide +kernel
theorem dX5_leastBy_16 : decode cX5_leastBy 16 = .ok (.istore 8, 2) := by decide +kernel
theorem dX5_leastBy_18 : decode cX5_leastBy 18 = .ok (.iload 8, 2) := by decide +kernel
theorem dX5_leastBy_20 : decode cX5_leastBy 20 = .ok (.iload_n 2, 1) := by decide +kernel
theorem dX5_leastBy_21 : decode cX5_leastBy 21 = .ok (.if_icmp .gt 58, 3) := by decide +kernel
theorem dX5_leastBy_24 : decode cX5_leastBy 24 = .ok (.aload_n 0, 1) := by decide +kernel
theorem dX5_leastBy_25 : decode cX5_leastBy 25 = .ok (.getfield 7, 3) := by decide +kernel
theorem dX5_leastBy_28 : decode cX5_leastBy 28 = .ok (.iload_n 1, 1) := by decide +kernel
theorem dX5_leastBy_29 : decode cX5_leastBy 29 = .ok (.iload 8, 2) := by decide +kernel
theorem dX5_leastBy_31 : decode cX5_leastBy 31 = .ok (.iastore, 1) := by decide +kernel
theorem dX5_leastBy_32 : decode cX5_leastBy 32 = .ok (.aload_n 0, 1) := by decide +kernel
theorem dX5_leastBy_33 : decode cX5_leastBy 33 = .ok (.iload_n 3, 1) := by decide +kernel
theorem dX5_leastBy_34 : decode cX5_leastBy 34 = .ok (.iload 4, 2) := by decide +kernel
theorem dX5_leastBy_36 : decode cX5_leastBy 36 = .ok (.invokevirtual 162, 3) := by decide +kernel
theorem dX5_leastBy_39 : decode cX5_leastBy 39 = .ok (.istore 9, 2) := by decide +kernel
theorem dX5_leastBy_41 : decode cX5_leastBy 41 = .ok (.iload 9, 2) := by decide +kernel
theorem dX5_leastBy_43 : decode cX5_leastBy 43 = .ok (.iload 7, 2) := by decide +kernel
theorem dX5_leastBy_45 : decode cX5_leastBy 45 = .ok (.if_icmp .ge 8, 3) := by decide +kernel
theorem dX5_leastBy_48 : decode cX5_leastBy 48 = .ok (.iload 8, 2) := by decide +kernel
theorem dX5_leastBy_50 : decode cX5_leastBy 50 = .ok (.goto 5, 3) := by decide +kernel
theorem dX5_leastBy_53 : decode cX5_leastBy 53 = .ok (.iload 6, 2) := by decide +kernel
theorem dX5_leastBy_55 : decode cX5_leastBy 55 = .ok (.istore 6, 2) := by decide +kernel
theorem dX5_leastBy_57 : decode cX5_leastBy 57 = .ok (.iload 9, 2) := by decide +kernel
theorem dX5_leastBy_59 : decode cX5_leastBy 59 = .ok (.iload 7, 2) := by decide +kernel
theorem dX5_leastBy_61 : decode cX5_leastBy 61 = .ok (.if_icmp .ge 8, 3) := by decide +kernel
theorem dX5_leastBy_64 : decode cX5_leastBy 64 = .ok (.iload 9, 2) := by decide +kernel
theorem dX5_leastBy_66 : decode cX5_leastBy 66 = .ok (.goto 5, 3) := by decide +kernel
theorem dX5_leastBy_69 : decode cX5_leastBy 69 = .ok (.iload 7, 2) := by decide +kernel
theorem dX5_leastBy_71 : decode cX5_leastBy 71 = .ok (.istore 7, 2) := by decide +kernel
theorem dX5_leastBy_73 : decode cX5_leastBy 73 = .ok (.iinc 8 1, 3) := by decide +kernel
theorem dX5_leastBy_76 : decode cX5_leastBy 76 = .ok (.goto (-58), 3) := by decide +kernel
theorem dX5_leastBy_79 : decode cX5_leastBy 79 = .ok (.aload_n 0, 1) := by decide +kernel
theorem dX5_leastBy_80 : decode cX5_leastBy 80 = .ok (.getfield 7, 3) := by decide +kernel
theorem dX5_leastBy_83 : decode cX5_leastBy 83 = .ok (.iload_n 1, 1) := by decide +kernel
theorem dX5_leastBy_84 : decode cX5_leastBy 84 = .ok (.iload 5, 2) := by decide +kernel
theorem dX5_leastBy_86 : decode cX5_leastBy 86 = .ok (.iastore, 1) := by decide +kernel
theorem dX5_leastBy_87 : decode cX5_leastBy 87 = .ok (.iload 6, 2) := by decide +kernel
theorem dX5_leastBy_89 : decode cX5_leastBy 89 = .ok (.ireturn, 1) := by decide +kernel
theorem dX5_carry_0 : decode cX5_carry 0 = .ok (.iload_n 1, 1) := by decide +kernel
theorem dX5_carry_1 : decode cX5_carry 1 = .ok (.invokestatic 172, 3) := by decide +kernel
theorem dX5_carry_4 : decode cX5_carry 4 = .ok (.ifCond .ne 10, 3) := by decide +kernel
theorem dX5_carry_7 : decode cX5_carry 7 = .ok (.aload_n 0, 1) := by decide +kernel
theorem dX5_carry_8 : decode cX5_carry 8 = .ok (.ldc 41, 2) := by decide +kernel
theorem dX5_carry_10 : decode cX5_carry 10 = .ok (.invokevirtual 66, 3) := by decide +kernel
theorem dX5_carry_13 : decode cX5_carry 13 = .ok (.ireturn, 1) := by decide +kernel
theorem dX5_carry_14 : decode cX5_carry 14 = .ok (.aload_n 0, 1) := by decide +kernel
theorem dX5_carry_15 : decode cX5_carry 15 = .ok (.getfield 7, 3) := by decide +kernel
theorem dX5_carry_18 : decode cX5_carry 18 = .ok (.iconst 1, 1) := by decide +kernel
theorem dX5_carry_19 : decode cX5_carry 19 = .ok (.iaload, 1) := by decide +kernel
theorem dX5_carry_20 : decode cX5_carry 20 = .ok (.ifCond .ne 12, 3) := by decide +kernel
theorem dX5_carry_23 : decode cX5_carry 23 = .ok (.aload_n 0, 1) := by decide +kernel
theorem dX5_carry_24 : decode cX5_carry 24 = .ok (.ldc 165, 2) := by decide +kernel
theorem dX5_carry_26 : decode cX5_carry 26 = .ok (.invokevirtual 66, 3) := by decide +kernel
theorem dX5_carry_29 : decode cX5_carry 29 = .ok (.goto 18, 3) := by decide +kernel
theorem dX5_carry_32 : decode cX5_carry 32 = .ok (.aload_n 0, 1) := by decide +kernel
theorem dX5_carry_33 : decode cX5_carry 33 = .ok (.iconst 3, 1) := by decide +kernel
theorem dX5_carry_34 : decode cX5_carry 34 = .ok (.aload_n 0, 1) := by decide +kernel
theorem dX5_carry_35 : decode cX5_carry 35 = .ok (.getfield 7, 3) := by decide +kernel
theorem dX5_carry_38 : decode cX5_carry 38 = .ok (.iconst 1, 1) := by decide +kernel
theorem dX5_carry_39 : decode cX5_carry 39 = .ok (.iaload, 1) := by decide +kernel
theorem dX5_carry_40 : decode cX5_carry 40 = .ok (.iconst 1, 1) := by decide +kernel
theorem dX5_carry_41 : decode cX5_carry 41 = .ok (.isub, 1) := by decide +kernel
theorem dX5_carry_42 : decode cX5_carry 42 = .ok (.iconst (-1), 1) := by decide +kernel
theorem dX5_carry_43 : decode cX5_carry 43 = .ok (.iload_n 1, 1) := by decide +kernel
theorem dX5_carry_44 : decode cX5_carry 44 = .ok (.invokevirtual 175, 3) := by decide +kernel
theorem dX5_carry_47 : decode cX5_carry 47 = .ok (.ireturn, 1) := by decide +kernel
theorem dX5_order_0 : decode cX5_order 0 = .ok (.iload_n 1, 1) := by decide +kernel
theorem dX5_order_1 : decode cX5_order 1 = .ok (.invokestatic 172, 3) := by decide +kernel
theorem dX5_order_4 : decode cX5_order 4 = .ok (.ifCond .ne 10, 3) := by decide +kernel
theorem dX5_order_7 : decode cX5_order 7 = .ok (.aload_n 0, 1) := by decide +kernel
theorem dX5_order_8 : decode cX5_order 8 = .ok (.ldc 41, 2) := by decide +kernel
theorem dX5_order_10 : decode cX5_order 10 = .ok (.invokevirtual 66, 3) := by decide +kernel
theorem dX5_order_13 : decode cX5_order 13 = .ok (.ireturn, 1) := by decide +kernel
theorem dX5_order_14 : decode cX5_order 14 = .ok (.iconst (-1), 1) := by decide +kernel
theorem dX5_order_15 : decode cX5_order 15 = .ok (.istore_n 2, 1) := by decide +kernel
theorem dX5_order_16 : decode cX5_order 16 = .ok (.aload_n 0, 1) := by decide +kernel
theorem dX5_order_17 : decode cX5_order 17 = .ok (.iconst (-1), 1) := by decide +kernel
theorem dX5_order_18 : decode cX5_order 18 = .ok (.iload_n 1, 1) := by decide +kernel
theorem dX5_order_19 : decode cX5_order 19 = .ok (.invokevirtual 162, 3) := by decide +kernel
theorem dX5_order_22 : decode cX5_order 22 = .ok (.istore_n 3, 1) := by decide +kernel
theorem dX5_order_23 : decode cX5_order 23 = .ok (.iconst 0, 1) := by decide +kernel
theorem dX5_order_24 : decode cX5_order 24 = .ok (.istore 4, 2) := by decide +kernel
theorem dX5_order_26 : decode cX5_order 26 = .ok (.iload 4, 2) := by decide +kernel
theorem dX5_order_28 : decode cX5_order 28 = .ok (.aload_n 0, 1) := by decide +kernel
theorem dX5_order_29 : decode cX5_order 29 = .ok (.getfield 7, 3) := by decide +kernel
theorem dX5_order_32 : decode cX5_order 32 = .ok (.iconst 1, 1) := by decide +kernel
theorem dX5_order_33 : decode cX5_order 33 = .ok (.iaload, 1) := by decide +kernel
theorem dX5_order_34 : decode cX5_order 34 = .ok (.if_icmp .ge 88, 3) := by decide +kernel
theorem dX5_order_37 : decode cX5_order 37 = .ok (.iload 4, 2) := by decide +kernel
theorem dX5_order_39 : decode cX5_order 39 = .ok (.iconst 1, 1) := by decide +kernel
theorem dX5_order_40 : decode cX5_order 40 = .ok (.iadd, 1) := by decide +kernel
theorem dX5_order_41 : decode cX5_order 41 = .ok (.istore 5, 2) := by decide +kernel
theorem dX5_order_43 : decode cX5_order 43 = .ok (.iload 5, 2) := by decide +kernel
theorem dX5_order_45 : decode cX5_order 45 = .ok (.aload_n 0, 1) := by decide +kernel
theorem dX5_order_46 : decode cX5_order 46 = .ok (.getfield 7, 3) := by decide +kernel
theorem dX5_order_49 : decode cX5_order 49 = .ok (.iconst 1, 1) := by decide +kernel
theorem dX5_order_50 : decode cX5_order 50 = .ok (.iaload, 1) := by decide +kernel
theorem dX5_order_51 : decode cX5_order 51 = .ok (.if_icmp .ge 65, 3) := by decide +kernel
theorem dX5_order_54 : decode cX5_order 54 = .ok (.aload_n 0, 1) := by decide +kernel
theorem dX5_order_55 : decode cX5_order 55 = .ok (.iload 4, 2) := by decide +kernel
theorem dX5_order_57 : decode cX5_order 57 = .ok (.iload 5, 2) := by decide +kernel
theorem dX5_order_59 : decode cX5_order 59 = .ok (.invokevirtual 125, 3) := by decide +kernel
theorem dX5_order_62 : decode cX5_order 62 = .ok (.aload_n 0, 1) := by decide +kernel
theorem dX5_order_63 : decode cX5_order 63 = .ok (.iconst (-1), 1) := by decide +kernel
theorem dX5_order_64 : decode cX5_order 64 = .ok (.iload_n 1, 1) := by decide +kernel
theorem dX5_order_65 : decode cX5_order 65 = .ok (.invokevirtual 162, 3) := by decide +kernel
theorem dX5_order_68 : decode cX5_order 68 = .ok (.istore 6, 2) := by decide +kernel
theorem dX5_order_70 : decode cX5_order 70 = .ok (.aload_n 0, 1) := by decide +kernel
theorem dX5_order_71 : decode cX5_order 71 = .ok (.iload 4, 2) := by decide +kernel
theorem dX5_order_73 : decode cX5_order 73 = .ok (.iload 5, 2) := by decide +kernel
theorem dX5_order_75 : decode cX5_order 75 = .ok (.invokevirtual 125, 3) := by decide +kernel
theorem dX5_order_78 : decode cX5_order 78 = .ok (.iload 6, 2) := by decide +kernel
theorem dX5_order_80 : decode cX5_order 80 = .ok (.iload_n 3, 1) := by decide +kernel
theorem dX5_order_81 : decode cX5_order 81 = .ok (.if_icmp .ge 14, 3) := by decide +kernel
theorem dX5_order_84 : decode cX5_order 84 = .ok (.bipush 10, 2) := by decide +kernel
theorem dX5_order_86 : decode cX5_order 86 = .ok (.iload 4, 2) := by decide +kernel
theorem dX5_order_88 : decode cX5_order 88 = .ok (.imul, 1) := by decide +kernel
theorem dX5_order_89 : decode cX5_order 89 = .ok (.iload 5, 2) := by decide +kernel
theorem dX5_order_91 : decode cX5_order 91 = .ok (.iadd, 1) := by decide +kernel
theorem dX5_order_92 : decode cX5_order 92 = .ok (.goto 4, 3) := by decide +kernel
theorem dX5_order_95 : decode cX5_order 95 = .ok (.iload_n 2, 1) := by decide +kernel
theorem dX5_order_96 : decode cX5_order 96 = .ok (.istore_n 2, 1) := by decide +kernel
theorem dX5_order_97 : decode cX5_order 97 = .ok (.iload 6, 2) := by decide +kernel
theorem dX5_order_99 : decode cX5_order 99 = .ok (.iload_n 3, 1) := by decide +kernel
theorem dX5_order_100 : decode cX5_order 100 = .ok (.if_icmp .ge 8, 3) := by decide +kernel
theorem dX5_order_103 : decode cX5_order 103 = .ok (.iload 6, 2) := by decide +kernel
theorem dX5_order_105 : decode cX5_order 105 = .ok (.goto 4, 3) := by decide +kernel
theorem dX5_order_108 : decode cX5_order 108 = .ok (.iload_n 3, 1) := by decide +kernel
theorem dX5_order_109 : decode cX5_order 109 = .ok (.istore_n 3, 1) := by decide +kernel
theorem dX5_order_110 : decode cX5_order 110 = .ok (.iinc 5 1, 3) := by decide +kernel
theorem dX5_order_113 : decode cX5_order 113 = .ok (.goto (-70), 3) := by decide +kernel
theorem dX5_order_116 : decode cX5_order 116 = .ok (.iinc 4 1, 3) := by decide +kernel
theorem dX5_order_119 : decode cX5_order 119 = .ok (.goto (-93), 3) := by decide +kernel
theorem dX5_order_122 : decode cX5_order 122 = .ok (.iload_n 2, 1) := by decide +kernel
theorem dX5_order_123 : decode cX5_order 123 = .ok (.ifCond .ge 12, 3) := by decide +kernel
theorem dX5_order_126 : decode cX5_order 126 = .ok (.aload_n 0, 1) := by decide +kernel
theorem dX5_order_127 : decode cX5_order 127 = .ok (.ldc 165, 2) := by decide +kernel
theorem dX5_order_129 : decode cX5_order 129 = .ok (.invokevirtual 66, 3) := by decide +kernel
theorem dX5_order_132 : decode cX5_order 132 = .ok (.goto 4, 3) := by decide +kernel
theorem dX5_order_135 : decode cX5_order 135 = .ok (.iload_n 2, 1) := by decide +kernel
theorem dX5_order_136 : decode cX5_order 136 = .ok (.ireturn, 1) := by decide +kernel
theorem dX5_kind_0 : decode cX5_kind 0 = .ok (.aload_n 0, 1) := by decide +kernel
theorem dX5_kind_1 : decode cX5_kind 1 = .ok (.iload_n 1, 1) := by decide +kernel
theorem dX5_kind_2 : decode cX5_kind 2 = .ok (.invokevirtual 69, 3) := by decide +kernel
theorem dX5_kind_5 : decode cX5_kind 5 = .ok (.ifCond .eq 29, 3) := by decide +kernel
theorem dX5_kind_8 : decode cX5_kind 8 = .ok (.iload_n 2, 1) := by decide +kernel
theorem dX5_kind_9 : decode cX5_kind 9 = .ok (.invokestatic 172, 3) := by decide +kernel
theorem dX5_kind_12 : decode cX5_kind 12 = .ok (.ifCond .eq 22, 3) := by decide +kernel
theorem dX5_kind_15 : decode cX5_kind 15 = .ok (.aload_n 0, 1) := by decide +kernel
theorem dX5_kind_16 : decode cX5_kind 16 = .ok (.iload_n 1, 1) := by decide +kernel
theorem dX5_kind_17 : decode cX5_kind 17 = .ok (.iconst 0, 1) := by decide +kernel
theorem dX5_kind_18 : decode cX5_kind 18 = .ok (.invokestatic 42, 3) := by decide +kernel
theorem dX5_kind_21 : decode cX5_kind 21 = .ok (.iconst 5, 1) := by decide +kernel
theorem dX5_kind_22 : decode cX5_kind 22 = .ok (.iload_n 1, 1) := by decide +kernel
theorem dX5_kind_23 : decode cX5_kind 23 = .ok (.iconst 2, 1) := by decide +kernel
theorem dX5_kind_24 : decode cX5_kind 24 = .ok (.invokestatic 42, 3) := by decide +kernel
theorem dX5_kind_27 : decode cX5_kind 27 = .ok (.iload_n 2, 1) := by decide +kernel
theorem dX5_kind_28 : decode cX5_kind 28 = .ok (.invokevirtual 175, 3) := by decide +kernel
theorem dX5_kind_31 : decode cX5_kind 31 = .ok (.goto 9, 3) := by decide +kernel
theorem dX5_kind_34 : decode cX5_kind 34 = .ok (.aload_n 0, 1) := by decide +kernel
theorem dX5_kind_35 : decode cX5_kind 35 = .ok (.ldc 41, 2) := by decide +kernel
theorem dX5_kind_37 : decode cX5_kind 37 = .ok (.invokevirtual 66, 3) := by decide +kernel
theorem dX5_kind_40 : decode cX5_kind 40 = .ok (.ireturn, 1) := by decide +kernel
theorem dX5_least_0 : decode cX5_least 0 = .ok (.iload_n 1, 1) := by decide +kernel
theorem dX5_least_1 : decode cX5_least 1 = .ok (.invokestatic 172, 3) := by decide +kernel
theorem dX5_least_4 : decode cX5_least 4 = .ok (.ifCond .eq 15, 3) := by decide +kernel
theorem dX5_least_7 : decode cX5_least 7 = .ok (.iload_n 2, 1) := by decide +kernel
theorem dX5_least_8 : decode cX5_least 8 = .ok (.i2l, 1) := by decide +kernel
theorem dX5_least_9 : decode cX5_least 9 = .ok (.lconst 0, 1) := by decide +kernel
theorem dX5_least_10 : decode cX5_least 10 = .ok (.ldc2_w 179, 3) := by decide +kernel
theorem dX5_least_13 : decode cX5_least 13 = .ok (.invokestatic 46, 3) := by decide +kernel
theorem dX5_least_16 : decode cX5_least 16 = .ok (.ifCond .ne 10, 3) := by decide +kernel
theorem dX5_least_19 : decode cX5_least 19 = .ok (.aload_n 0, 1) := by decide +kernel
theorem dX5_least_20 : decode cX5_least 20 = .ok (.ldc 41, 2) := by decide +kernel
theorem dX5_least_22 : decode cX5_least 22 = .ok (.invokevirtual 66, 3) := by decide +kernel
theorem dX5_least_25 : decode cX5_least 25 = .ok (.ireturn, 1) := by decide +kernel
theorem dX5_least_26 : decode cX5_least 26 = .ok (.aload_n 0, 1) := by decide +kernel
theorem dX5_least_27 : decode cX5_least 27 = .ok (.getfield 7, 3) := by decide +kernel
theorem dX5_least_30 : decode cX5_least 30 = .ok (.iconst 4, 1) := by decide +kernel
theorem dX5_least_31 : decode cX5_least 31 = .ok (.iaload, 1) := by decide +kernel
theorem dX5_least_32 : decode cX5_least 32 = .ok (.istore_n 3, 1) := by decide +kernel
theorem dX5_least_33 : decode cX5_least 33 = .ok (.iconst (-1), 1) := by decide +kernel
theorem dX5_least_34 : decode cX5_least 34 = .ok (.istore 4, 2) := by decide +kernel
theorem dX5_least_36 : decode cX5_least 36 = .ok (.iconst 0, 1) := by decide +kernel
theorem dX5_least_37 : decode cX5_least 37 = .ok (.istore 5, 2) := by decide +kernel
theorem dX5_least_39 : decode cX5_least 39 = .ok (.iload 5, 2) := by decide +kernel
theorem dX5_least_41 : decode cX5_least 41 = .ok (.bipush 9, 2) := by decide +kernel
theorem dX5_least_43 : decode cX5_least 43 = .ok (.if_icmp .gt 40, 3) := by decide +kernel
theorem dX5_least_46 : decode cX5_least 46 = .ok (.iload 4, 2) := by decide +kernel
theorem dX5_least_48 : decode cX5_least 48 = .ok (.ifCond .ge 35, 3) := by decide +kernel
theorem dX5_least_51 : decode cX5_least 51 = .ok (.aload_n 0, 1) := by decide +kernel
theorem dX5_least_52 : decode cX5_least 52 = .ok (.getfield 7, 3) := by decide +kernel
theorem dX5_least_55 : decode cX5_least 55 = .ok (.iconst 4, 1) := by decide +kernel
theorem dX5_least_56 : decode cX5_least 56 = .ok (.iload 5, 2) := by decide +kernel
theorem dX5_least_58 : decode cX5_least 58 = .ok (.iastore, 1) := by decide +kernel
theorem dX5_least_59 : decode cX5_least 59 = .ok (.aload_n 0, 1) := by decide +kernel
theorem dX5_least_60 : decode cX5_least 60 = .ok (.iconst (-1), 1) := by decide +kernel
theorem dX5_least_61 : decode cX5_least 61 = .ok (.iload_n 1, 1) := by decide +kernel
theorem dX5_least_62 : decode cX5_least 62 = .ok (.invokevirtual 162, 3) := by decide +kernel
theorem dX5_least_65 : decode cX5_least 65 = .ok (.iload_n 2, 1) := by decide +kernel
theorem dX5_least_66 : decode cX5_least 66 = .ok (.if_icmp .gt 8, 3) := by decide +kernel
theorem dX5_least_69 : decode cX5_least 69 = .ok (.iload 5, 2) := by decide +kernel
theorem dX5_least_71 : decode cX5_least 71 = .ok (.goto 4, 3) := by decide +kernel
theorem dX5_least_74 : decode cX5_least 74 = .ok (.iconst (-1), 1) := by decide +kernel
theorem dX5_least_75 : decode cX5_least 75 = .ok (.istore 4, 2) := by decide +kernel
theorem dX5_least_77 : decode cX5_least 77 = .ok (.iinc 5 1, 3) := by decide +kernel
theorem dX5_least_80 : decode cX5_least 80 = .ok (.goto (-41), 3) := by decide +kernel
theorem dX5_least_83 : decode cX5_least 83 = .ok (.aload_n 0, 1) := by decide +kernel
theorem dX5_least_84 : decode cX5_least 84 = .ok (.getfield 7, 3) := by decide +kernel
theorem dX5_least_87 : decode cX5_least 87 = .ok (.iconst 4, 1) := by decide +kernel
theorem dX5_least_88 : decode cX5_least 88 = .ok (.iload_n 3, 1) := by decide +kernel
theorem dX5_least_89 : decode cX5_least 89 = .ok (.iastore, 1) := by decide +kernel
theorem dX5_least_90 : decode cX5_least 90 = .ok (.iload 4, 2) := by decide +kernel
theorem dX5_least_92 : decode cX5_least 92 = .ok (.ifCond .ge 12, 3) := by decide +kernel
theorem dX5_least_95 : decode cX5_least 95 = .ok (.aload_n 0, 1) := by decide +kernel
theorem dX5_least_96 : decode cX5_least 96 = .ok (.ldc 165, 2) := by decide +kernel
theorem dX5_least_98 : decode cX5_least 98 = .ok (.invokevirtual 66, 3) := by decide +kernel
theorem dX5_least_101 : decode cX5_least 101 = .ok (.goto 5, 3) := by decide +kernel
theorem dX5_least_104 : decode cX5_least 104 = .ok (.iload 4, 2) := by decide +kernel
theorem dX5_least_106 : decode cX5_least 106 = .ok (.ireturn, 1) := by decide +kernel
theorem dX5_clear_0 : decode cX5_clear 0 = .ok (.iload_n 1, 1) := by decide +kernel
theorem dX5_clear_1 : decode cX5_clear 1 = .ok (.i2l, 1) := by decide +kernel
theorem dX5_clear_2 : decode cX5_clear 2 = .ok (.lconst 1, 1) := by decide +kernel
theorem dX5_clear_3 : decode cX5_clear 3 = .ok (.ldc2_w 181, 3) := by decide +kernel
theorem dX5_clear_6 : decode cX5_clear 6 = .ok (.invokestatic 46, 3) := by decide +kernel
theorem dX5_clear_9 : decode cX5_clear 9 = .ok (.ifCond .ne 10, 3) := by decide +kernel
theorem dX5_clear_12 : decode cX5_clear 12 = .ok (.aload_n 0, 1) := by decide +kernel
theorem dX5_clear_13 : decode cX5_clear 13 = .ok (.ldc 41, 2) := by decide +kernel
theorem dX5_clear_15 : decode cX5_clear 15 = .ok (.invokevirtual 66, 3) := by decide +kernel
theorem dX5_clear_18 : decode cX5_clear 18 = .ok (.ireturn, 1) := by decide +kernel
theorem dX5_clear_19 : decode cX5_clear 19 = .ok (.aload_n 0, 1) := by decide +kernel
theorem dX5_clear_20 : decode cX5_clear 20 = .ok (.getfield 7, 3) := by decide +kernel
theorem dX5_clear_23 : decode cX5_clear 23 = .ok (.iconst 2, 1) := by decide +kernel
theorem dX5_clear_24 : decode cX5_clear 24 = .ok (.iaload, 1) := by decide +kernel
theorem dX5_clear_25 : decode cX5_clear 25 = .ok (.istore_n 2, 1) := by decide +kernel
theorem dX5_clear_26 : decode cX5_clear 26 = .ok (.iconst (-1), 1) := by decide +kernel
theorem dX5_clear_27 : decode cX5_clear 27 = .ok (.istore_n 3, 1) := by decide +kernel
theorem dX5_clear_28 : decode cX5_clear 28 = .ok (.ldc 171, 2) := by decide +kernel
theorem dX5_clear_30 : decode cX5_clear 30 = .ok (.istore 4, 2) := by decide +kernel
theorem dX5_clear_32 : decode cX5_clear 32 = .ok (.iconst 0, 1) := by decide +kernel
end
section
theorem dX5_clear_33 : decode cX5_clear 33 = .ok (.istore 5, 2) := by decide +kernel
theorem dX5_clear_35 : decode cX5_clear 35 = .ok (.iload 5, 2) := by decide +kernel
theorem dX5_clear_37 : decode cX5_clear 37 = .ok (.bipush 30, 2) := by decide +kernel
theorem dX5_clear_39 : decode cX5_clear 39 = .ok (.if_icmp .ge 71, 3) := by decide +kernel
theorem dX5_clear_42 : decode cX5_clear 42 = .ok (.iload_n 2, 1) := by decide +kernel
theorem dX5_clear_43 : decode cX5_clear 43 = .ok (.iload 5, 2) := by decide +kernel
theorem dX5_clear_45 : decode cX5_clear 45 = .ok (.ishr, 1) := by decide +kernel
theorem dX5_clear_46 : decode cX5_clear 46 = .ok (.iconst 1, 1) := by decide +kernel
theorem dX5_clear_47 : decode cX5_clear 47 = .ok (.iand, 1) := by decide +kernel
theorem dX5_clear_48 : decode cX5_clear 48 = .ok (.iconst 1, 1) := by decide +kernel
theorem dX5_clear_49 : decode cX5_clear 49 = .ok (.if_icmp .ne 55, 3) := by decide +kernel
theorem dX5_clear_52 : decode cX5_clear 52 = .ok (.aload_n 0, 1) := by decide +kernel
theorem dX5_clear_53 : decode cX5_clear 53 = .ok (.getfield 7, 3) := by decide +kernel
theorem dX5_clear_56 : decode cX5_clear 56 = .ok (.iconst 2, 1) := by decide +kernel
theorem dX5_clear_57 : decode cX5_clear 57 = .ok (.iload_n 2, 1) := by decide +kernel
theorem dX5_clear_58 : decode cX5_clear 58 = .ok (.iconst 1, 1) := by decide +kernel
theorem dX5_clear_59 : decode cX5_clear 59 = .ok (.iload 5, 2) := by decide +kernel
theorem dX5_clear_61 : decode cX5_clear 61 = .ok (.ishl, 1) := by decide +kernel
theorem dX5_clear_62 : decode cX5_clear 62 = .ok (.iconst (-1), 1) := by decide +kernel
theorem dX5_clear_63 : decode cX5_clear 63 = .ok (.ixor, 1) := by decide +kernel
theorem dX5_clear_64 : decode cX5_clear 64 = .ok (.iand, 1) := by decide +kernel
theorem dX5_clear_65 : decode cX5_clear 65 = .ok (.iastore, 1) := by decide +kernel
theorem dX5_clear_66 : decode cX5_clear 66 = .ok (.aload_n 0, 1) := by decide +kernel
theorem dX5_clear_67 : decode cX5_clear 67 = .ok (.iconst (-1), 1) := by decide +kernel
theorem dX5_clear_68 : decode cX5_clear 68 = .ok (.iload_n 1, 1) := by decide +kernel
theorem dX5_clear_69 : decode cX5_clear 69 = .ok (.invokevirtual 162, 3) := by decide +kernel
theorem dX5_clear_72 : decode cX5_clear 72 = .ok (.istore 6, 2) := by decide +kernel
theorem dX5_clear_74 : decode cX5_clear 74 = .ok (.iload 6, 2) := by decide +kernel
theorem dX5_clear_76 : decode cX5_clear 76 = .ok (.iload 4, 2) := by decide +kernel
theorem dX5_clear_78 : decode cX5_clear 78 = .ok (.if_icmp .ge 8, 3) := by decide +kernel
theorem dX5_clear_81 : decode cX5_clear 81 = .ok (.iload 5, 2) := by decide +kernel
theorem dX5_clear_83 : decode cX5_clear 83 = .ok (.goto 4, 3) := by decide +kernel
theorem dX5_clear_86 : decode cX5_clear 86 = .ok (.iload_n 3, 1) := by decide +kernel
theorem dX5_clear_87 : decode cX5_clear 87 = .ok (.istore_n 3, 1) := by decide +kernel
theorem dX5_clear_88 : decode cX5_clear 88 = .ok (.iload 6, 2) := by decide +kernel
theorem dX5_clear_90 : decode cX5_clear 90 = .ok (.iload 4, 2) := by decide +kernel
theorem dX5_clear_92 : decode cX5_clear 92 = .ok (.if_icmp .ge 8, 3) := by decide +kernel
theorem dX5_clear_95 : decode cX5_clear 95 = .ok (.iload 6, 2) := by decide +kernel
theorem dX5_clear_97 : decode cX5_clear 97 = .ok (.goto 5, 3) := by decide +kernel
theorem dX5_clear_100 : decode cX5_clear 100 = .ok (.iload 4, 2) := by decide +kernel
theorem dX5_clear_102 : decode cX5_clear 102 = .ok (.istore 4, 2) := by decide +kernel
theorem dX5_clear_104 : decode cX5_clear 104 = .ok (.iinc 5 1, 3) := by decide +kernel
theorem dX5_clear_107 : decode cX5_clear 107 = .ok (.goto (-72), 3) := by decide +kernel
theorem dX5_clear_110 : decode cX5_clear 110 = .ok (.aload_n 0, 1) := by decide +kernel
theorem dX5_clear_111 : decode cX5_clear 111 = .ok (.getfield 7, 3) := by decide +kernel
theorem dX5_clear_114 : decode cX5_clear 114 = .ok (.iconst 2, 1) := by decide +kernel
theorem dX5_clear_115 : decode cX5_clear 115 = .ok (.iload_n 2, 1) := by decide +kernel
theorem dX5_clear_116 : decode cX5_clear 116 = .ok (.iastore, 1) := by decide +kernel
theorem dX5_clear_117 : decode cX5_clear 117 = .ok (.iload_n 3, 1) := by decide +kernel
theorem dX5_clear_118 : decode cX5_clear 118 = .ok (.ifCond .ge 12, 3) := by decide +kernel
theorem dX5_clear_121 : decode cX5_clear 121 = .ok (.aload_n 0, 1) := by decide +kernel
theorem dX5_clear_122 : decode cX5_clear 122 = .ok (.ldc 165, 2) := by decide +kernel
theorem dX5_clear_124 : decode cX5_clear 124 = .ok (.invokevirtual 66, 3) := by decide +kernel
theorem dX5_clear_127 : decode cX5_clear 127 = .ok (.goto 4, 3) := by decide +kernel
theorem dX5_clear_130 : decode cX5_clear 130 = .ok (.iload_n 3, 1) := by decide +kernel
theorem dX5_clear_131 : decode cX5_clear 131 = .ok (.ireturn, 1) := by decide +kernel
theorem dX5_nerve_0 : decode cX5_nerve 0 = .ok (.aload_n 0, 1) := by decide +kernel
theorem dX5_nerve_1 : decode cX5_nerve 1 = .ok (.iload_n 1, 1) := by decide +kernel
theorem dX5_nerve_2 : decode cX5_nerve 2 = .ok (.invokevirtual 69, 3) := by decide +kernel
theorem dX5_nerve_5 : decode cX5_nerve 5 = .ok (.ifCond .eq 10, 3) := by decide +kernel
theorem dX5_nerve_8 : decode cX5_nerve 8 = .ok (.iload_n 2, 1) := by decide +kernel
theorem dX5_nerve_9 : decode cX5_nerve 9 = .ok (.invokestatic 172, 3) := by decide +kernel
theorem dX5_nerve_12 : decode cX5_nerve 12 = .ok (.ifCond .ne 10, 3) := by decide +kernel
theorem dX5_nerve_15 : decode cX5_nerve 15 = .ok (.aload_n 0, 1) := by decide +kernel
theorem dX5_nerve_16 : decode cX5_nerve 16 = .ok (.ldc 41, 2) := by decide +kernel
theorem dX5_nerve_18 : decode cX5_nerve 18 = .ok (.invokevirtual 66, 3) := by decide +kernel
theorem dX5_nerve_21 : decode cX5_nerve 21 = .ok (.ireturn, 1) := by decide +kernel
theorem dX5_nerve_22 : decode cX5_nerve 22 = .ok (.iload_n 1, 1) := by decide +kernel
theorem dX5_nerve_23 : decode cX5_nerve 23 = .ok (.iconst 3, 1) := by decide +kernel
theorem dX5_nerve_24 : decode cX5_nerve 24 = .ok (.invokestatic 42, 3) := by decide +kernel
theorem dX5_nerve_27 : decode cX5_nerve 27 = .ok (.istore_n 3, 1) := by decide +kernel
theorem dX5_nerve_28 : decode cX5_nerve 28 = .ok (.aload_n 0, 1) := by decide +kernel
theorem dX5_nerve_29 : decode cX5_nerve 29 = .ok (.getfield 7, 3) := by decide +kernel
theorem dX5_nerve_32 : decode cX5_nerve 32 = .ok (.iload_n 3, 1) := by decide +kernel
theorem dX5_nerve_33 : decode cX5_nerve 33 = .ok (.iaload, 1) := by decide +kernel
theorem dX5_nerve_34 : decode cX5_nerve 34 = .ok (.istore 4, 2) := by decide +kernel
theorem dX5_nerve_36 : decode cX5_nerve 36 = .ok (.aload_n 0, 1) := by decide +kernel
theorem dX5_nerve_37 : decode cX5_nerve 37 = .ok (.iload_n 1, 1) := by decide +kernel
theorem dX5_nerve_38 : decode cX5_nerve 38 = .ok (.iconst 2, 1) := by decide +kernel
theorem dX5_nerve_39 : decode cX5_nerve 39 = .ok (.invokevirtual 54, 3) := by decide +kernel
theorem dX5_nerve_42 : decode cX5_nerve 42 = .ok (.istore 5, 2) := by decide +kernel
theorem dX5_nerve_44 : decode cX5_nerve 44 = .ok (.iconst (-1), 1) := by decide +kernel
theorem dX5_nerve_45 : decode cX5_nerve 45 = .ok (.istore 6, 2) := by decide +kernel
theorem dX5_nerve_47 : decode cX5_nerve 47 = .ok (.iconst 0, 1) := by decide +kernel
theorem dX5_nerve_48 : decode cX5_nerve 48 = .ok (.istore 7, 2) := by decide +kernel
theorem dX5_nerve_50 : decode cX5_nerve 50 = .ok (.iload 7, 2) := by decide +kernel
theorem dX5_nerve_52 : decode cX5_nerve 52 = .ok (.bipush 99, 2) := by decide +kernel
theorem dX5_nerve_54 : decode cX5_nerve 54 = .ok (.if_icmp .gt 45, 3) := by decide +kernel
theorem dX5_nerve_57 : decode cX5_nerve 57 = .ok (.iload 6, 2) := by decide +kernel
theorem dX5_nerve_59 : decode cX5_nerve 59 = .ok (.ifCond .ge 40, 3) := by decide +kernel
theorem dX5_nerve_62 : decode cX5_nerve 62 = .ok (.aload_n 0, 1) := by decide +kernel
theorem dX5_nerve_63 : decode cX5_nerve 63 = .ok (.getfield 7, 3) := by decide +kernel
theorem dX5_nerve_66 : decode cX5_nerve 66 = .ok (.iload_n 3, 1) := by decide +kernel
theorem dX5_nerve_67 : decode cX5_nerve 67 = .ok (.iload 7, 2) := by decide +kernel
theorem dX5_nerve_69 : decode cX5_nerve 69 = .ok (.iastore, 1) := by decide +kernel
theorem dX5_nerve_70 : decode cX5_nerve 70 = .ok (.aload_n 0, 1) := by decide +kernel
theorem dX5_nerve_71 : decode cX5_nerve 71 = .ok (.iload_n 1, 1) := by decide +kernel
theorem dX5_nerve_72 : decode cX5_nerve 72 = .ok (.iconst 2, 1) := by decide +kernel
theorem dX5_nerve_73 : decode cX5_nerve 73 = .ok (.invokestatic 42, 3) := by decide +kernel
theorem dX5_nerve_76 : decode cX5_nerve 76 = .ok (.iload_n 2, 1) := by decide +kernel
theorem dX5_nerve_77 : decode cX5_nerve 77 = .ok (.invokevirtual 162, 3) := by decide +kernel
theorem dX5_nerve_80 : decode cX5_nerve 80 = .ok (.iload 5, 2) := by decide +kernel
theorem dX5_nerve_82 : decode cX5_nerve 82 = .ok (.if_icmp .ne 8, 3) := by decide +kernel
theorem dX5_nerve_85 : decode cX5_nerve 85 = .ok (.iload 7, 2) := by decide +kernel
theorem dX5_nerve_87 : decode cX5_nerve 87 = .ok (.goto 4, 3) := by decide +kernel
theorem dX5_nerve_90 : decode cX5_nerve 90 = .ok (.iconst (-1), 1) := by decide +kernel
theorem dX5_nerve_91 : decode cX5_nerve 91 = .ok (.istore 6, 2) := by decide +kernel
theorem dX5_nerve_93 : decode cX5_nerve 93 = .ok (.iinc 7 1, 3) := by decide +kernel
theorem dX5_nerve_96 : decode cX5_nerve 96 = .ok (.goto (-46), 3) := by decide +kernel
theorem dX5_nerve_99 : decode cX5_nerve 99 = .ok (.aload_n 0, 1) := by decide +kernel
theorem dX5_nerve_100 : decode cX5_nerve 100 = .ok (.getfield 7, 3) := by decide +kernel
theorem dX5_nerve_103 : decode cX5_nerve 103 = .ok (.iload_n 3, 1) := by decide +kernel
theorem dX5_nerve_104 : decode cX5_nerve 104 = .ok (.iload 4, 2) := by decide +kernel
theorem dX5_nerve_106 : decode cX5_nerve 106 = .ok (.iastore, 1) := by decide +kernel
theorem dX5_nerve_107 : decode cX5_nerve 107 = .ok (.iload 6, 2) := by decide +kernel
theorem dX5_nerve_109 : decode cX5_nerve 109 = .ok (.ifCond .ge 12, 3) := by decide +kernel
theorem dX5_nerve_112 : decode cX5_nerve 112 = .ok (.aload_n 0, 1) := by decide +kernel
theorem dX5_nerve_113 : decode cX5_nerve 113 = .ok (.ldc 165, 2) := by decide +kernel
theorem dX5_nerve_115 : decode cX5_nerve 115 = .ok (.invokevirtual 66, 3) := by decide +kernel
theorem dX5_nerve_118 : decode cX5_nerve 118 = .ok (.goto 5, 3) := by decide +kernel
theorem dX5_nerve_121 : decode cX5_nerve 121 = .ok (.iload 6, 2) := by decide +kernel
theorem dX5_nerve_123 : decode cX5_nerve 123 = .ok (.ireturn, 1) := by decide +kernel
theorem dX5_worst_0 : decode cX5_worst 0 = .ok (.iload_n 1, 1) := by decide +kernel
theorem dX5_worst_1 : decode cX5_worst 1 = .ok (.invokestatic 159, 3) := by decide +kernel
theorem dX5_worst_4 : decode cX5_worst 4 = .ok (.ifCond .ne 10, 3) := by decide +kernel
theorem dX5_worst_7 : decode cX5_worst 7 = .ok (.aload_n 0, 1) := by decide +kernel
theorem dX5_worst_8 : decode cX5_worst 8 = .ok (.ldc 41, 2) := by decide +kernel
theorem dX5_worst_10 : decode cX5_worst 10 = .ok (.invokevirtual 66, 3) := by decide +kernel
theorem dX5_worst_13 : decode cX5_worst 13 = .ok (.ireturn, 1) := by decide +kernel
theorem dX5_worst_14 : decode cX5_worst 14 = .ok (.aload_n 0, 1) := by decide +kernel
theorem dX5_worst_15 : decode cX5_worst 15 = .ok (.getfield 7, 3) := by decide +kernel
theorem dX5_worst_18 : decode cX5_worst 18 = .ok (.iconst 1, 1) := by decide +kernel
theorem dX5_worst_19 : decode cX5_worst 19 = .ok (.iaload, 1) := by decide +kernel
theorem dX5_worst_20 : decode cX5_worst 20 = .ok (.ifCond .ne 10, 3) := by decide +kernel
theorem dX5_worst_23 : decode cX5_worst 23 = .ok (.aload_n 0, 1) := by decide +kernel
theorem dX5_worst_24 : decode cX5_worst 24 = .ok (.ldc 165, 2) := by decide +kernel
theorem dX5_worst_26 : decode cX5_worst 26 = .ok (.invokevirtual 66, 3) := by decide +kernel
theorem dX5_worst_29 : decode cX5_worst 29 = .ok (.ireturn, 1) := by decide +kernel
theorem dX5_worst_30 : decode cX5_worst 30 = .ok (.aload_n 0, 1) := by decide +kernel
theorem dX5_worst_31 : decode cX5_worst 31 = .ok (.invokevirtual 153, 3) := by decide +kernel
theorem dX5_worst_34 : decode cX5_worst 34 = .ok (.aload_n 0, 1) := by decide +kernel
theorem dX5_worst_35 : decode cX5_worst 35 = .ok (.iload_n 1, 1) := by decide +kernel
theorem dX5_worst_36 : decode cX5_worst 36 = .ok (.invokevirtual 148, 3) := by decide +kernel
theorem dX5_worst_39 : decode cX5_worst 39 = .ok (.iconst 0, 1) := by decide +kernel
theorem dX5_worst_40 : decode cX5_worst 40 = .ok (.istore_n 2, 1) := by decide +kernel
theorem dX5_worst_41 : decode cX5_worst 41 = .ok (.iconst 1, 1) := by decide +kernel
theorem dX5_worst_42 : decode cX5_worst 42 = .ok (.istore_n 3, 1) := by decide +kernel
theorem dX5_worst_43 : decode cX5_worst 43 = .ok (.iload_n 3, 1) := by decide +kernel
theorem dX5_worst_44 : decode cX5_worst 44 = .ok (.aload_n 0, 1) := by decide +kernel
theorem dX5_worst_45 : decode cX5_worst 45 = .ok (.getfield 7, 3) := by decide +kernel
theorem dX5_worst_48 : decode cX5_worst 48 = .ok (.iconst 1, 1) := by decide +kernel
theorem dX5_worst_49 : decode cX5_worst 49 = .ok (.iaload, 1) := by decide +kernel
theorem dX5_worst_50 : decode cX5_worst 50 = .ok (.if_icmp .ge 30, 3) := by decide +kernel
theorem dX5_worst_53 : decode cX5_worst 53 = .ok (.aload_n 0, 1) := by decide +kernel
theorem dX5_worst_54 : decode cX5_worst 54 = .ok (.iload_n 3, 1) := by decide +kernel
theorem dX5_worst_55 : decode cX5_worst 55 = .ok (.iconst 2, 1) := by decide +kernel
theorem dX5_worst_56 : decode cX5_worst 56 = .ok (.invokevirtual 54, 3) := by decide +kernel
theorem dX5_worst_59 : decode cX5_worst 59 = .ok (.aload_n 0, 1) := by decide +kernel
theorem dX5_worst_60 : decode cX5_worst 60 = .ok (.iload_n 2, 1) := by decide +kernel
theorem dX5_worst_61 : decode cX5_worst 61 = .ok (.iconst 2, 1) := by decide +kernel
theorem dX5_worst_62 : decode cX5_worst 62 = .ok (.invokevirtual 54, 3) := by decide +kernel
theorem dX5_worst_65 : decode cX5_worst 65 = .ok (.if_icmp .le 7, 3) := by decide +kernel
theorem dX5_worst_68 : decode cX5_worst 68 = .ok (.iload_n 3, 1) := by decide +kernel
theorem dX5_worst_69 : decode cX5_worst 69 = .ok (.goto 4, 3) := by decide +kernel
theorem dX5_worst_72 : decode cX5_worst 72 = .ok (.iload_n 2, 1) := by decide +kernel
theorem dX5_worst_73 : decode cX5_worst 73 = .ok (.istore_n 2, 1) := by decide +kernel
theorem dX5_worst_74 : decode cX5_worst 74 = .ok (.iinc 3 1, 3) := by decide +kernel
theorem dX5_worst_77 : decode cX5_worst 77 = .ok (.goto (-34), 3) := by decide +kernel
theorem dX5_worst_80 : decode cX5_worst 80 = .ok (.aload_n 0, 1) := by decide +kernel
theorem dX5_worst_81 : decode cX5_worst 81 = .ok (.iload_n 2, 1) := by decide +kernel
theorem dX5_worst_82 : decode cX5_worst 82 = .ok (.invokevirtual 156, 3) := by decide +kernel
theorem dX5_worst_85 : decode cX5_worst 85 = .ok (.ireturn, 1) := by decide +kernel
theorem dX5_feed_0 : decode cX5_feed 0 = .ok (.iload_n 2, 1) := by decide +kernel
theorem dX5_feed_1 : decode cX5_feed 1 = .ok (.i2l, 1) := by decide +kernel
theorem dX5_feed_2 : decode cX5_feed 2 = .ok (.lconst 1, 1) := by decide +kernel
theorem dX5_feed_3 : decode cX5_feed 3 = .ok (.ldc2_w 119, 3) := by decide +kernel
theorem dX5_feed_6 : decode cX5_feed 6 = .ok (.invokestatic 46, 3) := by decide +kernel
theorem dX5_feed_9 : decode cX5_feed 9 = .ok (.ifCond .ne 10, 3) := by decide +kernel
theorem dX5_feed_12 : decode cX5_feed 12 = .ok (.aload_n 0, 1) := by decide +kernel
theorem dX5_feed_13 : decode cX5_feed 13 = .ok (.ldc 41, 2) := by decide +kernel
theorem dX5_feed_15 : decode cX5_feed 15 = .ok (.invokevirtual 66, 3) := by decide +kernel
theorem dX5_feed_18 : decode cX5_feed 18 = .ok (.ireturn, 1) := by decide +kernel
theorem dX5_feed_19 : decode cX5_feed 19 = .ok (.aload_n 0, 1) := by decide +kernel
theorem dX5_feed_20 : decode cX5_feed 20 = .ok (.getfield 183, 3) := by decide +kernel
theorem dX5_feed_23 : decode cX5_feed 23 = .ok (.iload_n 2, 1) := by decide +kernel
theorem dX5_feed_24 : decode cX5_feed 24 = .ok (.iadd, 1) := by decide +kernel
theorem dX5_feed_25 : decode cX5_feed 25 = .ok (.bipush 120, 2) := by decide +kernel
theorem dX5_feed_27 : decode cX5_feed 27 = .ok (.if_icmp .le 10, 3) := by decide +kernel
theorem dX5_feed_30 : decode cX5_feed 30 = .ok (.aload_n 0, 1) := by decide +kernel
theorem dX5_feed_31 : decode cX5_feed 31 = .ok (.ldc 110, 2) := by decide +kernel
theorem dX5_feed_33 : decode cX5_feed 33 = .ok (.invokevirtual 66, 3) := by decide +kernel
theorem dX5_feed_36 : decode cX5_feed 36 = .ok (.ireturn, 1) := by decide +kernel
theorem dX5_feed_37 : decode cX5_feed 37 = .ok (.iload_n 2, 1) := by decide +kernel
theorem dX5_feed_38 : decode cX5_feed 38 = .ok (.iconst 1, 1) := by decide +kernel
theorem dX5_feed_39 : decode cX5_feed 39 = .ok (.isub, 1) := by decide +kernel
theorem dX5_feed_40 : decode cX5_feed 40 = .ok (.istore_n 3, 1) := by decide +kernel
theorem dX5_feed_41 : decode cX5_feed 41 = .ok (.iload_n 3, 1) := by decide +kernel
theorem dX5_feed_42 : decode cX5_feed 42 = .ok (.ifCond .lt 38, 3) := by decide +kernel
theorem dX5_feed_45 : decode cX5_feed 45 = .ok (.aload_n 0, 1) := by decide +kernel
theorem dX5_feed_46 : decode cX5_feed 46 = .ok (.getfield 25, 3) := by decide +kernel
theorem dX5_feed_49 : decode cX5_feed 49 = .ok (.aload_n 0, 1) := by decide +kernel
theorem dX5_feed_50 : decode cX5_feed 50 = .ok (.getfield 183, 3) := by decide +kernel
theorem dX5_feed_53 : decode cX5_feed 53 = .ok (.iload_n 1, 1) := by decide +kernel
theorem dX5_feed_54 : decode cX5_feed 54 = .ok (.bipush 8, 2) := by decide +kernel
theorem dX5_feed_56 : decode cX5_feed 56 = .ok (.iload_n 3, 1) := by decide +kernel
theorem dX5_feed_57 : decode cX5_feed 57 = .ok (.imul, 1) := by decide +kernel
theorem dX5_feed_58 : decode cX5_feed 58 = .ok (.ishr, 1) := by decide +kernel
theorem dX5_feed_59 : decode cX5_feed 59 = .ok (.sipush 255, 3) := by decide +kernel
theorem dX5_feed_62 : decode cX5_feed 62 = .ok (.iand, 1) := by decide +kernel
theorem dX5_feed_63 : decode cX5_feed 63 = .ok (.iastore, 1) := by decide +kernel
theorem dX5_feed_64 : decode cX5_feed 64 = .ok (.aload_n 0, 1) := by decide +kernel
theorem dX5_feed_65 : decode cX5_feed 65 = .ok (.dup, 1) := by decide +kernel
theorem dX5_feed_66 : decode cX5_feed 66 = .ok (.getfield 183, 3) := by decide +kernel
theorem dX5_feed_69 : decode cX5_feed 69 = .ok (.iconst 1, 1) := by decide +kernel
theorem dX5_feed_70 : decode cX5_feed 70 = .ok (.iadd, 1) := by decide +kernel
theorem dX5_feed_71 : decode cX5_feed 71 = .ok (.putfield 183, 3) := by decide +kernel
theorem dX5_feed_74 : decode cX5_feed 74 = .ok (.iinc 3 (-1), 3) := by decide +kernel
theorem dX5_feed_77 : decode cX5_feed 77 = .ok (.goto (-36), 3) := by decide +kernel
theorem dX5_feed_80 : decode cX5_feed 80 = .ok (.aload_n 0, 1) := by decide +kernel
theorem dX5_feed_81 : decode cX5_feed 81 = .ok (.getfield 183, 3) := by decide +kernel
theorem dX5_feed_84 : decode cX5_feed 84 = .ok (.ireturn, 1) := by decide +kernel
theorem dX5_wipe_0 : decode cX5_wipe 0 = .ok (.aload_n 0, 1) := by decide +kernel
theorem dX5_wipe_1 : decode cX5_wipe 1 = .ok (.getfield 183, 3) := by decide +kernel
theorem dX5_wipe_4 : decode cX5_wipe 4 = .ok (.istore_n 1, 1) := by decide +kernel
theorem dX5_wipe_5 : decode cX5_wipe 5 = .ok (.aload_n 0, 1) := by decide +kernel
theorem dX5_wipe_6 : decode cX5_wipe 6 = .ok (.iconst 0, 1) := by decide +kernel
theorem dX5_wipe_7 : decode cX5_wipe 7 = .ok (.putfield 183, 3) := by decide +kernel
theorem dX5_wipe_10 : decode cX5_wipe 10 = .ok (.iload_n 1, 1) := by decide +kernel
theorem dX5_wipe_11 : decode cX5_wipe 11 = .ok (.ireturn, 1) := by decide +kernel
theorem dX5_byteAt_0 : decode cX5_byteAt 0 = .ok (.iload_n 1, 1) := by decide +kernel
theorem dX5_byteAt_1 : decode cX5_byteAt 1 = .ok (.aload_n 0, 1) := by decide +kernel
theorem dX5_byteAt_2 : decode cX5_byteAt 2 = .ok (.getfield 183, 3) := by decide +kernel
theorem dX5_byteAt_5 : decode cX5_byteAt 5 = .ok (.if_icmp .ge 12, 3) := by decide +kernel
theorem dX5_byteAt_8 : decode cX5_byteAt 8 = .ok (.aload_n 0, 1) := by decide +kernel
theorem dX5_byteAt_9 : decode cX5_byteAt 9 = .ok (.getfield 25, 3) := by decide +kernel
theorem dX5_byteAt_12 : decode cX5_byteAt 12 = .ok (.iload_n 1, 1) := by decide +kernel
theorem dX5_byteAt_13 : decode cX5_byteAt 13 = .ok (.iaload, 1) := by decide +kernel
theorem dX5_byteAt_14 : decode cX5_byteAt 14 = .ok (.goto 4, 3) := by decide +kernel
theorem dX5_byteAt_17 : decode cX5_byteAt 17 = .ok (.iconst (-1), 1) := by decide +kernel
theorem dX5_byteAt_18 : decode cX5_byteAt 18 = .ok (.ireturn, 1) := by decide +kernel
theorem dX5_isLetter_0 : decode cX5_isLetter 0 = .ok (.iload_n 0, 1) := by decide +kernel
theorem dX5_isLetter_1 : decode cX5_isLetter 1 = .ok (.i2l, 1) := by decide +kernel
theorem dX5_isLetter_2 : decode cX5_isLetter 2 = .ok (.ldc2_w 186, 3) := by decide +kernel
theorem dX5_isLetter_5 : decode cX5_isLetter 5 = .ok (.ldc2_w 188, 3) := by decide +kernel
theorem dX5_isLetter_8 : decode cX5_isLetter 8 = .ok (.invokestatic 46, 3) := by decide +kernel
theorem dX5_isLetter_11 : decode cX5_isLetter 11 = .ok (.ireturn, 1) := by decide +kernel
theorem dX5_isDigit_0 : decode cX5_isDigit 0 = .ok (.iload_n 0, 1) := by decide +kernel
theorem dX5_isDigit_1 : decode cX5_isDigit 1 = .ok (.i2l, 1) := by decide +kernel
theorem dX5_isDigit_2 : decode cX5_isDigit 2 = .ok (.ldc2_w 190, 3) := by decide +kernel
theorem dX5_isDigit_5 : decode cX5_isDigit 5 = .ok (.ldc2_w 192, 3) := by decide +kernel
theorem dX5_isDigit_8 : decode cX5_isDigit 8 = .ok (.invokestatic 46, 3) := by decide +kernel
theorem dX5_isDigit_11 : decode cX5_isDigit 11 = .ok (.ireturn, 1) := by decide +kernel
theorem dX5_token_0 : decode cX5_token 0 = .ok (.aload_n 0, 1) := by decide +kernel
theorem dX5_token_1 : decode cX5_token 1 = .ok (.aload_n 0, 1) := by decide +kernel
theorem dX5_token_2 : decode cX5_token 2 = .ok (.getfield 194, 3) := by decide +kernel
theorem dX5_token_5 : decode cX5_token 5 = .ok (.putfield 197, 3) := by decide +kernel
theorem dX5_token_8 : decode cX5_token 8 = .ok (.aload_n 0, 1) := by decide +kernel
theorem dX5_token_9 : decode cX5_token 9 = .ok (.aload_n 0, 1) := by decide +kernel
theorem dX5_token_10 : decode cX5_token 10 = .ok (.getfield 197, 3) := by decide +kernel
theorem dX5_token_13 : decode cX5_token 13 = .ok (.invokevirtual 200, 3) := by decide +kernel
theorem dX5_token_16 : decode cX5_token 16 = .ok (.bipush 32, 2) := by decide +kernel
theorem dX5_token_18 : decode cX5_token 18 = .ok (.if_icmp .ne 16, 3) := by decide +kernel
theorem dX5_token_21 : decode cX5_token 21 = .ok (.aload_n 0, 1) := by decide +kernel
theorem dX5_token_22 : decode cX5_token 22 = .ok (.dup, 1) := by decide +kernel
theorem dX5_token_23 : decode cX5_token 23 = .ok (.getfield 197, 3) := by decide +kernel
theorem dX5_token_26 : decode cX5_token 26 = .ok (.iconst 1, 1) := by decide +kernel
theorem dX5_token_27 : decode cX5_token 27 = .ok (.iadd, 1) := by decide +kernel
theorem dX5_token_28 : decode cX5_token 28 = .ok (.putfield 197, 3) := by decide +kernel
theorem dX5_token_31 : decode cX5_token 31 = .ok (.goto (-23), 3) := by decide +kernel
theorem dX5_token_34 : decode cX5_token 34 = .ok (.aload_n 0, 1) := by decide +kernel
theorem dX5_token_35 : decode cX5_token 35 = .ok (.aload_n 0, 1) := by decide +kernel
theorem dX5_token_36 : decode cX5_token 36 = .ok (.getfield 197, 3) := by decide +kernel
theorem dX5_token_39 : decode cX5_token 39 = .ok (.invokevirtual 200, 3) := by decide +kernel
theorem dX5_token_42 : decode cX5_token 42 = .ok (.invokestatic 203, 3) := by decide +kernel
theorem dX5_token_45 : decode cX5_token 45 = .ok (.istore_n 1, 1) := by decide +kernel
theorem dX5_token_46 : decode cX5_token 46 = .ok (.aload_n 0, 1) := by decide +kernel
theorem dX5_token_47 : decode cX5_token 47 = .ok (.aload_n 0, 1) := by decide +kernel
theorem dX5_token_48 : decode cX5_token 48 = .ok (.getfield 197, 3) := by decide +kernel
theorem dX5_token_51 : decode cX5_token 51 = .ok (.invokevirtual 200, 3) := by decide +kernel
theorem dX5_token_54 : decode cX5_token 54 = .ok (.invokestatic 206, 3) := by decide +kernel
theorem dX5_token_57 : decode cX5_token 57 = .ok (.istore_n 2, 1) := by decide +kernel
theorem dX5_token_58 : decode cX5_token 58 = .ok (.aload_n 0, 1) := by decide +kernel
theorem dX5_token_59 : decode cX5_token 59 = .ok (.aload_n 0, 1) := by decide +kernel
theorem dX5_token_60 : decode cX5_token 60 = .ok (.getfield 197, 3) := by decide +kernel
theorem dX5_token_63 : decode cX5_token 63 = .ok (.aload_n 0, 1) := by decide +kernel
theorem dX5_token_64 : decode cX5_token 64 = .ok (.getfield 183, 3) := by decide +kernel
theorem dX5_token_67 : decode cX5_token 67 = .ok (.if_icmp .ge 12, 3) := by decide +kernel
theorem dX5_token_70 : decode cX5_token 70 = .ok (.aload_n 0, 1) := by decide +kernel
theorem dX5_token_71 : decode cX5_token 71 = .ok (.getfield 197, 3) := by decide +kernel
theorem dX5_token_74 : decode cX5_token 74 = .ok (.iconst 1, 1) := by decide +kernel
theorem dX5_token_75 : decode cX5_token 75 = .ok (.iadd, 1) := by decide +kernel
theorem dX5_token_76 : decode cX5_token 76 = .ok (.goto 7, 3) := by decide +kernel
theorem dX5_token_79 : decode cX5_token 79 = .ok (.aload_n 0, 1) := by decide +kernel
theorem dX5_token_80 : decode cX5_token 80 = .ok (.getfield 197, 3) := by decide +kernel
theorem dX5_token_83 : decode cX5_token 83 = .ok (.putfield 194, 3) := by decide +kernel
theorem dX5_token_86 : decode cX5_token 86 = .ok (.iload_n 1, 1) := by decide +kernel
theorem dX5_token_87 : decode cX5_token 87 = .ok (.ifCond .eq 17, 3) := by decide +kernel
theorem dX5_token_90 : decode cX5_token 90 = .ok (.aload_n 0, 1) := by decide +kernel
theorem dX5_token_91 : decode cX5_token 91 = .ok (.aload_n 0, 1) := by decide +kernel
theorem dX5_token_92 : decode cX5_token 92 = .ok (.getfield 194, 3) := by decide +kernel
theorem dX5_token_95 : decode cX5_token 95 = .ok (.invokevirtual 200, 3) := by decide +kernel
theorem dX5_token_98 : decode cX5_token 98 = .ok (.invokestatic 203, 3) := by decide +kernel
theorem dX5_token_101 : decode cX5_token 101 = .ok (.ifCond .ne 21, 3) := by decide +kernel
theorem dX5_token_104 : decode cX5_token 104 = .ok (.iload_n 2, 1) := by decide +kernel
theorem dX5_token_105 : decode cX5_token 105 = .ok (.ifCond .eq 30, 3) := by decide +kernel
theorem dX5_token_108 : decode cX5_token 108 = .ok (.aload_n 0, 1) := by decide +kernel
theorem dX5_token_109 : decode cX5_token 109 = .ok (.aload_n 0, 1) := by decide +kernel
theorem dX5_token_110 : decode cX5_token 110 = .ok (.getfield 194, 3) := by decide +kernel
theorem dX5_token_113 : decode cX5_token 113 = .ok (.invokevirtual 200, 3) := by decide +kernel
theorem dX5_token_116 : decode cX5_token 116 = .ok (.invokestatic 206, 3) := by decide +kernel
theorem dX5_token_119 : decode cX5_token 119 = .ok (.ifCond .eq 16, 3) := by decide +kernel
theorem dX5_token_122 : decode cX5_token 122 = .ok (.aload_n 0, 1) := by decide +kernel
theorem dX5_token_123 : decode cX5_token 123 = .ok (.dup, 1) := by decide +kernel
theorem dX5_token_124 : decode cX5_token 124 = .ok (.getfield 194, 3) := by decide +kernel
theorem dX5_token_127 : decode cX5_token 127 = .ok (.iconst 1, 1) := by decide +kernel
theorem dX5_token_128 : decode cX5_token 128 = .ok (.iadd, 1) := by decide +kernel
theorem dX5_token_129 : decode cX5_token 129 = .ok (.putfield 194, 3) := by decide +kernel
theorem dX5_token_132 : decode cX5_token 132 = .ok (.goto (-46), 3) := by decide +kernel
theorem dX5_token_135 : decode cX5_token 135 = .ok (.return_, 1) := by decide +kernel
theorem dX5_must_0 : decode cX5_must 0 = .ok (.aload_n 0, 1) := by decide +kernel
theorem dX5_must_1 : decode cX5_must 1 = .ok (.aload_n 0, 1) := by decide +kernel
theorem dX5_must_2 : decode cX5_must 2 = .ok (.getfield 209, 3) := by decide +kernel
theorem dX5_must_5 : decode cX5_must 5 = .ok (.ifCond .ne 7, 3) := by decide +kernel
theorem dX5_must_8 : decode cX5_must 8 = .ok (.iload_n 1, 1) := by decide +kernel
theorem dX5_must_9 : decode cX5_must 9 = .ok (.ifCond .ne 7, 3) := by decide +kernel
theorem dX5_must_12 : decode cX5_must 12 = .ok (.iconst 1, 1) := by decide +kernel
theorem dX5_must_13 : decode cX5_must 13 = .ok (.goto 4, 3) := by decide +kernel
theorem dX5_must_16 : decode cX5_must 16 = .ok (.iconst 0, 1) := by decide +kernel
theorem dX5_must_17 : decode cX5_must 17 = .ok (.putfield 209, 3) := by decide +kernel
theorem dX5_must_20 : decode cX5_must 20 = .ok (.aload_n 0, 1) := by decide +kernel
theorem dX5_must_21 : decode cX5_must 21 = .ok (.getfield 209, 3) := by decide +kernel
theorem dX5_must_24 : decode cX5_must 24 = .ok (.ifCond .ne 7, 3) := by decide +kernel
theorem dX5_must_27 : decode cX5_must 27 = .ok (.aload_n 0, 1) := by decide +kernel
theorem dX5_must_28 : decode cX5_must 28 = .ok (.invokevirtual 213, 3) := by decide +kernel
theorem dX5_must_31 : decode cX5_must 31 = .ok (.return_, 1) := by decide +kernel
theorem dX5_word_0 : decode cX5_word 0 = .ok (.lconst 0, 1) := by decide +kernel
theorem dX5_word_1 : decode cX5_word 1 = .ok (.lstore_n 1, 1) := by decide +kernel
theorem dX5_word_2 : decode cX5_word 2 = .ok (.aload_n 0, 1) := by decide +kernel
theorem dX5_word_3 : decode cX5_word 3 = .ok (.getfield 197, 3) := by decide +kernel
theorem dX5_word_6 : decode cX5_word 6 = .ok (.istore_n 3, 1) := by decide +kernel
theorem dX5_word_7 : decode cX5_word 7 = .ok (.iload_n 3, 1) := by decide +kernel
theorem dX5_word_8 : decode cX5_word 8 = .ok (.aload_n 0, 1) := by decide +kernel
theorem dX5_word_9 : decode cX5_word 9 = .ok (.getfield 194, 3) := by decide +kernel
theorem dX5_word_12 : decode cX5_word 12 = .ok (.if_icmp .ge 38, 3) := by decide +kernel
theorem dX5_word_15 : decode cX5_word 15 = .ok (.lload_n 1, 1) := by decide +kernel
theorem dX5_word_16 : decode cX5_word 16 = .ok (.ldc2_w 216, 3) := by decide +kernel
theorem dX5_word_19 : decode cX5_word 19 = .ok (.lcmp, 1) := by decide +kernel
theorem dX5_word_20 : decode cX5_word 20 = .ok (.ifCond .le 7, 3) := by decide +kernel
theorem dX5_word_23 : decode cX5_word 23 = .ok (.lload_n 1, 1) := by decide +kernel
theorem dX5_word_24 : decode cX5_word 24 = .ok (.goto 19, 3) := by decide +kernel
theorem dX5_word_27 : decode cX5_word 27 = .ok (.ldc2_w 218, 3) := by decide +kernel
theorem dX5_word_30 : decode cX5_word 30 = .ok (.lload_n 1, 1) := by decide +kernel
theorem dX5_word_31 : decode cX5_word 31 = .ok (.lmul, 1) := by decide +kernel
theorem dX5_word_32 : decode cX5_word 32 = .ok (.aload_n 0, 1) := by decide +kernel
theorem dX5_word_33 : decode cX5_word 33 = .ok (.getfield 25, 3) := by decide +kernel
theorem dX5_word_36 : decode cX5_word 36 = .ok (.iload_n 3, 1) := by decide +kernel
theorem dX5_word_37 : decode cX5_word 37 = .ok (.iaload, 1) := by decide +kernel
theorem dX5_word_38 : decode cX5_word 38 = .ok (.bipush 96, 2) := by decide +kernel
theorem dX5_word_40 : decode cX5_word 40 = .ok (.isub, 1) := by decide +kernel
theorem dX5_word_41 : decode cX5_word 41 = .ok (.i2l, 1) := by decide +kernel
theorem dX5_word_42 : decode cX5_word 42 = .ok (.ladd, 1) := by decide +kernel
theorem dX5_word_43 : decode cX5_word 43 = .ok (.lstore_n 1, 1) := by decide +kernel
theorem dX5_word_44 : decode cX5_word 44 = .ok (.iinc 3 1, 3) := by decide +kernel
theorem dX5_word_47 : decode cX5_word 47 = .ok (.goto (-40), 3) := by decide +kernel
theorem dX5_word_50 : decode cX5_word 50 = .ok (.aload_n 0, 1) := by decide +kernel
theorem dX5_word_51 : decode cX5_word 51 = .ok (.getfield 209, 3) := by decide +kernel
theorem dX5_word_54 : decode cX5_word 54 = .ok (.ifCond .ne 17, 3) := by decide +kernel
theorem dX5_word_57 : decode cX5_word 57 = .ok (.aload_n 0, 1) := by decide +kernel
theorem dX5_word_58 : decode cX5_word 58 = .ok (.aload_n 0, 1) := by decide +kernel
theorem dX5_word_59 : decode cX5_word 59 = .ok (.getfield 197, 3) := by decide +kernel
theorem dX5_word_62 : decode cX5_word 62 = .ok (.invokevirtual 200, 3) := by decide +kernel
theorem dX5_word_65 : decode cX5_word 65 = .ok (.invokestatic 203, 3) := by decide +kernel
theorem dX5_word_68 : decode cX5_word 68 = .ok (.ifCond .ne 7, 3) := by decide +kernel
theorem dX5_word_71 : decode cX5_word 71 = .ok (.lconst 0, 1) := by decide +kernel
theorem dX5_word_72 : decode cX5_word 72 = .ok (.goto 4, 3) := by decide +kernel
theorem dX5_word_75 : decode cX5_word 75 = .ok (.lload_n 1, 1) := by decide +kernel
theorem dX5_word_76 : decode cX5_word 76 = .ok (.lreturn, 1) := by decide +kernel
theorem dX5_number_0 : decode cX5_number 0 = .ok (.aload_n 0, 1) := by decide +kernel
theorem dX5_number_1 : decode cX5_number 1 = .ok (.getfield 209, 3) := by decide +kernel
theorem dX5_number_4 : decode cX5_number 4 = .ok (.ifCond .eq 4, 3) := by decide +kernel
theorem dX5_number_7 : decode cX5_number 7 = .ok (.return_, 1) := by decide +kernel
theorem dX5_number_8 : decode cX5_number 8 = .ok (.aload_n 0, 1) := by decide +kernel
theorem dX5_number_9 : decode cX5_number 9 = .ok (.aload_n 0, 1) := by decide +kernel
theorem dX5_number_10 : decode cX5_number 10 = .ok (.getfield 197, 3) := by decide +kernel
theorem dX5_number_13 : decode cX5_number 13 = .ok (.invokevirtual 200, 3) := by decide +kernel
theorem dX5_number_16 : decode cX5_number 16 = .ok (.invokestatic 206, 3) := by decide +kernel
theorem dX5_number_19 : decode cX5_number 19 = .ok (.istore_n 3, 1) := by decide +kernel
theorem dX5_number_20 : decode cX5_number 20 = .ok (.iconst 0, 1) := by decide +kernel
theorem dX5_number_21 : decode cX5_number 21 = .ok (.istore 4, 2) := by decide +kernel
theorem dX5_number_23 : decode cX5_number 23 = .ok (.aload_n 0, 1) := by decide +kernel
theorem dX5_number_24 : decode cX5_number 24 = .ok (.getfield 197, 3) := by decide +kernel
theorem dX5_number_27 : decode cX5_number 27 = .ok (.istore 5, 2) := by decide +kernel
theorem dX5_number_29 : decode cX5_number 29 = .ok (.iload 5, 2) := by decide +kernel
theorem dX5_number_31 : decode cX5_number 31 = .ok (.aload_n 0, 1) := by decide +kernel
theorem dX5_number_32 : decode cX5_number 32 = .ok (.getfield 194, 3) := by decide +kernel
theorem dX5_number_35 : decode cX5_number 35 = .ok (.if_icmp .ge 44, 3) := by decide +kernel
theorem dX5_number_38 : decode cX5_number 38 = .ok (.iload_n 3, 1) := by decide +kernel
theorem dX5_number_39 : decode cX5_number 39 = .ok (.ifCond .eq 40, 3) := by decide +kernel
theorem dX5_number_42 : decode cX5_number 42 = .ok (.iload 4, 2) := by decide +kernel
theorem dX5_number_44 : decode cX5_number 44 = .ok (.sipush 999, 3) := by decide +kernel
theorem dX5_number_47 : decode cX5_number 47 = .ok (.if_icmp .le 8, 3) := by decide +kernel
theorem dX5_number_50 : decode cX5_number 50 = .ok (.iload 4, 2) := by decide +kernel
theorem dX5_number_52 : decode cX5_number 52 = .ok (.goto 19, 3) := by decide +kernel
theorem dX5_number_55 : decode cX5_number 55 = .ok (.bipush 10, 2) := by decide +kernel
theorem dX5_number_57 : decode cX5_number 57 = .ok (.iload 4, 2) := by decide +kernel
theorem dX5_number_59 : decode cX5_number 59 = .ok (.imul, 1) := by decide +kernel
theorem dX5_number_60 : decode cX5_number 60 = .ok (.aload_n 0, 1) := by decide +kernel
theorem dX5_number_61 : decode cX5_number 61 = .ok (.getfield 25, 3) := by decide +kernel
theorem dX5_number_64 : decode cX5_number 64 = .ok (.iload 5, 2) := by decide +kernel
theorem dX5_number_66 : decode cX5_number 66 = .ok (.iaload, 1) := by decide +kernel
theorem dX5_number_67 : decode cX5_number 67 = .ok (.iadd, 1) := by decide +kernel
theorem dX5_number_68 : decode cX5_number 68 = .ok (.bipush 48, 2) := by decide +kernel
theorem dX5_number_70 : decode cX5_number 70 = .ok (.isub, 1) := by decide +kernel
theorem dX5_number_71 : decode cX5_number 71 = .ok (.istore 4, 2) := by decide +kernel
theorem dX5_number_73 : decode cX5_number 73 = .ok (.iinc 5 1, 3) := by decide +kernel
theorem dX5_number_76 : decode cX5_number 76 = .ok (.goto (-47), 3) := by decide +kernel
theorem dX5_number_79 : decode cX5_number 79 = .ok (.aload_n 0, 1) := by decide +kernel
theorem dX5_number_80 : decode cX5_number 80 = .ok (.iload 4, 2) := by decide +kernel
theorem dX5_number_82 : decode cX5_number 82 = .ok (.putfield 220, 3) := by decide +kernel
theorem dX5_number_85 : decode cX5_number 85 = .ok (.aload_n 0, 1) := by decide +kernel
theorem dX5_number_86 : decode cX5_number 86 = .ok (.iload_n 3, 1) := by decide +kernel
theorem dX5_number_87 : decode cX5_number 87 = .ok (.ifCond .eq 20, 3) := by decide +kernel
theorem dX5_number_90 : decode cX5_number 90 = .ok (.iload 4, 2) := by decide +kernel
theorem dX5_number_92 : decode cX5_number 92 = .ok (.i2l, 1) := by decide +kernel
theorem dX5_number_93 : decode cX5_number 93 = .ok (.iload_n 1, 1) := by decide +kernel
theorem dX5_number_94 : decode cX5_number 94 = .ok (.i2l, 1) := by decide +kernel
theorem dX5_number_95 : decode cX5_number 95 = .ok (.iload_n 2, 1) := by decide +kernel
theorem dX5_number_96 : decode cX5_number 96 = .ok (.i2l, 1) := by decide +kernel
theorem dX5_number_97 : decode cX5_number 97 = .ok (.invokestatic 46, 3) := by decide +kernel
theorem dX5_number_100 : decode cX5_number 100 = .ok (.ifCond .eq 7, 3) := by decide +kernel
theorem dX5_number_103 : decode cX5_number 103 = .ok (.iconst 1, 1) := by decide +kernel
theorem dX5_number_104 : decode cX5_number 104 = .ok (.goto 4, 3) := by decide +kernel
theorem dX5_number_107 : decode cX5_number 107 = .ok (.iconst 0, 1) := by decide +kernel
theorem dX5_number_108 : decode cX5_number 108 = .ok (.invokevirtual 223, 3) := by decide +kernel
theorem dX5_number_111 : decode cX5_number 111 = .ok (.return_, 1) := by decide +kernel
theorem dX5_kindHere_0 : decode cX5_kindHere 0 = .ok (.aload_n 0, 1) := by decide +kernel
theorem dX5_kindHere_1 : decode cX5_kindHere 1 = .ok (.invokevirtual 227, 3) := by decide +kernel
theorem dX5_kindHere_4 : decode cX5_kindHere 4 = .ok (.lstore_n 1, 1) := by decide +kernel
theorem dX5_kindHere_5 : decode cX5_kindHere 5 = .ok (.lload_n 1, 1) := by decide +kernel
theorem dX5_kindHere_6 : decode cX5_kindHere 6 = .ok (.ldc2_w 231, 3) := by decide +kernel
theorem dX5_kindHere_9 : decode cX5_kindHere 9 = .ok (.lcmp, 1) := by decide +kernel
theorem dX5_kindHere_10 : decode cX5_kindHere 10 = .ok (.ifCond .ne 7, 3) := by decide +kernel
theorem dX5_kindHere_13 : decode cX5_kindHere 13 = .ok (.iconst 0, 1) := by decide +kernel
theorem dX5_kindHere_14 : decode cX5_kindHere 14 = .ok (.goto 64, 3) := by decide +kernel
theorem dX5_kindHere_17 : decode cX5_kindHere 17 = .ok (.lload_n 1, 1) := by decide +kernel
theorem dX5_kindHere_18 : decode cX5_kindHere 18 = .ok (.ldc2_w 233, 3) := by decide +kernel
theorem dX5_kindHere_21 : decode cX5_kindHere 21 = .ok (.lcmp, 1) := by decide +kernel
theorem dX5_kindHere_22 : decode cX5_kindHere 22 = .ok (.ifCond .ne 7, 3) := by decide +kernel
theorem dX5_kindHere_25 : decode cX5_kindHere 25 = .ok (.iconst 1, 1) := by decide +kernel
theorem dX5_kindHere_26 : decode cX5_kindHere 26 = .ok (.goto 52, 3) := by decide +kernel
theorem dX5_kindHere_29 : decode cX5_kindHere 29 = .ok (.lload_n 1, 1) := by decide +kernel
theorem dX5_kindHere_30 : decode cX5_kindHere 30 = .ok (.ldc2_w 235, 3) := by decide +kernel
theorem dX5_kindHere_33 : decode cX5_kindHere 33 = .ok (.lcmp, 1) := by decide +kernel
theorem dX5_kindHere_34 : decode cX5_kindHere 34 = .ok (.ifCond .ne 7, 3) := by decide +kernel
theorem dX5_kindHere_37 : decode cX5_kindHere 37 = .ok (.iconst 2, 1) := by decide +kernel
theorem dX5_kindHere_38 : decode cX5_kindHere 38 = .ok (.goto 40, 3) := by decide +kernel
theorem dX5_kindHere_41 : decode cX5_kindHere 41 = .ok (.lload_n 1, 1) := by decide +kernel
theorem dX5_kindHere_42 : decode cX5_kindHere 42 = .ok (.ldc2_w 237, 3) := by decide +kernel
theorem dX5_kindHere_45 : decode cX5_kindHere 45 = .ok (.lcmp, 1) := by decide +kernel
theorem dX5_kindHere_46 : decode cX5_kindHere 46 = .ok (.ifCond .ne 7, 3) := by decide +kernel
theorem dX5_kindHere_49 : decode cX5_kindHere 49 = .ok (.iconst 3, 1) := by decide +kernel
theorem dX5_kindHere_50 : decode cX5_kindHere 50 = .ok (.goto 28, 3) := by decide +kernel
theorem dX5_kindHere_53 : decode cX5_kindHere 53 = .ok (.lload_n 1, 1) := by decide +kernel
theorem dX5_kindHere_54 : decode cX5_kindHere 54 = .ok (.ldc2_w 239, 3) := by decide +kernel
theorem dX5_kindHere_57 : decode cX5_kindHere 57 = .ok (.lcmp, 1) := by decide +kernel
theorem dX5_kindHere_58 : decode cX5_kindHere 58 = .ok (.ifCond .ne 7, 3) := by decide +kernel
theorem dX5_kindHere_61 : decode cX5_kindHere 61 = .ok (.iconst 4, 1) := by decide +kernel
theorem dX5_kindHere_62 : decode cX5_kindHere 62 = .ok (.goto 16, 3) := by decide +kernel
theorem dX5_kindHere_65 : decode cX5_kindHere 65 = .ok (.lload_n 1, 1) := by decide +kernel
theorem dX5_kindHere_66 : decode cX5_kindHere 66 = .ok (.ldc2_w 241, 3) := by decide +kernel
theorem dX5_kindHere_69 : decode cX5_kindHere 69 = .ok (.lcmp, 1) := by decide +kernel
theorem dX5_kindHere_70 : decode cX5_kindHere 70 = .ok (.ifCond .ne 7, 3) := by decide +kernel
theorem dX5_kindHere_73 : decode cX5_kindHere 73 = .ok (.iconst 5, 1) := by decide +kernel
theorem dX5_kindHere_74 : decode cX5_kindHere 74 = .ok (.goto 4, 3) := by decide +kernel
theorem dX5_kindHere_77 : decode cX5_kindHere 77 = .ok (.iconst (-1), 1) := by decide +kernel
theorem dX5_kindHere_78 : decode cX5_kindHere 78 = .ok (.ireturn, 1) := by decide +kernel
theorem dX5_walkerItem_0 : decode cX5_walkerItem 0 = .ok (.aload_n 0, 1) := by decide +kernel
theorem dX5_walkerItem_1 : decode cX5_walkerItem 1 = .ok (.aload_n 0, 1) := by decide +kernel
theorem dX5_walkerItem_2 : decode cX5_walkerItem 2 = .ok (.getfield 7, 3) := by decide +kernel
theorem dX5_walkerItem_5 : decode cX5_walkerItem 5 = .ok (.iconst 1, 1) := by decide +kernel
theorem dX5_walkerItem_6 : decode cX5_walkerItem 6 = .ok (.iaload, 1) := by decide +kernel
theorem dX5_walkerItem_7 : decode cX5_walkerItem 7 = .ok (.bipush 8, 2) := by decide +kernel
theorem dX5_walkerItem_9 : decode cX5_walkerItem 9 = .ok (.if_icmp .ge 7, 3) := by decide +kernel
theorem dX5_walkerItem_12 : decode cX5_walkerItem 12 = .ok (.iconst 1, 1) := by decide +kernel
theorem dX5_walkerItem_13 : decode cX5_walkerItem 13 = .ok (.goto 4, 3) := by decide +kernel
theorem dX5_walkerItem_16 : decode cX5_walkerItem 16 = .ok (.iconst 0, 1) := by decide +kernel
theorem dX5_walkerItem_17 : decode cX5_walkerItem 17 = .ok (.invokevirtual 223, 3) := by decide +kernel
theorem dX5_walkerItem_20 : decode cX5_walkerItem 20 = .ok (.aload_n 0, 1) := by decide +kernel
theorem dX5_walkerItem_21 : decode cX5_walkerItem 21 = .ok (.getfield 209, 3) := by decide +kernel
theorem dX5_walkerItem_24 : decode cX5_walkerItem 24 = .ok (.ifCond .eq 4, 3) := by decide +kernel
theorem dX5_walkerItem_27 : decode cX5_walkerItem 27 = .ok (.return_, 1) := by decide +kernel
theorem dX5_walkerItem_28 : decode cX5_walkerItem 28 = .ok (.aload_n 0, 1) := by decide +kernel
theorem dX5_walkerItem_29 : decode cX5_walkerItem 29 = .ok (.iload_n 1, 1) := by decide +kernel
theorem dX5_walkerItem_30 : decode cX5_walkerItem 30 = .ok (.invokevirtual 111, 3) := by decide +kernel
theorem dX5_walkerItem_33 : decode cX5_walkerItem 33 = .ok (.istore_n 2, 1) := by decide +kernel
theorem dX5_walkerItem_34 : decode cX5_walkerItem 34 = .ok (.aload_n 0, 1) := by decide +kernel
theorem dX5_walkerItem_35 : decode cX5_walkerItem 35 = .ok (.invokevirtual 227, 3) := by decide +kernel
theorem dX5_walkerItem_38 : decode cX5_walkerItem 38 = .ok (.ldc2_w 243, 3) := by decide +kernel
theorem dX5_walkerItem_41 : decode cX5_walkerItem 41 = .ok (.lcmp, 1) := by decide +kernel
theorem dX5_walkerItem_42 : decode cX5_walkerItem 42 = .ok (.ifCond .ne 29, 3) := by decide +kernel
theorem dX5_walkerItem_45 : decode cX5_walkerItem 45 = .ok (.aload_n 0, 1) := by decide +kernel
theorem dX5_walkerItem_46 : decode cX5_walkerItem 46 = .ok (.iconst 1, 1) := by decide +kernel
theorem dX5_walkerItem_47 : decode cX5_walkerItem 47 = .ok (.invokevirtual 223, 3) := by decide +kernel
theorem dX5_walkerItem_50 : decode cX5_walkerItem 50 = .ok (.aload_n 0, 1) := by decide +kernel
theorem dX5_walkerItem_51 : decode cX5_walkerItem 51 = .ok (.iconst 0, 1) := by decide +kernel
theorem dX5_walkerItem_52 : decode cX5_walkerItem 52 = .ok (.bipush 99, 2) := by decide +kernel
theorem dX5_walkerItem_54 : decode cX5_walkerItem 54 = .ok (.invokevirtual 245, 3) := by decide +kernel
theorem dX5_walkerItem_57 : decode cX5_walkerItem 57 = .ok (.aload_n 0, 1) := by decide +kernel
theorem dX5_walkerItem_58 : decode cX5_walkerItem 58 = .ok (.getfield 7, 3) := by decide +kernel
theorem dX5_walkerItem_61 : decode cX5_walkerItem 61 = .ok (.iload_n 2, 1) := by decide +kernel
theorem dX5_walkerItem_62 : decode cX5_walkerItem 62 = .ok (.iconst 3, 1) := by decide +kernel
theorem dX5_walkerItem_63 : decode cX5_walkerItem 63 = .ok (.invokestatic 42, 3) := by decide +kernel
theorem dX5_walkerItem_66 : decode cX5_walkerItem 66 = .ok (.aload_n 0, 1) := by decide +kernel
theorem dX5_walkerItem_67 : decode cX5_walkerItem 67 = .ok (.getfield 220, 3) := by decide +kernel
theorem dX5_walkerItem_70 : decode cX5_walkerItem 70 = .ok (.iastore, 1) := by decide +kernel
theorem dX5_walkerItem_71 : decode cX5_walkerItem 71 = .ok (.return_, 1) := by decide +kernel
theorem dX5_rootItem_0 : decode cX5_rootItem 0 = .ok (.aload_n 0, 1) := by decide +kernel
theorem dX5_rootItem_1 : decode cX5_rootItem 1 = .ok (.iconst 1, 1) := by decide +kernel
theorem dX5_rootItem_2 : decode cX5_rootItem 2 = .ok (.invokevirtual 223, 3) := by decide +kernel
theorem dX5_rootItem_5 : decode cX5_rootItem 5 = .ok (.aload_n 0, 1) := by decide +kernel
theorem dX5_rootItem_6 : decode cX5_rootItem 6 = .ok (.iconst 0, 1) := by decide +kernel
theorem dX5_rootItem_7 : decode cX5_rootItem 7 = .ok (.bipush 29, 2) := by decide +kernel
theorem dX5_rootItem_9 : decode cX5_rootItem 9 = .ok (.invokevirtual 245, 3) := by decide +kernel
theorem dX5_rootItem_12 : decode cX5_rootItem 12 = .ok (.iconst 1, 1) := by decide +kernel
theorem dX5_rootItem_13 : decode cX5_rootItem 13 = .ok (.aload_n 0, 1) := by decide +kernel
theorem dX5_rootItem_14 : decode cX5_rootItem 14 = .ok (.getfield 220, 3) := by decide +kernel
theorem dX5_rootItem_17 : decode cX5_rootItem 17 = .ok (.ishl, 1) := by decide +kernel
theorem dX5_rootItem_18 : decode cX5_rootItem 18 = .ok (.istore_n 2, 1) := by decide +kernel
theorem dX5_rootItem_19 : decode cX5_rootItem 19 = .ok (.aload_n 0, 1) := by decide +kernel
theorem dX5_rootItem_20 : decode cX5_rootItem 20 = .ok (.getfield 209, 3) := by decide +kernel
theorem dX5_rootItem_23 : decode cX5_rootItem 23 = .ok (.ifCond .ne 34, 3) := by decide +kernel
theorem dX5_rootItem_26 : decode cX5_rootItem 26 = .ok (.aload_n 0, 1) := by decide +kernel
theorem dX5_rootItem_27 : decode cX5_rootItem 27 = .ok (.getfield 7, 3) := by decide +kernel
theorem dX5_rootItem_30 : decode cX5_rootItem 30 = .ok (.iconst 2, 1) := by decide +kernel
theorem dX5_rootItem_31 : decode cX5_rootItem 31 = .ok (.iload_n 1, 1) := by decide +kernel
theorem dX5_rootItem_32 : decode cX5_rootItem 32 = .ok (.ifCond .eq 14, 3) := by decide +kernel
theorem dX5_rootItem_35 : decode cX5_rootItem 35 = .ok (.aload_n 0, 1) := by decide +kernel
theorem dX5_rootItem_36 : decode cX5_rootItem 36 = .ok (.getfield 7, 3) := by decide +kernel
theorem dX5_rootItem_39 : decode cX5_rootItem 39 = .ok (.iconst 2, 1) := by decide +kernel
theorem dX5_rootItem_40 : decode cX5_rootItem 40 = .ok (.iaload, 1) := by decide +kernel
theorem dX5_rootItem_41 : decode cX5_rootItem 41 = .ok (.iload_n 2, 1) := by decide +kernel
theorem dX5_rootItem_42 : decode cX5_rootItem 42 = .ok (.ior, 1) := by decide +kernel
theorem dX5_rootItem_43 : decode cX5_rootItem 43 = .ok (.goto 13, 3) := by decide +kernel
theorem dX5_rootItem_46 : decode cX5_rootItem 46 = .ok (.aload_n 0, 1) := by decide +kernel
theorem dX5_rootItem_47 : decode cX5_rootItem 47 = .ok (.getfield 7, 3) := by decide +kernel
theorem dX5_rootItem_50 : decode cX5_rootItem 50 = .ok (.iconst 2, 1) := by decide +kernel
theorem dX5_rootItem_51 : decode cX5_rootItem 51 = .ok (.iaload, 1) := by decide +kernel
theorem dX5_rootItem_52 : decode cX5_rootItem 52 = .ok (.iload_n 2, 1) := by decide +kernel
theorem dX5_rootItem_53 : decode cX5_rootItem 53 = .ok (.iconst (-1), 1) := by decide +kernel
theorem dX5_rootItem_54 : decode cX5_rootItem 54 = .ok (.ixor, 1) := by decide +kernel
theorem dX5_rootItem_55 : decode cX5_rootItem 55 = .ok (.iand, 1) := by decide +kernel
theorem dX5_rootItem_56 : decode cX5_rootItem 56 = .ok (.iastore, 1) := by decide +kernel
theorem dX5_rootItem_57 : decode cX5_rootItem 57 = .ok (.return_, 1) := by decide +kernel
theorem dX5_toldItem_0 : decode cX5_toldItem 0 = .ok (.aload_n 0, 1) := by decide +kernel
theorem dX5_toldItem_1 : decode cX5_toldItem 1 = .ok (.iconst 1, 1) := by decide +kernel
theorem dX5_toldItem_2 : decode cX5_toldItem 2 = .ok (.invokevirtual 223, 3) := by decide +kernel
theorem dX5_toldItem_5 : decode cX5_toldItem 5 = .ok (.aload_n 0, 1) := by decide +kernel
theorem dX5_toldItem_6 : decode cX5_toldItem 6 = .ok (.iconst 0, 1) := by decide +kernel
theorem dX5_toldItem_7 : decode cX5_toldItem 7 = .ok (.iload_n 2, 1) := by decide +kernel
theorem dX5_toldItem_8 : decode cX5_toldItem 8 = .ok (.invokevirtual 245, 3) := by decide +kernel
theorem dX5_toldItem_11 : decode cX5_toldItem 11 = .ok (.aload_n 0, 1) := by decide +kernel
theorem dX5_toldItem_12 : decode cX5_toldItem 12 = .ok (.getfield 7, 3) := by decide +kernel
theorem dX5_toldItem_15 : decode cX5_toldItem 15 = .ok (.iload_n 1, 1) := by decide +kernel
theorem dX5_toldItem_16 : decode cX5_toldItem 16 = .ok (.aload_n 0, 1) := by decide +kernel
theorem dX5_toldItem_17 : decode cX5_toldItem 17 = .ok (.getfield 209, 3) := by decide +kernel
theorem dX5_toldItem_20 : decode cX5_toldItem 20 = .ok (.ifCond .eq 12, 3) := by decide +kernel
theorem dX5_toldItem_23 : decode cX5_toldItem 23 = .ok (.aload_n 0, 1) := by decide +kernel
theorem dX5_toldItem_24 : decode cX5_toldItem 24 = .ok (.getfield 7, 3) := by decide +kernel
theorem dX5_toldItem_27 : decode cX5_toldItem 27 = .ok (.iload_n 1, 1) := by decide +kernel
theorem dX5_toldItem_28 : decode cX5_toldItem 28 = .ok (.iaload, 1) := by decide +kernel
theorem dX5_toldItem_29 : decode cX5_toldItem 29 = .ok (.goto 7, 3) := by decide +kernel
theorem dX5_toldItem_32 : decode cX5_toldItem 32 = .ok (.aload_n 0, 1) := by decide +kernel
theorem dX5_toldItem_33 : decode cX5_toldItem 33 = .ok (.getfield 220, 3) := by decide +kernel
theorem dX5_toldItem_36 : decode cX5_toldItem 36 = .ok (.iastore, 1) := by decide +kernel
theorem dX5_toldItem_37 : decode cX5_toldItem 37 = .ok (.return_, 1) := by decide +kernel
theorem dX5_numberHere_0 : decode cX5_numberHere 0 = .ok (.iconst 0, 1) := by decide +kernel
theorem dX5_numberHere_1 : decode cX5_numberHere 1 = .ok (.istore_n 1, 1) := by decide +kernel
theorem dX5_numberHere_2 : decode cX5_numberHere 2 = .ok (.aload_n 0, 1) := by decide +kernel
theorem dX5_numberHere_3 : decode cX5_numberHere 3 = .ok (.getfield 197, 3) := by decide +kernel
theorem dX5_numberHere_6 : decode cX5_numberHere 6 = .ok (.istore_n 2, 1) := by decide +kernel
theorem dX5_numberHere_7 : decode cX5_numberHere 7 = .ok (.iload_n 2, 1) := by decide +kernel
theorem dX5_numberHere_8 : decode cX5_numberHere 8 = .ok (.aload_n 0, 1) := by decide +kernel
theorem dX5_numberHere_9 : decode cX5_numberHere 9 = .ok (.getfield 194, 3) := by decide +kernel
theorem dX5_numberHere_12 : decode cX5_numberHere 12 = .ok (.if_icmp .ge 34, 3) := by decide +kernel
theorem dX5_numberHere_15 : decode cX5_numberHere 15 = .ok (.iload_n 1, 1) := by decide +kernel
theorem dX5_numberHere_16 : decode cX5_numberHere 16 = .ok (.bipush 99, 2) := by decide +kernel
theorem dX5_numberHere_18 : decode cX5_numberHere 18 = .ok (.if_icmp .le 7, 3) := by decide +kernel
theorem dX5_numberHere_21 : decode cX5_numberHere 21 = .ok (.iload_n 1, 1) := by decide +kernel
theorem dX5_numberHere_22 : decode cX5_numberHere 22 = .ok (.goto 17, 3) := by decide +kernel
theorem dX5_numberHere_25 : decode cX5_numberHere 25 = .ok (.bipush 10, 2) := by decide +kernel
theorem dX5_numberHere_27 : decode cX5_numberHere 27 = .ok (.iload_n 1, 1) := by decide +kernel
theorem dX5_numberHere_28 : decode cX5_numberHere 28 = .ok (.imul, 1) := by decide +kernel
theorem dX5_numberHere_29 : decode cX5_numberHere 29 = .ok (.aload_n 0, 1) := by decide +kernel
theorem dX5_numberHere_30 : decode cX5_numberHere 30 = .ok (.getfield 25, 3) := by decide +kernel
theorem dX5_numberHere_33 : decode cX5_numberHere 33 = .ok (.iload_n 2, 1) := by decide +kernel
theorem dX5_numberHere_34 : decode cX5_numberHere 34 = .ok (.iaload, 1) := by decide +kernel
theorem dX5_numberHere_35 : decode cX5_numberHere 35 = .ok (.iadd, 1) := by decide +kernel
theorem dX5_numberHere_36 : decode cX5_numberHere 36 = .ok (.bipush 48, 2) := by decide +kernel
theorem dX5_numberHere_38 : decode cX5_numberHere 38 = .ok (.isub, 1) := by decide +kernel
theorem dX5_numberHere_39 : decode cX5_numberHere 39 = .ok (.istore_n 1, 1) := by decide +kernel
theorem dX5_numberHere_40 : decode cX5_numberHere 40 = .ok (.iinc 2 1, 3) := by decide +kernel
theorem dX5_numberHere_43 : decode cX5_numberHere 43 = .ok (.goto (-36), 3) := by decide +kernel
theorem dX5_numberHere_46 : decode cX5_numberHere 46 = .ok (.aload_n 0, 1) := by decide +kernel
theorem dX5_numberHere_47 : decode cX5_numberHere 47 = .ok (.aload_n 0, 1) := by decide +kernel
theorem dX5_numberHere_48 : decode cX5_numberHere 48 = .ok (.getfield 197, 3) := by decide +kernel
theorem dX5_numberHere_51 : decode cX5_numberHere 51 = .ok (.invokevirtual 200, 3) := by decide +kernel
theorem dX5_numberHere_54 : decode cX5_numberHere 54 = .ok (.invokestatic 206, 3) := by decide +kernel
theorem dX5_numberHere_57 : decode cX5_numberHere 57 = .ok (.ifCond .eq 13, 3) := by decide +kernel
theorem dX5_numberHere_60 : decode cX5_numberHere 60 = .ok (.iload_n 1, 1) := by decide +kernel
theorem dX5_numberHere_61 : decode cX5_numberHere 61 = .ok (.bipush 8, 2) := by decide +kernel
theorem dX5_numberHere_63 : decode cX5_numberHere 63 = .ok (.if_icmp .ge 7, 3) := by decide +kernel
theorem dX5_numberHere_66 : decode cX5_numberHere 66 = .ok (.iload_n 1, 1) := by decide +kernel
theorem dX5_numberHere_67 : decode cX5_numberHere 67 = .ok (.goto 4, 3) := by decide +kernel
theorem dX5_numberHere_70 : decode cX5_numberHere 70 = .ok (.iconst (-1), 1) := by decide +kernel
theorem dX5_numberHere_71 : decode cX5_numberHere 71 = .ok (.ireturn, 1) := by decide +kernel
theorem dX5_swapItem_0 : decode cX5_swapItem 0 = .ok (.aload_n 0, 1) := by decide +kernel
theorem dX5_swapItem_1 : decode cX5_swapItem 1 = .ok (.iconst 1, 1) := by decide +kernel
theorem dX5_swapItem_2 : decode cX5_swapItem 2 = .ok (.invokevirtual 223, 3) := by decide +kernel
theorem dX5_swapItem_5 : decode cX5_swapItem 5 = .ok (.aload_n 0, 1) := by decide +kernel
theorem dX5_swapItem_6 : decode cX5_swapItem 6 = .ok (.invokevirtual 248, 3) := by decide +kernel
theorem dX5_swapItem_9 : decode cX5_swapItem 9 = .ok (.istore_n 1, 1) := by decide +kernel
theorem dX5_swapItem_10 : decode cX5_swapItem 10 = .ok (.aload_n 0, 1) := by decide +kernel
theorem dX5_swapItem_11 : decode cX5_swapItem 11 = .ok (.aload_n 0, 1) := by decide +kernel
theorem dX5_swapItem_12 : decode cX5_swapItem 12 = .ok (.iload_n 1, 1) := by decide +kernel
theorem dX5_swapItem_13 : decode cX5_swapItem 13 = .ok (.invokevirtual 69, 3) := by decide +kernel
theorem dX5_swapItem_16 : decode cX5_swapItem 16 = .ok (.invokevirtual 223, 3) := by decide +kernel
theorem dX5_swapItem_19 : decode cX5_swapItem 19 = .ok (.aload_n 0, 1) := by decide +kernel
theorem dX5_swapItem_20 : decode cX5_swapItem 20 = .ok (.invokevirtual 248, 3) := by decide +kernel
theorem dX5_swapItem_23 : decode cX5_swapItem 23 = .ok (.istore_n 2, 1) := by decide +kernel
theorem dX5_swapItem_24 : decode cX5_swapItem 24 = .ok (.aload_n 0, 1) := by decide +kernel
theorem dX5_swapItem_25 : decode cX5_swapItem 25 = .ok (.aload_n 0, 1) := by decide +kernel
theorem dX5_swapItem_26 : decode cX5_swapItem 26 = .ok (.iload_n 2, 1) := by decide +kernel
theorem dX5_swapItem_27 : decode cX5_swapItem 27 = .ok (.invokevirtual 69, 3) := by decide +kernel
theorem dX5_swapItem_30 : decode cX5_swapItem 30 = .ok (.ifCond .eq 12, 3) := by decide +kernel
theorem dX5_swapItem_33 : decode cX5_swapItem 33 = .ok (.iload_n 2, 1) := by decide +kernel
theorem dX5_swapItem_34 : decode cX5_swapItem 34 = .ok (.iload_n 1, 1) := by decide +kernel
theorem dX5_swapItem_35 : decode cX5_swapItem 35 = .ok (.if_icmp .eq 7, 3) := by decide +kernel
theorem dX5_swapItem_38 : decode cX5_swapItem 38 = .ok (.iconst 1, 1) := by decide +kernel
theorem dX5_swapItem_39 : decode cX5_swapItem 39 = .ok (.goto 4, 3) := by decide +kernel
theorem dX5_swapItem_42 : decode cX5_swapItem 42 = .ok (.iconst 0, 1) := by decide +kernel
theorem dX5_swapItem_43 : decode cX5_swapItem 43 = .ok (.invokevirtual 223, 3) := by decide +kernel
theorem dX5_swapItem_46 : decode cX5_swapItem 46 = .ok (.aload_n 0, 1) := by decide +kernel
theorem dX5_swapItem_47 : decode cX5_swapItem 47 = .ok (.getfield 209, 3) := by decide +kernel
theorem dX5_swapItem_50 : decode cX5_swapItem 50 = .ok (.ifCond .ne 9, 3) := by decide +kernel
theorem dX5_swapItem_53 : decode cX5_swapItem 53 = .ok (.aload_n 0, 1) := by decide +kernel
theorem dX5_swapItem_54 : decode cX5_swapItem 54 = .ok (.iload_n 1, 1) := by decide +kernel
theorem dX5_swapItem_55 : decode cX5_swapItem 55 = .ok (.iload_n 2, 1) := by decide +kernel
theorem dX5_swapItem_56 : decode cX5_swapItem 56 = .ok (.invokevirtual 125, 3) := by decide +kernel
theorem dX5_swapItem_59 : decode cX5_swapItem 59 = .ok (.return_, 1) := by decide +kernel
theorem dX5_item_0 : decode cX5_item 0 = .ok (.aload_n 0, 1) := by decide +kernel
theorem dX5_item_1 : decode cX5_item 1 = .ok (.invokevirtual 251, 3) := by decide +kernel
theorem dX5_item_4 : decode cX5_item 4 = .ok (.istore_n 1, 1) := by decide +kernel
theorem dX5_item_5 : decode cX5_item 5 = .ok (.aload_n 0, 1) := by decide +kernel
theorem dX5_item_6 : decode cX5_item 6 = .ok (.invokevirtual 227, 3) := by decide +kernel
theorem dX5_item_9 : decode cX5_item 9 = .ok (.lstore_n 2, 1) := by decide +kernel
theorem dX5_item_10 : decode cX5_item 10 = .ok (.iload_n 1, 1) := by decide +kernel
theorem dX5_item_11 : decode cX5_item 11 = .ok (.ifCond .lt 11, 3) := by decide +kernel
theorem dX5_item_14 : decode cX5_item 14 = .ok (.aload_n 0, 1) := by decide +kernel
theorem dX5_item_15 : decode cX5_item 15 = .ok (.iload_n 1, 1) := by decide +kernel
theorem dX5_item_16 : decode cX5_item 16 = .ok (.invokevirtual 254, 3) := by decide +kernel
theorem dX5_item_19 : decode cX5_item 19 = .ok (.goto 101, 3) := by decide +kernel
theorem dX5_item_22 : decode cX5_item 22 = .ok (.lload_n 2, 1) := by decide +kernel
theorem dX5_item_23 : decode cX5_item 23 = .ok (.ldc2_w 257, 3) := by decide +kernel
theorem dX5_item_26 : decode cX5_item 26 = .ok (.lcmp, 1) := by decide +kernel
theorem dX5_item_27 : decode cX5_item 27 = .ok (.ifCond .eq 11, 3) := by decide +kernel
theorem dX5_item_30 : decode cX5_item 30 = .ok (.lload_n 2, 1) := by decide +kernel
theorem dX5_item_31 : decode cX5_item 31 = .ok (.ldc2_w 259, 3) := by decide +kernel
theorem dX5_item_34 : decode cX5_item 34 = .ok (.lcmp, 1) := by decide +kernel
theorem dX5_item_35 : decode cX5_item 35 = .ok (.ifCond .ne 23, 3) := by decide +kernel
theorem dX5_item_38 : decode cX5_item 38 = .ok (.aload_n 0, 1) := by decide +kernel
theorem dX5_item_39 : decode cX5_item 39 = .ok (.lload_n 2, 1) := by decide +kernel
theorem dX5_item_40 : decode cX5_item 40 = .ok (.ldc2_w 257, 3) := by decide +kernel
theorem dX5_item_43 : decode cX5_item 43 = .ok (.lcmp, 1) := by decide +kernel
theorem dX5_item_44 : decode cX5_item 44 = .ok (.ifCond .ne 7, 3) := by decide +kernel
theorem dX5_item_47 : decode cX5_item 47 = .ok (.iconst 1, 1) := by decide +kernel
theorem dX5_item_48 : decode cX5_item 48 = .ok (.goto 4, 3) := by decide +kernel
theorem dX5_item_51 : decode cX5_item 51 = .ok (.iconst 0, 1) := by decide +kernel
theorem dX5_item_52 : decode cX5_item 52 = .ok (.invokevirtual 261, 3) := by decide +kernel
theorem dX5_item_55 : decode cX5_item 55 = .ok (.goto 65, 3) := by decide +kernel
theorem dX5_item_58 : decode cX5_item 58 = .ok (.lload_n 2, 1) := by decide +kernel
theorem dX5_item_59 : decode cX5_item 59 = .ok (.ldc2_w 264, 3) := by decide +kernel
theorem dX5_item_62 : decode cX5_item 62 = .ok (.lcmp, 1) := by decide +kernel
theorem dX5_item_63 : decode cX5_item 63 = .ok (.ifCond .ne 19, 3) := by decide +kernel
theorem dX5_item_66 : decode cX5_item 66 = .ok (.aload_n 0, 1) := by decide +kernel
theorem dX5_item_67 : decode cX5_item 67 = .ok (.iconst 3, 1) := by decide +kernel
theorem dX5_item_68 : decode cX5_item 68 = .ok (.aload_n 0, 1) := by decide +kernel
theorem dX5_item_69 : decode cX5_item 69 = .ok (.getfield 7, 3) := by decide +kernel
theorem dX5_item_72 : decode cX5_item 72 = .ok (.iconst 1, 1) := by decide +kernel
theorem dX5_item_73 : decode cX5_item 73 = .ok (.iaload, 1) := by decide +kernel
theorem dX5_item_74 : decode cX5_item 74 = .ok (.iconst 1, 1) := by decide +kernel
theorem dX5_item_75 : decode cX5_item 75 = .ok (.isub, 1) := by decide +kernel
theorem dX5_item_76 : decode cX5_item 76 = .ok (.invokevirtual 266, 3) := by decide +kernel
theorem dX5_item_79 : decode cX5_item 79 = .ok (.goto 41, 3) := by decide +kernel
theorem dX5_item_82 : decode cX5_item 82 = .ok (.lload_n 2, 1) := by decide +kernel
theorem dX5_item_83 : decode cX5_item 83 = .ok (.ldc2_w 269, 3) := by decide +kernel
theorem dX5_item_86 : decode cX5_item 86 = .ok (.lcmp, 1) := by decide +kernel
theorem dX5_item_87 : decode cX5_item 87 = .ok (.ifCond .ne 13, 3) := by decide +kernel
theorem dX5_item_90 : decode cX5_item 90 = .ok (.aload_n 0, 1) := by decide +kernel
theorem dX5_item_91 : decode cX5_item 91 = .ok (.iconst 4, 1) := by decide +kernel
theorem dX5_item_92 : decode cX5_item 92 = .ok (.bipush 9, 2) := by decide +kernel
theorem dX5_item_94 : decode cX5_item 94 = .ok (.invokevirtual 266, 3) := by decide +kernel
theorem dX5_item_97 : decode cX5_item 97 = .ok (.goto 23, 3) := by decide +kernel
theorem dX5_item_100 : decode cX5_item 100 = .ok (.lload_n 2, 1) := by decide +kernel
theorem dX5_item_101 : decode cX5_item 101 = .ok (.ldc2_w 271, 3) := by decide +kernel
theorem dX5_item_104 : decode cX5_item 104 = .ok (.lcmp, 1) := by decide +kernel
theorem dX5_item_105 : decode cX5_item 105 = .ok (.ifCond .ne 10, 3) := by decide +kernel
theorem dX5_item_108 : decode cX5_item 108 = .ok (.aload_n 0, 1) := by decide +kernel
theorem dX5_item_109 : decode cX5_item 109 = .ok (.invokevirtual 273, 3) := by decide +kernel
theorem dX5_item_112 : decode cX5_item 112 = .ok (.goto 8, 3) := by decide +kernel
theorem dX5_item_115 : decode cX5_item 115 = .ok (.aload_n 0, 1) := by decide +kernel
theorem dX5_item_116 : decode cX5_item 116 = .ok (.iconst 0, 1) := by decide +kernel
theorem dX5_item_117 : decode cX5_item 117 = .ok (.invokevirtual 223, 3) := by decide +kernel
theorem dX5_item_120 : decode cX5_item 120 = .ok (.return_, 1) := by decide +kernel
theorem dX5_night_0 : decode cX5_night 0 = .ok (.aload_n 0, 1) := by decide +kernel
theorem dX5_night_1 : decode cX5_night 1 = .ok (.invokevirtual 276, 3) := by decide +kernel
theorem dX5_night_4 : decode cX5_night 4 = .ok (.aload_n 0, 1) := by decide +kernel
theorem dX5_night_5 : decode cX5_night 5 = .ok (.iconst 0, 1) := by decide +kernel
theorem dX5_night_6 : decode cX5_night 6 = .ok (.putfield 209, 3) := by decide +kernel
theorem dX5_night_9 : decode cX5_night 9 = .ok (.aload_n 0, 1) := by decide +kernel
theorem dX5_night_10 : decode cX5_night 10 = .ok (.iconst 0, 1) := by decide +kernel
theorem dX5_night_11 : decode cX5_night 11 = .ok (.putfield 194, 3) := by decide +kernel
theorem dX5_night_14 : decode cX5_night 14 = .ok (.aload_n 0, 1) := by decide +kernel
theorem dX5_night_15 : decode cX5_night 15 = .ok (.invokevirtual 213, 3) := by decide +kernel
theorem dX5_night_18 : decode cX5_night 18 = .ok (.iconst 1, 1) := by decide +kernel
theorem dX5_night_19 : decode cX5_night 19 = .ok (.istore_n 1, 1) := by decide +kernel
theorem dX5_night_20 : decode cX5_night 20 = .ok (.aload_n 0, 1) := by decide +kernel
theorem dX5_night_21 : decode cX5_night 21 = .ok (.invokevirtual 279, 3) := by decide +kernel
theorem dX5_night_24 : decode cX5_night 24 = .ok (.aload_n 0, 1) := by decide +kernel
theorem dX5_night_25 : decode cX5_night 25 = .ok (.getfield 209, 3) := by decide +kernel
theorem dX5_night_28 : decode cX5_night 28 = .ok (.ifCond .ne 31, 3) := by decide +kernel
theorem dX5_night_31 : decode cX5_night 31 = .ok (.aload_n 0, 1) := by decide +kernel
theorem dX5_night_32 : decode cX5_night 32 = .ok (.aload_n 0, 1) := by decide +kernel
theorem dX5_night_33 : decode cX5_night 33 = .ok (.getfield 197, 3) := by decide +kernel
theorem dX5_night_36 : decode cX5_night 36 = .ok (.invokevirtual 200, 3) := by decide +kernel
theorem dX5_night_39 : decode cX5_night 39 = .ok (.bipush 59, 2) := by decide +kernel
theorem dX5_night_41 : decode cX5_night 41 = .ok (.if_icmp .ne 18, 3) := by decide +kernel
theorem dX5_night_44 : decode cX5_night 44 = .ok (.aload_n 0, 1) := by decide +kernel
theorem dX5_night_45 : decode cX5_night 45 = .ok (.iconst 1, 1) := by decide +kernel
theorem dX5_night_46 : decode cX5_night 46 = .ok (.invokevirtual 223, 3) := by decide +kernel
theorem dX5_night_49 : decode cX5_night 49 = .ok (.aload_n 0, 1) := by decide +kernel
theorem dX5_night_50 : decode cX5_night 50 = .ok (.invokevirtual 279, 3) := by decide +kernel
theorem dX5_night_53 : decode cX5_night 53 = .ok (.iinc 1 1, 3) := by decide +kernel
theorem dX5_night_56 : decode cX5_night 56 = .ok (.goto (-32), 3) := by decide +kernel
theorem dX5_night_59 : decode cX5_night 59 = .ok (.aload_n 0, 1) := by decide +kernel
theorem dX5_night_60 : decode cX5_night 60 = .ok (.aload_n 0, 1) := by decide +kernel
theorem dX5_night_61 : decode cX5_night 61 = .ok (.getfield 209, 3) := by decide +kernel
theorem dX5_night_64 : decode cX5_night 64 = .ok (.ifCond .ne 14, 3) := by decide +kernel
theorem dX5_night_67 : decode cX5_night 67 = .ok (.aload_n 0, 1) := by decide +kernel
theorem dX5_night_68 : decode cX5_night 68 = .ok (.getfield 197, 3) := by decide +kernel
theorem dX5_night_71 : decode cX5_night 71 = .ok (.aload_n 0, 1) := by decide +kernel
theorem dX5_night_72 : decode cX5_night 72 = .ok (.getfield 183, 3) := by decide +kernel
theorem dX5_night_75 : decode cX5_night 75 = .ok (.if_icmp .ge 7, 3) := by decide +kernel
theorem dX5_night_78 : decode cX5_night 78 = .ok (.iconst 1, 1) := by decide +kernel
theorem dX5_night_79 : decode cX5_night 79 = .ok (.goto 4, 3) := by decide +kernel
theorem dX5_night_82 : decode cX5_night 82 = .ok (.iconst 0, 1) := by decide +kernel
theorem dX5_night_83 : decode cX5_night 83 = .ok (.putfield 209, 3) := by decide +kernel
theorem dX5_night_86 : decode cX5_night 86 = .ok (.aload_n 0, 1) := by decide +kernel
theorem dX5_night_87 : decode cX5_night 87 = .ok (.getfield 209, 3) := by decide +kernel
theorem dX5_night_90 : decode cX5_night 90 = .ok (.ifCond .eq 7, 3) := by decide +kernel
theorem dX5_night_93 : decode cX5_night 93 = .ok (.aload_n 0, 1) := by decide +kernel
theorem dX5_night_94 : decode cX5_night 94 = .ok (.invokevirtual 282, 3) := by decide +kernel
theorem dX5_night_97 : decode cX5_night 97 = .ok (.aload_n 0, 1) := by decide +kernel
theorem dX5_night_98 : decode cX5_night 98 = .ok (.iconst 0, 1) := by decide +kernel
theorem dX5_night_99 : decode cX5_night 99 = .ok (.putfield 183, 3) := by decide +kernel
theorem dX5_night_102 : decode cX5_night 102 = .ok (.aload_n 0, 1) := by decide +kernel
theorem dX5_night_103 : decode cX5_night 103 = .ok (.getfield 209, 3) := by decide +kernel
theorem dX5_night_106 : decode cX5_night 106 = .ok (.ifCond .eq 12, 3) := by decide +kernel
theorem dX5_night_109 : decode cX5_night 109 = .ok (.iconst (-1), 1) := by decide +kernel
theorem dX5_night_110 : decode cX5_night 110 = .ok (.aload_n 0, 1) := by decide +kernel
theorem dX5_night_111 : decode cX5_night 111 = .ok (.getfield 197, 3) := by decide +kernel
theorem dX5_night_114 : decode cX5_night 114 = .ok (.isub, 1) := by decide +kernel
theorem dX5_night_115 : decode cX5_night 115 = .ok (.goto 4, 3) := by decide +kernel
theorem dX5_night_118 : decode cX5_night 118 = .ok (.iload_n 1, 1) := by decide +kernel
theorem dX5_night_119 : decode cX5_night 119 = .ok (.ireturn, 1) := by decide +kernel
theorem dX5_isOne_0 : decode cX5_isOne 0 = .ok (.iload_n 0, 1) := by decide +kernel
theorem dX5_isOne_1 : decode cX5_isOne 1 = .ok (.i2l, 1) := by decide +kernel
theorem dX5_isOne_2 : decode cX5_isOne 2 = .ok (.lconst 0, 1) := by decide +kernel
theorem dX5_isOne_3 : decode cX5_isOne 3 = .ok (.ldc2_w 285, 3) := by decide +kernel
theorem dX5_isOne_6 : decode cX5_isOne 6 = .ok (.invokestatic 46, 3) := by decide +kernel
theorem dX5_isOne_9 : decode cX5_isOne 9 = .ok (.ireturn, 1) := by decide +kernel
theorem dX5_sheet_0 : decode cX5_sheet 0 = .ok (.iload_n 1, 1) := by decide +kernel
theorem dX5_sheet_1 : decode cX5_sheet 1 = .ok (.invokestatic 287, 3) := by decide +kernel
theorem dX5_sheet_4 : decode cX5_sheet 4 = .ok (.ifCond .eq 25, 3) := by decide +kernel
theorem dX5_sheet_7 : decode cX5_sheet 7 = .ok (.iload_n 2, 1) := by decide +kernel
theorem dX5_sheet_8 : decode cX5_sheet 8 = .ok (.ifCond .eq 28, 3) := by decide +kernel
theorem dX5_sheet_11 : decode cX5_sheet 11 = .ok (.iload_n 2, 1) := by decide +kernel
theorem dX5_sheet_12 : decode cX5_sheet 12 = .ok (.bipush 8, 2) := by decide +kernel
theorem dX5_sheet_14 : decode cX5_sheet 14 = .ok (.if_icmp .eq 22, 3) := by decide +kernel
theorem dX5_sheet_17 : decode cX5_sheet 17 = .ok (.iload_n 2, 1) := by decide +kernel
theorem dX5_sheet_18 : decode cX5_sheet 18 = .ok (.bipush 16, 2) := by decide +kernel
theorem dX5_sheet_20 : decode cX5_sheet 20 = .ok (.if_icmp .eq 16, 3) := by decide +kernel
theorem dX5_sheet_23 : decode cX5_sheet 23 = .ok (.iload_n 2, 1) := by decide +kernel
theorem dX5_sheet_24 : decode cX5_sheet 24 = .ok (.bipush 64, 2) := by decide +kernel
theorem dX5_sheet_26 : decode cX5_sheet 26 = .ok (.if_icmp .eq 10, 3) := by decide +kernel
theorem dX5_sheet_29 : decode cX5_sheet 29 = .ok (.aload_n 0, 1) := by decide +kernel
theorem dX5_sheet_30 : decode cX5_sheet 30 = .ok (.ldc 41, 2) := by decide +kernel
theorem dX5_sheet_32 : decode cX5_sheet 32 = .ok (.invokevirtual 66, 3) := by decide +kernel
theorem dX5_sheet_35 : decode cX5_sheet 35 = .ok (.ireturn, 1) := by decide +kernel
theorem dX5_sheet_36 : decode cX5_sheet 36 = .ok (.iload_n 3, 1) := by decide +kernel
theorem dX5_sheet_37 : decode cX5_sheet 37 = .ok (.ifCond .ge 11, 3) := by decide +kernel
theorem dX5_sheet_40 : decode cX5_sheet 40 = .ok (.aload_n 0, 1) := by decide +kernel
theorem dX5_sheet_41 : decode cX5_sheet 41 = .ok (.ldc_w 290, 3) := by decide +kernel
theorem dX5_sheet_44 : decode cX5_sheet 44 = .ok (.invokevirtual 66, 3) := by decide +kernel
theorem dX5_sheet_47 : decode cX5_sheet 47 = .ok (.ireturn, 1) := by decide +kernel
theorem dX5_sheet_48 : decode cX5_sheet 48 = .ok (.iload_n 3, 1) := by decide +kernel
theorem dX5_sheet_49 : decode cX5_sheet 49 = .ok (.bipush 40, 2) := by decide +kernel
theorem dX5_sheet_51 : decode cX5_sheet 51 = .ok (.if_icmp .le 10, 3) := by decide +kernel
theorem dX5_sheet_54 : decode cX5_sheet 54 = .ok (.aload_n 0, 1) := by decide +kernel
theorem dX5_sheet_55 : decode cX5_sheet 55 = .ok (.ldc 41, 2) := by decide +kernel
theorem dX5_sheet_57 : decode cX5_sheet 57 = .ok (.invokevirtual 66, 3) := by decide +kernel
theorem dX5_sheet_60 : decode cX5_sheet 60 = .ok (.ireturn, 1) := by decide +kernel
theorem dX5_sheet_61 : decode cX5_sheet 61 = .ok (.aload_n 0, 1) := by decide +kernel
theorem dX5_sheet_62 : decode cX5_sheet 62 = .ok (.getfield 28, 3) := by decide +kernel
theorem dX5_sheet_65 : decode cX5_sheet 65 = .ok (.iload_n 1, 1) := by decide +kernel
theorem dX5_sheet_66 : decode cX5_sheet 66 = .ok (.iload_n 2, 1) := by decide +kernel
theorem dX5_sheet_67 : decode cX5_sheet 67 = .ok (.iastore, 1) := by decide +kernel
theorem dX5_sheet_68 : decode cX5_sheet 68 = .ok (.aload_n 0, 1) := by decide +kernel
theorem dX5_sheet_69 : decode cX5_sheet 69 = .ok (.getfield 31, 3) := by decide +kernel
theorem dX5_sheet_72 : decode cX5_sheet 72 = .ok (.iload_n 1, 1) := by decide +kernel
theorem dX5_sheet_73 : decode cX5_sheet 73 = .ok (.iload_n 2, 1) := by decide +kernel
theorem dX5_sheet_74 : decode cX5_sheet 74 = .ok (.ifCond .ne 7, 3) := by decide +kernel
theorem dX5_sheet_77 : decode cX5_sheet 77 = .ok (.iconst 0, 1) := by decide +kernel
theorem dX5_sheet_78 : decode cX5_sheet 78 = .ok (.goto 4, 3) := by decide +kernel
theorem dX5_sheet_81 : decode cX5_sheet 81 = .ok (.iload_n 3, 1) := by decide +kernel
theorem dX5_sheet_82 : decode cX5_sheet 82 = .ok (.iastore, 1) := by decide +kernel
theorem dX5_sheet_83 : decode cX5_sheet 83 = .ok (.iconst 0, 1) := by decide +kernel
theorem dX5_sheet_84 : decode cX5_sheet 84 = .ok (.istore 4, 2) := by decide +kernel
theorem dX5_sheet_86 : decode cX5_sheet 86 = .ok (.iload 4, 2) := by decide +kernel
theorem dX5_sheet_88 : decode cX5_sheet 88 = .ok (.bipush 40, 2) := by decide +kernel
theorem dX5_sheet_90 : decode cX5_sheet 90 = .ok (.if_icmp .ge 22, 3) := by decide +kernel
theorem dX5_sheet_93 : decode cX5_sheet 93 = .ok (.aload_n 0, 1) := by decide +kernel
theorem dX5_sheet_94 : decode cX5_sheet 94 = .ok (.getfield 34, 3) := by decide +kernel
theorem dX5_sheet_97 : decode cX5_sheet 97 = .ok (.bipush 40, 2) := by decide +kernel
theorem dX5_sheet_99 : decode cX5_sheet 99 = .ok (.iload_n 1, 1) := by decide +kernel
theorem dX5_sheet_100 : decode cX5_sheet 100 = .ok (.imul, 1) := by decide +kernel
theorem dX5_sheet_101 : decode cX5_sheet 101 = .ok (.iload 4, 2) := by decide +kernel
theorem dX5_sheet_103 : decode cX5_sheet 103 = .ok (.iadd, 1) := by decide +kernel
theorem dX5_sheet_104 : decode cX5_sheet 104 = .ok (.lconst 0, 1) := by decide +kernel
theorem dX5_sheet_105 : decode cX5_sheet 105 = .ok (.lastore, 1) := by decide +kernel
theorem dX5_sheet_106 : decode cX5_sheet 106 = .ok (.iinc 4 1, 3) := by decide +kernel
theorem dX5_sheet_109 : decode cX5_sheet 109 = .ok (.goto (-23), 3) := by decide +kernel
theorem dX5_sheet_112 : decode cX5_sheet 112 = .ok (.aload_n 0, 1) := by decide +kernel
theorem dX5_sheet_113 : decode cX5_sheet 113 = .ok (.getfield 31, 3) := by decide +kernel
theorem dX5_sheet_116 : decode cX5_sheet 116 = .ok (.iload_n 1, 1) := by decide +kernel
theorem dX5_sheet_117 : decode cX5_sheet 117 = .ok (.iaload, 1) := by decide +kernel
theorem dX5_sheet_118 : decode cX5_sheet 118 = .ok (.ireturn, 1) := by decide +kernel
theorem dX5_narrowed_0 : decode cX5_narrowed 0 = .ok (.iload_n 0, 1) := by decide +kernel
theorem dX5_narrowed_1 : decode cX5_narrowed 1 = .ok (.bipush 8, 2) := by decide +kernel
theorem dX5_narrowed_3 : decode cX5_narrowed 3 = .ok (.if_icmp .ne 10, 3) := by decide +kernel
theorem dX5_narrowed_6 : decode cX5_narrowed 6 = .ok (.lload_n 1, 1) := by decide +kernel
theorem dX5_narrowed_7 : decode cX5_narrowed 7 = .ok (.l2i, 1) := by decide +kernel
theorem dX5_narrowed_8 : decode cX5_narrowed 8 = .ok (.i2b, 1) := by decide +kernel
theorem dX5_narrowed_9 : decode cX5_narrowed 9 = .ok (.i2l, 1) := by decide +kernel
theorem dX5_narrowed_10 : decode cX5_narrowed 10 = .ok (.goto 17, 3) := by decide +kernel
theorem dX5_narrowed_13 : decode cX5_narrowed 13 = .ok (.iload_n 0, 1) := by decide +kernel
theorem dX5_narrowed_14 : decode cX5_narrowed 14 = .ok (.bipush 16, 2) := by decide +kernel
theorem dX5_narrowed_16 : decode cX5_narrowed 16 = .ok (.if_icmp .ne 10, 3) := by decide +kernel
theorem dX5_narrowed_19 : decode cX5_narrowed 19 = .ok (.lload_n 1, 1) := by decide +kernel
theorem dX5_narrowed_20 : decode cX5_narrowed 20 = .ok (.l2i, 1) := by decide +kernel
theorem dX5_narrowed_21 : decode cX5_narrowed 21 = .ok (.i2s, 1) := by decide +kernel
theorem dX5_narrowed_22 : decode cX5_narrowed 22 = .ok (.i2l, 1) := by decide +kernel
theorem dX5_narrowed_23 : decode cX5_narrowed 23 = .ok (.goto 4, 3) := by decide +kernel
theorem dX5_narrowed_26 : decode cX5_narrowed 26 = .ok (.lload_n 1, 1) := by decide +kernel
theorem dX5_narrowed_27 : decode cX5_narrowed 27 = .ok (.lreturn, 1) := by decide +kernel
theorem dX5_wrongSheet_0 : decode cX5_wrongSheet 0 = .ok (.iload_n 1, 1) := by decide +kernel
theorem dX5_wrongSheet_1 : decode cX5_wrongSheet 1 = .ok (.invokestatic 287, 3) := by decide +kernel
theorem dX5_wrongSheet_4 : decode cX5_wrongSheet 4 = .ok (.ifCond .ne 8, 3) := by decide +kernel
theorem dX5_wrongSheet_7 : decode cX5_wrongSheet 7 = .ok (.ldc 41, 2) := by decide +kernel
theorem dX5_wrongSheet_9 : decode cX5_wrongSheet 9 = .ok (.goto 19, 3) := by decide +kernel
theorem dX5_wrongSheet_12 : decode cX5_wrongSheet 12 = .ok (.aload_n 0, 1) := by decide +kernel
theorem dX5_wrongSheet_13 : decode cX5_wrongSheet 13 = .ok (.getfield 28, 3) := by decide +kernel
theorem dX5_wrongSheet_16 : decode cX5_wrongSheet 16 = .ok (.iload_n 1, 1) := by decide +kernel
theorem dX5_wrongSheet_17 : decode cX5_wrongSheet 17 = .ok (.iaload, 1) := by decide +kernel
theorem dX5_wrongSheet_18 : decode cX5_wrongSheet 18 = .ok (.ifCond .ne 9, 3) := by decide +kernel
theorem dX5_wrongSheet_21 : decode cX5_wrongSheet 21 = .ok (.ldc_w 291, 3) := by decide +kernel
theorem dX5_wrongSheet_24 : decode cX5_wrongSheet 24 = .ok (.goto 4, 3) := by decide +kernel
theorem dX5_wrongSheet_27 : decode cX5_wrongSheet 27 = .ok (.iconst 0, 1) := by decide +kernel
theorem dX5_wrongSheet_28 : decode cX5_wrongSheet 28 = .ok (.ireturn, 1) := by decide +kernel
theorem dX5_write_0 : decode cX5_write 0 = .ok (.aload_n 0, 1) := by decide +kernel
theorem dX5_write_1 : decode cX5_write 1 = .ok (.iload_n 1, 1) := by decide +kernel
theorem dX5_write_2 : decode cX5_write 2 = .ok (.invokevirtual 292, 3) := by decide +kernel
theorem dX5_write_5 : decode cX5_write 5 = .ok (.istore 5, 2) := by decide +kernel
theorem dX5_write_7 : decode cX5_write 7 = .ok (.iload 5, 2) := by decide +kernel
theorem dX5_write_9 : decode cX5_write 9 = .ok (.ifCond .eq 11, 3) := by decide +kernel
theorem dX5_write_12 : decode cX5_write 12 = .ok (.aload_n 0, 1) := by decide +kernel
theorem dX5_write_13 : decode cX5_write 13 = .ok (.iload 5, 2) := by decide +kernel
theorem dX5_write_15 : decode cX5_write 15 = .ok (.invokevirtual 66, 3) := by decide +kernel
theorem dX5_write_18 : decode cX5_write 18 = .ok (.i2l, 1) := by decide +kernel
theorem dX5_write_19 : decode cX5_write 19 = .ok (.lreturn, 1) := by decide +kernel
theorem dX5_write_20 : decode cX5_write 20 = .ok (.iload_n 2, 1) := by decide +kernel
theorem dX5_write_21 : decode cX5_write 21 = .ok (.i2l, 1) := by decide +kernel
theorem dX5_write_22 : decode cX5_write 22 = .ok (.lconst 0, 1) := by decide +kernel
theorem dX5_write_23 : decode cX5_write 23 = .ok (.aload_n 0, 1) := by decide +kernel
theorem dX5_write_24 : decode cX5_write 24 = .ok (.getfield 31, 3) := by decide +kernel
theorem dX5_write_27 : decode cX5_write 27 = .ok (.iload_n 1, 1) := by decide +kernel
theorem dX5_write_28 : decode cX5_write 28 = .ok (.iaload, 1) := by decide +kernel
theorem dX5_write_29 : decode cX5_write 29 = .ok (.iconst 1, 1) := by decide +kernel
theorem dX5_write_30 : decode cX5_write 30 = .ok (.isub, 1) := by decide +kernel
theorem dX5_write_31 : decode cX5_write 31 = .ok (.i2l, 1) := by decide +kernel
theorem dX5_write_32 : decode cX5_write 32 = .ok (.invokestatic 46, 3) := by decide +kernel
theorem dX5_write_35 : decode cX5_write 35 = .ok (.ifCond .ne 11, 3) := by decide +kernel
theorem dX5_write_38 : decode cX5_write 38 = .ok (.aload_n 0, 1) := by decide +kernel
theorem dX5_write_39 : decode cX5_write 39 = .ok (.ldc 41, 2) := by decide +kernel
theorem dX5_write_41 : decode cX5_write 41 = .ok (.invokevirtual 66, 3) := by decide +kernel
theorem dX5_write_44 : decode cX5_write 44 = .ok (.i2l, 1) := by decide +kernel
theorem dX5_write_45 : decode cX5_write 45 = .ok (.lreturn, 1) := by decide +kernel
theorem dX5_write_46 : decode cX5_write 46 = .ok (.aload_n 0, 1) := by decide +kernel
theorem dX5_write_47 : decode cX5_write 47 = .ok (.getfield 34, 3) := by decide +kernel
theorem dX5_write_50 : decode cX5_write 50 = .ok (.bipush 40, 2) := by decide +kernel
theorem dX5_write_52 : decode cX5_write 52 = .ok (.iload_n 1, 1) := by decide +kernel
theorem dX5_write_53 : decode cX5_write 53 = .ok (.imul, 1) := by decide +kernel
theorem dX5_write_54 : decode cX5_write 54 = .ok (.iload_n 2, 1) := by decide +kernel
theorem dX5_write_55 : decode cX5_write 55 = .ok (.iadd, 1) := by decide +kernel
theorem dX5_write_56 : decode cX5_write 56 = .ok (.laload, 1) := by decide +kernel
theorem dX5_write_57 : decode cX5_write 57 = .ok (.lstore 6, 2) := by decide +kernel
theorem dX5_write_59 : decode cX5_write 59 = .ok (.aload_n 0, 1) := by decide +kernel
theorem dX5_write_60 : decode cX5_write 60 = .ok (.getfield 34, 3) := by decide +kernel
theorem dX5_write_63 : decode cX5_write 63 = .ok (.bipush 40, 2) := by decide +kernel
theorem dX5_write_65 : decode cX5_write 65 = .ok (.iload_n 1, 1) := by decide +kernel
theorem dX5_write_66 : decode cX5_write 66 = .ok (.imul, 1) := by decide +kernel
theorem dX5_write_67 : decode cX5_write 67 = .ok (.iload_n 2, 1) := by decide +kernel
theorem dX5_write_68 : decode cX5_write 68 = .ok (.iadd, 1) := by decide +kernel
theorem dX5_write_69 : decode cX5_write 69 = .ok (.aload_n 0, 1) := by decide +kernel
theorem dX5_write_70 : decode cX5_write 70 = .ok (.getfield 28, 3) := by decide +kernel
theorem dX5_write_73 : decode cX5_write 73 = .ok (.iload_n 1, 1) := by decide +kernel
theorem dX5_write_74 : decode cX5_write 74 = .ok (.iaload, 1) := by decide +kernel
theorem dX5_write_75 : decode cX5_write 75 = .ok (.lload_n 3, 1) := by decide +kernel
theorem dX5_write_76 : decode cX5_write 76 = .ok (.invokestatic 295, 3) := by decide +kernel
theorem dX5_write_79 : decode cX5_write 79 = .ok (.lastore, 1) := by decide +kernel
theorem dX5_write_80 : decode cX5_write 80 = .ok (.lload 6, 2) := by decide +kernel
theorem dX5_write_82 : decode cX5_write 82 = .ok (.lreturn, 1) := by decide +kernel
theorem dX5_copy_0 : decode cX5_copy 0 = .ok (.iload_n 1, 1) := by decide +kernel
theorem dX5_copy_1 : decode cX5_copy 1 = .ok (.invokestatic 287, 3) := by decide +kernel
theorem dX5_copy_4 : decode cX5_copy 4 = .ok (.ifCond .eq 10, 3) := by decide +kernel
theorem dX5_copy_7 : decode cX5_copy 7 = .ok (.iload_n 3, 1) := by decide +kernel
theorem dX5_copy_8 : decode cX5_copy 8 = .ok (.invokestatic 287, 3) := by decide +kernel
theorem dX5_copy_11 : decode cX5_copy 11 = .ok (.ifCond .ne 10, 3) := by decide +kernel
theorem dX5_copy_14 : decode cX5_copy 14 = .ok (.aload_n 0, 1) := by decide +kernel
theorem dX5_copy_15 : decode cX5_copy 15 = .ok (.ldc 41, 2) := by decide +kernel
theorem dX5_copy_17 : decode cX5_copy 17 = .ok (.invokevirtual 66, 3) := by decide +kernel
theorem dX5_copy_20 : decode cX5_copy 20 = .ok (.ireturn, 1) := by decide +kernel
theorem dX5_copy_21 : decode cX5_copy 21 = .ok (.aload_n 0, 1) := by decide +kernel
theorem dX5_copy_22 : decode cX5_copy 22 = .ok (.getfield 28, 3) := by decide +kernel
theorem dX5_copy_25 : decode cX5_copy 25 = .ok (.iload_n 1, 1) := by decide +kernel
theorem dX5_copy_26 : decode cX5_copy 26 = .ok (.iaload, 1) := by decide +kernel
theorem dX5_copy_27 : decode cX5_copy 27 = .ok (.ifCond .eq 12, 3) := by decide +kernel
theorem dX5_copy_30 : decode cX5_copy 30 = .ok (.aload_n 0, 1) := by decide +kernel
theorem dX5_copy_31 : decode cX5_copy 31 = .ok (.getfield 28, 3) := by decide +kernel
theorem dX5_copy_34 : decode cX5_copy 34 = .ok (.iload_n 3, 1) := by decide +kernel
theorem dX5_copy_35 : decode cX5_copy 35 = .ok (.iaload, 1) := by decide +kernel
theorem dX5_copy_36 : decode cX5_copy 36 = .ok (.ifCond .ne 11, 3) := by decide +kernel
theorem dX5_copy_39 : decode cX5_copy 39 = .ok (.aload_n 0, 1) := by decide +kernel
theorem dX5_copy_40 : decode cX5_copy 40 = .ok (.ldc_w 291, 3) := by decide +kernel
theorem dX5_copy_43 : decode cX5_copy 43 = .ok (.invokevirtual 66, 3) := by decide +kernel
theorem dX5_copy_46 : decode cX5_copy 46 = .ok (.ireturn, 1) := by decide +kernel
theorem dX5_copy_47 : decode cX5_copy 47 = .ok (.aload_n 0, 1) := by decide +kernel
theorem dX5_copy_48 : decode cX5_copy 48 = .ok (.getfield 28, 3) := by decide +kernel
theorem dX5_copy_51 : decode cX5_copy 51 = .ok (.iload_n 1, 1) := by decide +kernel
theorem dX5_copy_52 : decode cX5_copy 52 = .ok (.iaload, 1) := by decide +kernel
theorem dX5_copy_53 : decode cX5_copy 53 = .ok (.aload_n 0, 1) := by decide +kernel
theorem dX5_copy_54 : decode cX5_copy 54 = .ok (.getfield 28, 3) := by decide +kernel
theorem dX5_copy_57 : decode cX5_copy 57 = .ok (.iload_n 3, 1) := by decide +kernel
theorem dX5_copy_58 : decode cX5_copy 58 = .ok (.iaload, 1) := by decide +kernel
theorem dX5_copy_59 : decode cX5_copy 59 = .ok (.if_icmp .eq 10, 3) := by decide +kernel
theorem dX5_copy_62 : decode cX5_copy 62 = .ok (.aload_n 0, 1) := by decide +kernel
theorem dX5_copy_63 : decode cX5_copy 63 = .ok (.ldc 133, 2) := by decide +kernel
theorem dX5_copy_65 : decode cX5_copy 65 = .ok (.invokevirtual 66, 3) := by decide +kernel
theorem dX5_copy_68 : decode cX5_copy 68 = .ok (.ireturn, 1) := by decide +kernel
theorem dX5_copy_69 : decode cX5_copy 69 = .ok (.iload_n 2, 1) := by decide +kernel
theorem dX5_copy_70 : decode cX5_copy 70 = .ok (.ifCond .lt 40, 3) := by decide +kernel
theorem dX5_copy_73 : decode cX5_copy 73 = .ok (.iload 4, 2) := by decide +kernel
theorem dX5_copy_75 : decode cX5_copy 75 = .ok (.ifCond .lt 35, 3) := by decide +kernel
theorem dX5_copy_78 : decode cX5_copy 78 = .ok (.iload 5, 2) := by decide +kernel
theorem dX5_copy_80 : decode cX5_copy 80 = .ok (.ifCond .lt 30, 3) := by decide +kernel
theorem dX5_copy_83 : decode cX5_copy 83 = .ok (.iload 5, 2) := by decide +kernel
theorem dX5_copy_85 : decode cX5_copy 85 = .ok (.aload_n 0, 1) := by decide +kernel
theorem dX5_copy_86 : decode cX5_copy 86 = .ok (.getfield 31, 3) := by decide +kernel
theorem dX5_copy_89 : decode cX5_copy 89 = .ok (.iload_n 1, 1) := by decide +kernel
theorem dX5_copy_90 : decode cX5_copy 90 = .ok (.iaload, 1) := by decide +kernel
theorem dX5_copy_91 : decode cX5_copy 91 = .ok (.iload_n 2, 1) := by decide +kernel
theorem dX5_copy_92 : decode cX5_copy 92 = .ok (.isub, 1) := by decide +kernel
theorem dX5_copy_93 : decode cX5_copy 93 = .ok (.if_icmp .gt 17, 3) := by decide +kernel
theorem dX5_copy_96 : decode cX5_copy 96 = .ok (.iload 5, 2) := by decide +kernel
theorem dX5_copy_98 : decode cX5_copy 98 = .ok (.aload_n 0, 1) := by decide +kernel
theorem dX5_copy_99 : decode cX5_copy 99 = .ok (.getfield 31, 3) := by decide +kernel
theorem dX5_copy_102 : decode cX5_copy 102 = .ok (.iload_n 3, 1) := by decide +kernel
theorem dX5_copy_103 : decode cX5_copy 103 = .ok (.iaload, 1) := by decide +kernel
theorem dX5_copy_104 : decode cX5_copy 104 = .ok (.iload 4, 2) := by decide +kernel
theorem dX5_copy_106 : decode cX5_copy 106 = .ok (.isub, 1) := by decide +kernel
theorem dX5_copy_107 : decode cX5_copy 107 = .ok (.if_icmp .le 10, 3) := by decide +kernel
theorem dX5_copy_110 : decode cX5_copy 110 = .ok (.aload_n 0, 1) := by decide +kernel
theorem dX5_copy_111 : decode cX5_copy 111 = .ok (.ldc 41, 2) := by decide +kernel
theorem dX5_copy_113 : decode cX5_copy 113 = .ok (.invokevirtual 66, 3) := by decide +kernel
theorem dX5_copy_116 : decode cX5_copy 116 = .ok (.ireturn, 1) := by decide +kernel
theorem dX5_copy_117 : decode cX5_copy 117 = .ok (.iconst 0, 1) := by decide +kernel
theorem dX5_copy_118 : decode cX5_copy 118 = .ok (.istore 6, 2) := by decide +kernel
theorem dX5_copy_120 : decode cX5_copy 120 = .ok (.iload 6, 2) := by decide +kernel
theorem dX5_copy_122 : decode cX5_copy 122 = .ok (.iload 5, 2) := by decide +kernel
theorem dX5_copy_124 : decode cX5_copy 124 = .ok (.if_icmp .ge 30, 3) := by decide +kernel
theorem dX5_copy_127 : decode cX5_copy 127 = .ok (.aload_n 0, 1) := by decide +kernel
theorem dX5_copy_128 : decode cX5_copy 128 = .ok (.getfield 38, 3) := by decide +kernel
theorem dX5_copy_131 : decode cX5_copy 131 = .ok (.iload 6, 2) := by decide +kernel
theorem dX5_copy_133 : decode cX5_copy 133 = .ok (.aload_n 0, 1) := by decide +kernel
theorem dX5_copy_134 : decode cX5_copy 134 = .ok (.getfield 34, 3) := by decide +kernel
theorem dX5_copy_137 : decode cX5_copy 137 = .ok (.bipush 40, 2) := by decide +kernel
theorem dX5_copy_139 : decode cX5_copy 139 = .ok (.iload_n 1, 1) := by decide +kernel
theorem dX5_copy_140 : decode cX5_copy 140 = .ok (.imul, 1) := by decide +kernel
theorem dX5_copy_141 : decode cX5_copy 141 = .ok (.iload_n 2, 1) := by decide +kernel
theorem dX5_copy_142 : decode cX5_copy 142 = .ok (.iadd, 1) := by decide +kernel
theorem dX5_copy_143 : decode cX5_copy 143 = .ok (.iload 6, 2) := by decide +kernel
theorem dX5_copy_145 : decode cX5_copy 145 = .ok (.iadd, 1) := by decide +kernel
theorem dX5_copy_146 : decode cX5_copy 146 = .ok (.laload, 1) := by decide +kernel
theorem dX5_copy_147 : decode cX5_copy 147 = .ok (.lastore, 1) := by decide +kernel
theorem dX5_copy_148 : decode cX5_copy 148 = .ok (.iinc 6 1, 3) := by decide +kernel
theorem dX5_copy_151 : decode cX5_copy 151 = .ok (.goto (-31), 3) := by decide +kernel
theorem dX5_copy_154 : decode cX5_copy 154 = .ok (.iconst 0, 1) := by decide +kernel
theorem dX5_copy_155 : decode cX5_copy 155 = .ok (.istore 6, 2) := by decide +kernel
theorem dX5_copy_157 : decode cX5_copy 157 = .ok (.iload 6, 2) := by decide +kernel
theorem dX5_copy_159 : decode cX5_copy 159 = .ok (.iload 5, 2) := by decide +kernel
theorem dX5_copy_161 : decode cX5_copy 161 = .ok (.if_icmp .ge 31, 3) := by decide +kernel
theorem dX5_copy_164 : decode cX5_copy 164 = .ok (.aload_n 0, 1) := by decide +kernel
theorem dX5_copy_165 : decode cX5_copy 165 = .ok (.getfield 34, 3) := by decide +kernel
theorem dX5_copy_168 : decode cX5_copy 168 = .ok (.bipush 40, 2) := by decide +kernel
theorem dX5_copy_170 : decode cX5_copy 170 = .ok (.iload_n 3, 1) := by decide +kernel
theorem dX5_copy_171 : decode cX5_copy 171 = .ok (.imul, 1) := by decide +kernel
theorem dX5_copy_172 : decode cX5_copy 172 = .ok (.iload 4, 2) := by decide +kernel
theorem dX5_copy_174 : decode cX5_copy 174 = .ok (.iadd, 1) := by decide +kernel
theorem dX5_copy_175 : decode cX5_copy 175 = .ok (.iload 6, 2) := by decide +kernel
theorem dX5_copy_177 : decode cX5_copy 177 = .ok (.iadd, 1) := by decide +kernel
theorem dX5_copy_178 : decode cX5_copy 178 = .ok (.aload_n 0, 1) := by decide +kernel
theorem dX5_copy_179 : decode cX5_copy 179 = .ok (.getfield 38, 3) := by decide +kernel
theorem dX5_copy_182 : decode cX5_copy 182 = .ok (.iload 6, 2) := by decide +kernel
theorem dX5_copy_184 : decode cX5_copy 184 = .ok (.laload, 1) := by decide +kernel
theorem dX5_copy_185 : decode cX5_copy 185 = .ok (.lastore, 1) := by decide +kernel
theorem dX5_copy_186 : decode cX5_copy 186 = .ok (.iinc 6 1, 3) := by decide +kernel
theorem dX5_copy_189 : decode cX5_copy 189 = .ok (.goto (-32), 3) := by decide +kernel
theorem dX5_copy_192 : decode cX5_copy 192 = .ok (.iload 5, 2) := by decide +kernel
theorem dX5_copy_194 : decode cX5_copy 194 = .ok (.ireturn, 1) := by decide +kernel
theorem dX5_lays_0 : decode cX5_lays 0 = .ok (.aload_n 0, 1) := by decide +kernel
theorem dX5_lays_1 : decode cX5_lays 1 = .ok (.iload_n 1, 1) := by decide +kernel
theorem dX5_lays_2 : decode cX5_lays 2 = .ok (.invokevirtual 292, 3) := by decide +kernel
theorem dX5_lays_5 : decode cX5_lays 5 = .ok (.istore_n 2, 1) := by decide +kernel
theorem dX5_lays_6 : decode cX5_lays 6 = .ok (.iload_n 2, 1) := by decide +kernel
theorem dX5_lays_7 : decode cX5_lays 7 = .ok (.ifCond .eq 9, 3) := by decide +kernel
theorem dX5_lays_10 : decode cX5_lays 10 = .ok (.aload_n 0, 1) := by decide +kernel
theorem dX5_lays_11 : decode cX5_lays 11 = .ok (.iload_n 2, 1) := by decide +kernel
theorem dX5_lays_12 : decode cX5_lays 12 = .ok (.invokevirtual 66, 3) := by decide +kernel
theorem dX5_lays_15 : decode cX5_lays 15 = .ok (.ireturn, 1) := by decide +kernel
theorem dX5_lays_16 : decode cX5_lays 16 = .ok (.iconst 0, 1) := by decide +kernel
theorem dX5_lays_17 : decode cX5_lays 17 = .ok (.istore_n 3, 1) := by decide +kernel
theorem dX5_lays_18 : decode cX5_lays 18 = .ok (.iconst 0, 1) := by decide +kernel
theorem dX5_lays_19 : decode cX5_lays 19 = .ok (.istore 4, 2) := by decide +kernel
theorem dX5_lays_21 : decode cX5_lays 21 = .ok (.iload 4, 2) := by decide +kernel
theorem dX5_lays_23 : decode cX5_lays 23 = .ok (.aload_n 0, 1) := by decide +kernel
theorem dX5_lays_24 : decode cX5_lays 24 = .ok (.getfield 31, 3) := by decide +kernel
theorem dX5_lays_27 : decode cX5_lays 27 = .ok (.iload_n 1, 1) := by decide +kernel
theorem dX5_lays_28 : decode cX5_lays 28 = .ok (.iaload, 1) := by decide +kernel
theorem dX5_lays_29 : decode cX5_lays 29 = .ok (.if_icmp .ge 93, 3) := by decide +kernel
theorem dX5_lays_32 : decode cX5_lays 32 = .ok (.iload 4, 2) := by decide +kernel
theorem dX5_lays_34 : decode cX5_lays 34 = .ok (.aload_n 0, 1) := by decide +kernel
theorem dX5_lays_35 : decode cX5_lays 35 = .ok (.getfield 7, 3) := by decide +kernel
theorem dX5_lays_38 : decode cX5_lays 38 = .ok (.iconst 1, 1) := by decide +kernel
theorem dX5_lays_39 : decode cX5_lays 39 = .ok (.iaload, 1) := by decide +kernel
theorem dX5_lays_40 : decode cX5_lays 40 = .ok (.if_icmp .ge 82, 3) := by decide +kernel
theorem dX5_lays_43 : decode cX5_lays 43 = .ok (.aload_n 0, 1) := by decide +kernel
theorem dX5_lays_44 : decode cX5_lays 44 = .ok (.getfield 34, 3) := by decide +kernel
theorem dX5_lays_47 : decode cX5_lays 47 = .ok (.bipush 40, 2) := by decide +kernel
theorem dX5_lays_49 : decode cX5_lays 49 = .ok (.iload_n 1, 1) := by decide +kernel
theorem dX5_lays_50 : decode cX5_lays 50 = .ok (.imul, 1) := by decide +kernel
theorem dX5_lays_51 : decode cX5_lays 51 = .ok (.iload 4, 2) := by decide +kernel
theorem dX5_lays_53 : decode cX5_lays 53 = .ok (.iadd, 1) := by decide +kernel
theorem dX5_lays_54 : decode cX5_lays 54 = .ok (.laload, 1) := by decide +kernel
theorem dX5_lays_55 : decode cX5_lays 55 = .ok (.lconst 0, 1) := by decide +kernel
theorem dX5_lays_56 : decode cX5_lays 56 = .ok (.ldc2_w 123, 3) := by decide +kernel
theorem dX5_lays_59 : decode cX5_lays 59 = .ok (.invokestatic 46, 3) := by decide +kernel
theorem dX5_lays_62 : decode cX5_lays 62 = .ok (.istore 5, 2) := by decide +kernel
theorem dX5_lays_64 : decode cX5_lays 64 = .ok (.aload_n 0, 1) := by decide +kernel
theorem dX5_lays_65 : decode cX5_lays 65 = .ok (.getfield 7, 3) := by decide +kernel
theorem dX5_lays_68 : decode cX5_lays 68 = .ok (.iload 4, 2) := by decide +kernel
theorem dX5_lays_70 : decode cX5_lays 70 = .ok (.iconst 3, 1) := by decide +kernel
theorem dX5_lays_71 : decode cX5_lays 71 = .ok (.invokestatic 42, 3) := by decide +kernel
theorem dX5_lays_74 : decode cX5_lays 74 = .ok (.iload 5, 2) := by decide +kernel
theorem dX5_lays_76 : decode cX5_lays 76 = .ok (.ifCond .eq 19, 3) := by decide +kernel
theorem dX5_lays_79 : decode cX5_lays 79 = .ok (.aload_n 0, 1) := by decide +kernel
theorem dX5_lays_80 : decode cX5_lays 80 = .ok (.getfield 34, 3) := by decide +kernel
theorem dX5_lays_83 : decode cX5_lays 83 = .ok (.bipush 40, 2) := by decide +kernel
theorem dX5_lays_85 : decode cX5_lays 85 = .ok (.iload_n 1, 1) := by decide +kernel
theorem dX5_lays_86 : decode cX5_lays 86 = .ok (.imul, 1) := by decide +kernel
theorem dX5_lays_87 : decode cX5_lays 87 = .ok (.iload 4, 2) := by decide +kernel
theorem dX5_lays_89 : decode cX5_lays 89 = .ok (.iadd, 1) := by decide +kernel
theorem dX5_lays_90 : decode cX5_lays 90 = .ok (.laload, 1) := by decide +kernel
theorem dX5_lays_91 : decode cX5_lays 91 = .ok (.l2i, 1) := by decide +kernel
theorem dX5_lays_92 : decode cX5_lays 92 = .ok (.goto 10, 3) := by decide +kernel
theorem dX5_lays_95 : decode cX5_lays 95 = .ok (.aload_n 0, 1) := by decide +kernel
theorem dX5_lays_96 : decode cX5_lays 96 = .ok (.iload 4, 2) := by decide +kernel
theorem dX5_lays_98 : decode cX5_lays 98 = .ok (.iconst 3, 1) := by decide +kernel
theorem dX5_lays_99 : decode cX5_lays 99 = .ok (.invokevirtual 54, 3) := by decide +kernel
theorem dX5_lays_102 : decode cX5_lays 102 = .ok (.iastore, 1) := by decide +kernel
theorem dX5_lays_103 : decode cX5_lays 103 = .ok (.iload_n 3, 1) := by decide +kernel
theorem dX5_lays_104 : decode cX5_lays 104 = .ok (.iload 5, 2) := by decide +kernel
theorem dX5_lays_106 : decode cX5_lays 106 = .ok (.ifCond .eq 7, 3) := by decide +kernel
theorem dX5_lays_109 : decode cX5_lays 109 = .ok (.iconst 1, 1) := by decide +kernel
theorem dX5_lays_110 : decode cX5_lays 110 = .ok (.goto 4, 3) := by decide +kernel
theorem dX5_lays_113 : decode cX5_lays 113 = .ok (.iconst 0, 1) := by decide +kernel
theorem dX5_lays_114 : decode cX5_lays 114 = .ok (.iadd, 1) := by decide +kernel
theorem dX5_lays_115 : decode cX5_lays 115 = .ok (.istore_n 3, 1) := by decide +kernel
theorem dX5_lays_116 : decode cX5_lays 116 = .ok (.iinc 4 1, 3) := by decide +kernel
theorem dX5_lays_119 : decode cX5_lays 119 = .ok (.goto (-98), 3) := by decide +kernel
theorem dX5_lays_122 : decode cX5_lays 122 = .ok (.iload_n 3, 1) := by decide +kernel
theorem dX5_lays_123 : decode cX5_lays 123 = .ok (.ireturn, 1) := by decide +kernel
theorem dX5_book_0 : decode cX5_book 0 = .ok (.aload_n 0, 1) := by decide +kernel
theorem dX5_book_1 : decode cX5_book 1 = .ok (.iload_n 1, 1) := by decide +kernel
theorem dX5_book_2 : decode cX5_book 2 = .ok (.invokevirtual 292, 3) := by decide +kernel
theorem dX5_book_5 : decode cX5_book 5 = .ok (.istore_n 3, 1) := by decide +kernel
theorem dX5_book_6 : decode cX5_book 6 = .ok (.iload_n 3, 1) := by decide +kernel
theorem dX5_book_7 : decode cX5_book 7 = .ok (.ifCond .eq 9, 3) := by decide +kernel
theorem dX5_book_10 : decode cX5_book 10 = .ok (.aload_n 0, 1) := by decide +kernel
theorem dX5_book_11 : decode cX5_book 11 = .ok (.iload_n 3, 1) := by decide +kernel
theorem dX5_book_12 : decode cX5_book 12 = .ok (.invokevirtual 66, 3) := by decide +kernel
theorem dX5_book_15 : decode cX5_book 15 = .ok (.ireturn, 1) := by decide +kernel
theorem dX5_book_16 : decode cX5_book 16 = .ok (.aload_n 0, 1) := by decide +kernel
theorem dX5_book_17 : decode cX5_book 17 = .ok (.iload_n 2, 1) := by decide +kernel
theorem dX5_book_18 : decode cX5_book 18 = .ok (.invokevirtual 69, 3) := by decide +kernel
theorem dX5_book_21 : decode cX5_book 21 = .ok (.ifCond .ne 10, 3) := by decide +kernel
theorem dX5_book_24 : decode cX5_book 24 = .ok (.aload_n 0, 1) := by decide +kernel
theorem dX5_book_25 : decode cX5_book 25 = .ok (.ldc 41, 2) := by decide +kernel
theorem dX5_book_27 : decode cX5_book 27 = .ok (.invokevirtual 66, 3) := by decide +kernel
theorem dX5_book_30 : decode cX5_book 30 = .ok (.ireturn, 1) := by decide +kernel
theorem dX5_book_31 : decode cX5_book 31 = .ok (.aload_n 0, 1) := by decide +kernel
theorem dX5_book_32 : decode cX5_book 32 = .ok (.invokevirtual 153, 3) := by decide +kernel
theorem dX5_book_35 : decode cX5_book 35 = .ok (.iconst 0, 1) := by decide +kernel
theorem dX5_book_36 : decode cX5_book 36 = .ok (.istore 4, 2) := by decide +kernel
theorem dX5_book_38 : decode cX5_book 38 = .ok (.iload 4, 2) := by decide +kernel
theorem dX5_book_40 : decode cX5_book 40 = .ok (.aload_n 0, 1) := by decide +kernel
theorem dX5_book_41 : decode cX5_book 41 = .ok (.getfield 31, 3) := by decide +kernel
theorem dX5_book_44 : decode cX5_book 44 = .ok (.iload_n 1, 1) := by decide +kernel
theorem dX5_book_45 : decode cX5_book 45 = .ok (.iaload, 1) := by decide +kernel
theorem dX5_book_46 : decode cX5_book 46 = .ok (.if_icmp .ge 41, 3) := by decide +kernel
theorem dX5_book_49 : decode cX5_book 49 = .ok (.aload_n 0, 1) := by decide +kernel
theorem dX5_book_50 : decode cX5_book 50 = .ok (.getfield 34, 3) := by decide +kernel
theorem dX5_book_53 : decode cX5_book 53 = .ok (.bipush 40, 2) := by decide +kernel
theorem dX5_book_55 : decode cX5_book 55 = .ok (.iload_n 1, 1) := by decide +kernel
theorem dX5_book_56 : decode cX5_book 56 = .ok (.imul, 1) := by decide +kernel
theorem dX5_book_57 : decode cX5_book 57 = .ok (.iload 4, 2) := by decide +kernel
theorem dX5_book_59 : decode cX5_book 59 = .ok (.iadd, 1) := by decide +kernel
theorem dX5_book_60 : decode cX5_book 60 = .ok (.aload_n 0, 1) := by decide +kernel
theorem dX5_book_61 : decode cX5_book 61 = .ok (.getfield 28, 3) := by decide +kernel
theorem dX5_book_64 : decode cX5_book 64 = .ok (.iload_n 1, 1) := by decide +kernel
theorem dX5_book_65 : decode cX5_book 65 = .ok (.iaload, 1) := by decide +kernel
theorem dX5_book_66 : decode cX5_book 66 = .ok (.aload_n 0, 1) := by decide +kernel
theorem dX5_book_67 : decode cX5_book 67 = .ok (.iload_n 2, 1) := by decide +kernel
theorem dX5_book_68 : decode cX5_book 68 = .ok (.iconst 2, 1) := by decide +kernel
theorem dX5_book_69 : decode cX5_book 69 = .ok (.invokevirtual 54, 3) := by decide +kernel
theorem dX5_book_72 : decode cX5_book 72 = .ok (.i2l, 1) := by decide +kernel
theorem dX5_book_73 : decode cX5_book 73 = .ok (.invokestatic 295, 3) := by decide +kernel
theorem dX5_book_76 : decode cX5_book 76 = .ok (.lastore, 1) := by decide +kernel
theorem dX5_book_77 : decode cX5_book 77 = .ok (.aload_n 0, 1) := by decide +kernel
theorem dX5_book_78 : decode cX5_book 78 = .ok (.invokevirtual 141, 3) := by decide +kernel
theorem dX5_book_81 : decode cX5_book 81 = .ok (.iinc 4 1, 3) := by decide +kernel
theorem dX5_book_84 : decode cX5_book 84 = .ok (.goto (-46), 3) := by decide +kernel
theorem dX5_book_87 : decode cX5_book 87 = .ok (.aload_n 0, 1) := by decide +kernel
theorem dX5_book_88 : decode cX5_book 88 = .ok (.aload_n 0, 1) := by decide +kernel
theorem dX5_book_89 : decode cX5_book 89 = .ok (.getfield 31, 3) := by decide +kernel
theorem dX5_book_92 : decode cX5_book 92 = .ok (.iload_n 1, 1) := by decide +kernel
theorem dX5_book_93 : decode cX5_book 93 = .ok (.iaload, 1) := by decide +kernel
theorem dX5_book_94 : decode cX5_book 94 = .ok (.invokevirtual 156, 3) := by decide +kernel
theorem dX5_book_97 : decode cX5_book 97 = .ok (.ireturn, 1) := by decide +kernel
theorem dX5_isBook_0 : decode cX5_isBook 0 = .ok (.iconst 0, 1) := by decide +kernel
theorem dX5_isBook_1 : decode cX5_isBook 1 = .ok (.istore_n 3, 1) := by decide +kernel
theorem dX5_isBook_2 : decode cX5_isBook 2 = .ok (.iload_n 3, 1) := by decide +kernel
theorem dX5_isBook_3 : decode cX5_isBook 3 = .ok (.aload_n 0, 1) := by decide +kernel
theorem dX5_isBook_4 : decode cX5_isBook 4 = .ok (.getfield 31, 3) := by decide +kernel
theorem dX5_isBook_7 : decode cX5_isBook 7 = .ok (.iload_n 1, 1) := by decide +kernel
theorem dX5_isBook_8 : decode cX5_isBook 8 = .ok (.iaload, 1) := by decide +kernel
theorem dX5_isBook_9 : decode cX5_isBook 9 = .ok (.if_icmp .ge 37, 3) := by decide +kernel
theorem dX5_isBook_12 : decode cX5_isBook 12 = .ok (.aload_n 0, 1) := by decide +kernel
theorem dX5_isBook_13 : decode cX5_isBook 13 = .ok (.getfield 34, 3) := by decide +kernel
theorem dX5_isBook_16 : decode cX5_isBook 16 = .ok (.bipush 40, 2) := by decide +kernel
theorem dX5_isBook_18 : decode cX5_isBook 18 = .ok (.iload_n 1, 1) := by decide +kernel
theorem dX5_isBook_19 : decode cX5_isBook 19 = .ok (.imul, 1) := by decide +kernel
theorem dX5_isBook_20 : decode cX5_isBook 20 = .ok (.iload_n 3, 1) := by decide +kernel
theorem dX5_isBook_21 : decode cX5_isBook 21 = .ok (.iadd, 1) := by decide +kernel
theorem dX5_isBook_22 : decode cX5_isBook 22 = .ok (.laload, 1) := by decide +kernel
theorem dX5_isBook_23 : decode cX5_isBook 23 = .ok (.aload_n 0, 1) := by decide +kernel
theorem dX5_isBook_24 : decode cX5_isBook 24 = .ok (.iload_n 2, 1) := by decide +kernel
theorem dX5_isBook_25 : decode cX5_isBook 25 = .ok (.iconst 2, 1) := by decide +kernel
theorem dX5_isBook_26 : decode cX5_isBook 26 = .ok (.invokevirtual 54, 3) := by decide +kernel
theorem dX5_isBook_29 : decode cX5_isBook 29 = .ok (.i2l, 1) := by decide +kernel
theorem dX5_isBook_30 : decode cX5_isBook 30 = .ok (.lcmp, 1) := by decide +kernel
theorem dX5_isBook_31 : decode cX5_isBook 31 = .ok (.ifCond .eq 5, 3) := by decide +kernel
theorem dX5_isBook_34 : decode cX5_isBook 34 = .ok (.iconst 0, 1) := by decide +kernel
theorem dX5_isBook_35 : decode cX5_isBook 35 = .ok (.ireturn, 1) := by decide +kernel
theorem dX5_isBook_36 : decode cX5_isBook 36 = .ok (.aload_n 0, 1) := by decide +kernel
theorem dX5_isBook_37 : decode cX5_isBook 37 = .ok (.invokevirtual 141, 3) := by decide +kernel
theorem dX5_isBook_40 : decode cX5_isBook 40 = .ok (.iinc 3 1, 3) := by decide +kernel
theorem dX5_isBook_43 : decode cX5_isBook 43 = .ok (.goto (-41), 3) := by decide +kernel
theorem dX5_isBook_46 : decode cX5_isBook 46 = .ok (.iconst 1, 1) := by decide +kernel
theorem dX5_isBook_47 : decode cX5_isBook 47 = .ok (.ireturn, 1) := by decide +kernel
theorem dX5_read_0 : decode cX5_read 0 = .ok (.aload_n 0, 1) := by decide +kernel
theorem dX5_read_1 : decode cX5_read 1 = .ok (.iload_n 1, 1) := by decide +kernel
theorem dX5_read_2 : decode cX5_read 2 = .ok (.invokevirtual 292, 3) := by decide +kernel
theorem dX5_read_5 : decode cX5_read 5 = .ok (.istore_n 3, 1) := by decide +kernel
theorem dX5_read_6 : decode cX5_read 6 = .ok (.iload_n 3, 1) := by decide +kernel
theorem dX5_read_7 : decode cX5_read 7 = .ok (.ifCond .eq 9, 3) := by decide +kernel
theorem dX5_read_10 : decode cX5_read 10 = .ok (.aload_n 0, 1) := by decide +kernel
theorem dX5_read_11 : decode cX5_read 11 = .ok (.iload_n 3, 1) := by decide +kernel
theorem dX5_read_12 : decode cX5_read 12 = .ok (.invokevirtual 66, 3) := by decide +kernel
theorem dX5_read_15 : decode cX5_read 15 = .ok (.ireturn, 1) := by decide +kernel
theorem dX5_read_16 : decode cX5_read 16 = .ok (.aload_n 0, 1) := by decide +kernel
theorem dX5_read_17 : decode cX5_read 17 = .ok (.iload_n 2, 1) := by decide +kernel
theorem dX5_read_18 : decode cX5_read 18 = .ok (.invokevirtual 69, 3) := by decide +kernel
theorem dX5_read_21 : decode cX5_read 21 = .ok (.ifCond .ne 10, 3) := by decide +kernel
theorem dX5_read_24 : decode cX5_read 24 = .ok (.aload_n 0, 1) := by decide +kernel
theorem dX5_read_25 : decode cX5_read 25 = .ok (.ldc 41, 2) := by decide +kernel
theorem dX5_read_27 : decode cX5_read 27 = .ok (.invokevirtual 66, 3) := by decide +kernel
theorem dX5_read_30 : decode cX5_read 30 = .ok (.ireturn, 1) := by decide +kernel
theorem dX5_read_31 : decode cX5_read 31 = .ok (.aload_n 0, 1) := by decide +kernel
theorem dX5_read_32 : decode cX5_read 32 = .ok (.invokevirtual 153, 3) := by decide +kernel
theorem dX5_read_35 : decode cX5_read 35 = .ok (.iconst 0, 1) := by decide +kernel
theorem dX5_read_36 : decode cX5_read 36 = .ok (.istore 4, 2) := by decide +kernel
theorem dX5_read_38 : decode cX5_read 38 = .ok (.iconst 0, 1) := by decide +kernel
theorem dX5_read_39 : decode cX5_read 39 = .ok (.istore 5, 2) := by decide +kernel
theorem dX5_read_41 : decode cX5_read 41 = .ok (.iload 5, 2) := by decide +kernel
theorem dX5_read_43 : decode cX5_read 43 = .ok (.bipush 60, 2) := by decide +kernel
theorem dX5_read_45 : decode cX5_read 45 = .ok (.if_icmp .ge 58, 3) := by decide +kernel
theorem dX5_read_48 : decode cX5_read 48 = .ok (.aload_n 0, 1) := by decide +kernel
theorem dX5_read_49 : decode cX5_read 49 = .ok (.getfield 7, 3) := by decide +kernel
theorem dX5_read_52 : decode cX5_read 52 = .ok (.iload_n 2, 1) := by decide +kernel
theorem dX5_read_53 : decode cX5_read 53 = .ok (.iconst 0, 1) := by decide +kernel
theorem dX5_read_54 : decode cX5_read 54 = .ok (.invokestatic 42, 3) := by decide +kernel
theorem dX5_read_57 : decode cX5_read 57 = .ok (.iload 5, 2) := by decide +kernel
theorem dX5_read_59 : decode cX5_read 59 = .ok (.bipush 10, 2) := by decide +kernel
theorem dX5_read_61 : decode cX5_read 61 = .ok (.idiv, 1) := by decide +kernel
theorem dX5_read_62 : decode cX5_read 62 = .ok (.iastore, 1) := by decide +kernel
theorem dX5_read_63 : decode cX5_read 63 = .ok (.aload_n 0, 1) := by decide +kernel
theorem dX5_read_64 : decode cX5_read 64 = .ok (.getfield 7, 3) := by decide +kernel
theorem dX5_read_67 : decode cX5_read 67 = .ok (.iconst 4, 1) := by decide +kernel
theorem dX5_read_68 : decode cX5_read 68 = .ok (.iload 5, 2) := by decide +kernel
theorem dX5_read_70 : decode cX5_read 70 = .ok (.bipush 10, 2) := by decide +kernel
theorem dX5_read_72 : decode cX5_read 72 = .ok (.irem, 1) := by decide +kernel
theorem dX5_read_73 : decode cX5_read 73 = .ok (.iastore, 1) := by decide +kernel
theorem dX5_read_74 : decode cX5_read 74 = .ok (.aload_n 0, 1) := by decide +kernel
theorem dX5_read_75 : decode cX5_read 75 = .ok (.iload 4, 2) := by decide +kernel
theorem dX5_read_77 : decode cX5_read 77 = .ok (.aload_n 0, 1) := by decide +kernel
theorem dX5_read_78 : decode cX5_read 78 = .ok (.iload_n 1, 1) := by decide +kernel
theorem dX5_read_79 : decode cX5_read 79 = .ok (.iload_n 2, 1) := by decide +kernel
theorem dX5_read_80 : decode cX5_read 80 = .ok (.invokevirtual 299, 3) := by decide +kernel
theorem dX5_read_83 : decode cX5_read 83 = .ok (.ifCond .eq 7, 3) := by decide +kernel
theorem dX5_read_86 : decode cX5_read 86 = .ok (.iconst 1, 1) := by decide +kernel
theorem dX5_read_87 : decode cX5_read 87 = .ok (.goto 4, 3) := by decide +kernel
theorem dX5_read_90 : decode cX5_read 90 = .ok (.iconst 0, 1) := by decide +kernel
theorem dX5_read_91 : decode cX5_read 91 = .ok (.iadd, 1) := by decide +kernel
theorem dX5_read_92 : decode cX5_read 92 = .ok (.invokevirtual 156, 3) := by decide +kernel
theorem dX5_read_95 : decode cX5_read 95 = .ok (.istore 4, 2) := by decide +kernel
theorem dX5_read_97 : decode cX5_read 97 = .ok (.iinc 5 1, 3) := by decide +kernel
theorem dX5_read_100 : decode cX5_read 100 = .ok (.goto (-59), 3) := by decide +kernel
theorem dX5_read_103 : decode cX5_read 103 = .ok (.iload 4, 2) := by decide +kernel
theorem dX5_read_105 : decode cX5_read 105 = .ok (.ireturn, 1) := by decide +kernel
theorem dX5_image_0 : decode cX5_image 0 = .ok (.iconst 0, 1) := by decide +kernel
theorem dX5_image_1 : decode cX5_image 1 = .ok (.istore_n 1, 1) := by decide +kernel
theorem dX5_image_2 : decode cX5_image 2 = .ok (.iload_n 1, 1) := by decide +kernel
theorem dX5_image_3 : decode cX5_image 3 = .ok (.bipush 37, 2) := by decide +kernel
theorem dX5_image_5 : decode cX5_image 5 = .ok (.if_icmp .ge 21, 3) := by decide +kernel
theorem dX5_image_8 : decode cX5_image 8 = .ok (.aload_n 0, 1) := by decide +kernel
theorem dX5_image_9 : decode cX5_image 9 = .ok (.getfield 13, 3) := by decide +kernel
theorem dX5_image_12 : decode cX5_image 12 = .ok (.iload_n 1, 1) := by decide +kernel
theorem dX5_image_13 : decode cX5_image 13 = .ok (.aload_n 0, 1) := by decide +kernel
theorem dX5_image_14 : decode cX5_image 14 = .ok (.getfield 7, 3) := by decide +kernel
theorem dX5_image_17 : decode cX5_image 17 = .ok (.iload_n 1, 1) := by decide +kernel
theorem dX5_image_18 : decode cX5_image 18 = .ok (.iaload, 1) := by decide +kernel
theorem dX5_image_19 : decode cX5_image 19 = .ok (.iastore, 1) := by decide +kernel
theorem dX5_image_20 : decode cX5_image 20 = .ok (.iinc 1 1, 3) := by decide +kernel
theorem dX5_image_23 : decode cX5_image 23 = .ok (.goto (-21), 3) := by decide +kernel
theorem dX5_image_26 : decode cX5_image 26 = .ok (.aload_n 0, 1) := by decide +kernel
theorem dX5_image_27 : decode cX5_image 27 = .ok (.iconst 1, 1) := by decide +kernel
theorem dX5_image_28 : decode cX5_image 28 = .ok (.putfield 302, 3) := by decide +kernel
theorem dX5_image_31 : decode cX5_image 31 = .ok (.iconst 1, 1) := by decide +kernel
theorem dX5_image_32 : decode cX5_image 32 = .ok (.ireturn, 1) := by decide +kernel
theorem dX5_undo_0 : decode cX5_undo 0 = .ok (.aload_n 0, 1) := by decide +kernel
theorem dX5_undo_1 : decode cX5_undo 1 = .ok (.getfield 302, 3) := by decide +kernel
theorem dX5_undo_4 : decode cX5_undo 4 = .ok (.ifCond .ne 10, 3) := by decide +kernel
theorem dX5_undo_7 : decode cX5_undo 7 = .ok (.aload_n 0, 1) := by decide +kernel
theorem dX5_undo_8 : decode cX5_undo 8 = .ok (.ldc 165, 2) := by decide +kernel
theorem dX5_undo_10 : decode cX5_undo 10 = .ok (.invokevirtual 66, 3) := by decide +kernel
theorem dX5_undo_13 : decode cX5_undo 13 = .ok (.ireturn, 1) := by decide +kernel
theorem dX5_undo_14 : decode cX5_undo 14 = .ok (.iconst 0, 1) := by decide +kernel
theorem dX5_undo_15 : decode cX5_undo 15 = .ok (.istore_n 1, 1) := by decide +kernel
theorem dX5_undo_16 : decode cX5_undo 16 = .ok (.iload_n 1, 1) := by decide +kernel
theorem dX5_undo_17 : decode cX5_undo 17 = .ok (.bipush 37, 2) := by decide +kernel
theorem dX5_undo_19 : decode cX5_undo 19 = .ok (.if_icmp .ge 21, 3) := by decide +kernel
theorem dX5_undo_22 : decode cX5_undo 22 = .ok (.aload_n 0, 1) := by decide +kernel
theorem dX5_undo_23 : decode cX5_undo 23 = .ok (.getfield 7, 3) := by decide +kernel
theorem dX5_undo_26 : decode cX5_undo 26 = .ok (.iload_n 1, 1) := by decide +kernel
theorem dX5_undo_27 : decode cX5_undo 27 = .ok (.aload_n 0, 1) := by decide +kernel
theorem dX5_undo_28 : decode cX5_undo 28 = .ok (.getfield 13, 3) := by decide +kernel
theorem dX5_undo_31 : decode cX5_undo 31 = .ok (.iload_n 1, 1) := by decide +kernel
theorem dX5_undo_32 : decode cX5_undo 32 = .ok (.iaload, 1) := by decide +kernel
theorem dX5_undo_33 : decode cX5_undo 33 = .ok (.iastore, 1) := by decide +kernel
theorem dX5_undo_34 : decode cX5_undo 34 = .ok (.iinc 1 1, 3) := by decide +kernel
theorem dX5_undo_37 : decode cX5_undo 37 = .ok (.goto (-21), 3) := by decide +kernel
theorem dX5_undo_40 : decode cX5_undo 40 = .ok (.aload_n 0, 1) := by decide +kernel
theorem dX5_undo_41 : decode cX5_undo 41 = .ok (.getfield 7, 3) := by decide +kernel
theorem dX5_undo_44 : decode cX5_undo 44 = .ok (.iconst 1, 1) := by decide +kernel
theorem dX5_undo_45 : decode cX5_undo 45 = .ok (.iaload, 1) := by decide +kernel
theorem dX5_undo_46 : decode cX5_undo 46 = .ok (.ireturn, 1) := by decide +kernel
theorem dX5_tear_0 : decode cX5_tear 0 = .ok (.aload_n 0, 1) := by decide +kernel
theorem dX5_tear_1 : decode cX5_tear 1 = .ok (.getfield 302, 3) := by decide +kernel
theorem dX5_tear_4 : decode cX5_tear 4 = .ok (.ifCond .eq 7, 3) := by decide +kernel
theorem dX5_tear_7 : decode cX5_tear 7 = .ok (.iconst 1, 1) := by decide +kernel
theorem dX5_tear_8 : decode cX5_tear 8 = .ok (.goto 4, 3) := by decide +kernel
theorem dX5_tear_11 : decode cX5_tear 11 = .ok (.iconst 0, 1) := by decide +kernel
theorem dX5_tear_12 : decode cX5_tear 12 = .ok (.istore_n 1, 1) := by decide +kernel
theorem dX5_tear_13 : decode cX5_tear 13 = .ok (.aload_n 0, 1) := by decide +kernel
theorem dX5_tear_14 : decode cX5_tear 14 = .ok (.iconst 0, 1) := by decide +kernel
theorem dX5_tear_15 : decode cX5_tear 15 = .ok (.putfield 302, 3) := by decide +kernel
theorem dX5_tear_18 : decode cX5_tear 18 = .ok (.iload_n 1, 1) := by decide +kernel
theorem dX5_tear_19 : decode cX5_tear 19 = .ok (.ireturn, 1) := by decide +kernel
theorem dX5_rootsMany_0 : decode cX5_rootsMany 0 = .ok (.iconst 0, 1) := by decide +kernel
theorem dX5_rootsMany_1 : decode cX5_rootsMany 1 = .ok (.istore_n 1, 1) := by decide +kernel
theorem dX5_rootsMany_2 : decode cX5_rootsMany 2 = .ok (.iconst 0, 1) := by decide +kernel
theorem dX5_rootsMany_3 : decode cX5_rootsMany 3 = .ok (.istore_n 2, 1) := by decide +kernel
theorem dX5_rootsMany_4 : decode cX5_rootsMany 4 = .ok (.iload_n 2, 1) := by decide +kernel
theorem dX5_rootsMany_5 : decode cX5_rootsMany 5 = .ok (.bipush 30, 2) := by decide +kernel
theorem dX5_rootsMany_7 : decode cX5_rootsMany 7 = .ok (.if_icmp .ge 22, 3) := by decide +kernel
theorem dX5_rootsMany_10 : decode cX5_rootsMany 10 = .ok (.iload_n 1, 1) := by decide +kernel
theorem dX5_rootsMany_11 : decode cX5_rootsMany 11 = .ok (.aload_n 0, 1) := by decide +kernel
theorem dX5_rootsMany_12 : decode cX5_rootsMany 12 = .ok (.getfield 7, 3) := by decide +kernel
theorem dX5_rootsMany_15 : decode cX5_rootsMany 15 = .ok (.iconst 2, 1) := by decide +kernel
theorem dX5_rootsMany_16 : decode cX5_rootsMany 16 = .ok (.iaload, 1) := by decide +kernel
theorem dX5_rootsMany_17 : decode cX5_rootsMany 17 = .ok (.iload_n 2, 1) := by decide +kernel
theorem dX5_rootsMany_18 : decode cX5_rootsMany 18 = .ok (.ishr, 1) := by decide +kernel
theorem dX5_rootsMany_19 : decode cX5_rootsMany 19 = .ok (.iconst 1, 1) := by decide +kernel
theorem dX5_rootsMany_20 : decode cX5_rootsMany 20 = .ok (.iand, 1) := by decide +kernel
theorem dX5_rootsMany_21 : decode cX5_rootsMany 21 = .ok (.iadd, 1) := by decide +kernel
theorem dX5_rootsMany_22 : decode cX5_rootsMany 22 = .ok (.istore_n 1, 1) := by decide +kernel
theorem dX5_rootsMany_23 : decode cX5_rootsMany 23 = .ok (.iinc 2 1, 3) := by decide +kernel
theorem dX5_rootsMany_26 : decode cX5_rootsMany 26 = .ok (.goto (-22), 3) := by decide +kernel
theorem dX5_rootsMany_29 : decode cX5_rootsMany 29 = .ok (.iload_n 1, 1) := by decide +kernel
theorem dX5_rootsMany_30 : decode cX5_rootsMany 30 = .ok (.ireturn, 1) := by decide +kernel
theorem dX5_count_0 : decode cX5_count 0 = .ok (.iload_n 1, 1) := by decide +kernel
theorem dX5_count_1 : decode cX5_count 1 = .ok (.tableswitch 54 0 3 #[31, 38, 43, 48], 31) := by decide +kernel
theorem dX5_count_32 : decode cX5_count 32 = .ok (.aload_n 0, 1) := by decide +kernel
theorem dX5_count_33 : decode cX5_count 33 = .ok (.getfield 7, 3) := by decide +kernel
theorem dX5_count_36 : decode cX5_count 36 = .ok (.iconst 1, 1) := by decide +kernel
theorem dX5_count_37 : decode cX5_count 37 = .ok (.iaload, 1) := by decide +kernel
theorem dX5_count_38 : decode cX5_count 38 = .ok (.ireturn, 1) := by decide +kernel
theorem dX5_count_39 : decode cX5_count 39 = .ok (.aload_n 0, 1) := by decide +kernel
theorem dX5_count_40 : decode cX5_count 40 = .ok (.getfield 183, 3) := by decide +kernel
theorem dX5_count_43 : decode cX5_count 43 = .ok (.ireturn, 1) := by decide +kernel
theorem dX5_count_44 : decode cX5_count 44 = .ok (.aload_n 0, 1) := by decide +kernel
theorem dX5_count_45 : decode cX5_count 45 = .ok (.invokevirtual 305, 3) := by decide +kernel
theorem dX5_count_48 : decode cX5_count 48 = .ok (.ireturn, 1) := by decide +kernel
theorem dX5_count_49 : decode cX5_count 49 = .ok (.aload_n 0, 1) := by decide +kernel
theorem dX5_count_50 : decode cX5_count 50 = .ok (.iconst 3, 1) := by decide +kernel
theorem dX5_count_51 : decode cX5_count 51 = .ok (.invokevirtual 97, 3) := by decide +kernel
theorem dX5_count_54 : decode cX5_count 54 = .ok (.ireturn, 1) := by decide +kernel
theorem dX5_count_55 : decode cX5_count 55 = .ok (.aload_n 0, 1) := by decide +kernel
theorem dX5_count_56 : decode cX5_count 56 = .ok (.ldc 41, 2) := by decide +kernel
theorem dX5_count_58 : decode cX5_count 58 = .ok (.invokevirtual 66, 3) := by decide +kernel
theorem dX5_count_61 : decode cX5_count 61 = .ok (.ireturn, 1) := by decide +kernel
theorem dX5_status_0 : decode cX5_status 0 = .ok (.iload_n 1, 1) := by decide +kernel
theorem dX5_status_1 : decode cX5_status 1 = .ok (.i2l, 1) := by decide +kernel
theorem dX5_status_2 : decode cX5_status 2 = .ok (.ldc2_w 308, 3) := by decide +kernel
theorem dX5_status_5 : decode cX5_status 5 = .ok (.ldc2_w 310, 3) := by decide +kernel
theorem dX5_status_8 : decode cX5_status 8 = .ok (.invokestatic 46, 3) := by decide +kernel
theorem dX5_status_11 : decode cX5_status 11 = .ok (.ifCond .ne 10, 3) := by decide +kernel
theorem dX5_status_14 : decode cX5_status 14 = .ok (.aload_n 0, 1) := by decide +kernel
theorem dX5_status_15 : decode cX5_status 15 = .ok (.ldc 41, 2) := by decide +kernel
theorem dX5_status_17 : decode cX5_status 17 = .ok (.invokevirtual 66, 3) := by decide +kernel
theorem dX5_status_20 : decode cX5_status 20 = .ok (.ireturn, 1) := by decide +kernel
theorem dX5_status_21 : decode cX5_status 21 = .ok (.iconst 0, 1) := by decide +kernel
theorem dX5_status_22 : decode cX5_status 22 = .ok (.istore_n 2, 1) := by decide +kernel
theorem dX5_status_23 : decode cX5_status 23 = .ok (.iconst 0, 1) := by decide +kernel
theorem dX5_status_24 : decode cX5_status 24 = .ok (.istore_n 3, 1) := by decide +kernel
theorem dX5_status_25 : decode cX5_status 25 = .ok (.iload_n 3, 1) := by decide +kernel
theorem dX5_status_26 : decode cX5_status 26 = .ok (.bipush 7, 2) := by decide +kernel
theorem dX5_status_28 : decode cX5_status 28 = .ok (.if_icmp .ge 31, 3) := by decide +kernel
theorem dX5_status_31 : decode cX5_status 31 = .ok (.iload_n 2, 1) := by decide +kernel
theorem dX5_status_32 : decode cX5_status 32 = .ok (.iload_n 1, 1) := by decide +kernel
theorem dX5_status_33 : decode cX5_status 33 = .ok (.ifCond .lt 8, 3) := by decide +kernel
theorem dX5_status_36 : decode cX5_status 36 = .ok (.iload_n 3, 1) := by decide +kernel
theorem dX5_status_37 : decode cX5_status 37 = .ok (.iload_n 1, 1) := by decide +kernel
theorem dX5_status_38 : decode cX5_status 38 = .ok (.if_icmp .ne 12, 3) := by decide +kernel
theorem dX5_status_41 : decode cX5_status 41 = .ok (.aload_n 0, 1) := by decide +kernel
theorem dX5_status_42 : decode cX5_status 42 = .ok (.getfield 22, 3) := by decide +kernel
theorem dX5_status_45 : decode cX5_status 45 = .ok (.iload_n 3, 1) := by decide +kernel
theorem dX5_status_46 : decode cX5_status 46 = .ok (.iaload, 1) := by decide +kernel
theorem dX5_status_47 : decode cX5_status 47 = .ok (.goto 4, 3) := by decide +kernel
theorem dX5_status_50 : decode cX5_status 50 = .ok (.iconst 0, 1) := by decide +kernel
theorem dX5_status_51 : decode cX5_status 51 = .ok (.iadd, 1) := by decide +kernel
theorem dX5_status_52 : decode cX5_status 52 = .ok (.istore_n 2, 1) := by decide +kernel
theorem dX5_status_53 : decode cX5_status 53 = .ok (.iinc 3 1, 3) := by decide +kernel
theorem dX5_status_56 : decode cX5_status 56 = .ok (.goto (-31), 3) := by decide +kernel
theorem dX5_status_59 : decode cX5_status 59 = .ok (.iload_n 2, 1) := by decide +kernel
theorem dX5_status_60 : decode cX5_status 60 = .ok (.ireturn, 1) := by decide +kernel
end
section
theorem dL_law_0 : decode cL_law 0 = .ok (.new 7, 3) := by decide +kernel
theorem dL_law_3 : decode cL_law 3 = .ok (.dup, 1) := by decide +kernel
theorem dL_law_4 : decode cL_law 4 = .ok (.invokespecial 9, 3) := by decide +kernel
theorem dL_law_7 : decode cL_law 7 = .ok (.astore_n 1, 1) := by decide +kernel
theorem dL_law_8 : decode cL_law 8 = .ok (.new 10, 3) := by decide +kernel
theorem dL_law_11 : decode cL_law 11 = .ok (.dup, 1) := by decide +kernel
theorem dL_law_12 : decode cL_law 12 = .ok (.invokespecial 12, 3) := by decide +kernel
theorem dL_law_15 : decode cL_law 15 = .ok (.astore_n 2, 1) := by decide +kernel
theorem dL_law_16 : decode cL_law 16 = .ok (.iconst 0, 1) := by decide +kernel
theorem dL_law_17 : decode cL_law 17 = .ok (.istore_n 3, 1) := by decide +kernel
theorem dL_law_18 : decode cL_law 18 = .ok (.iload_n 3, 1) := by decide +kernel
theorem dL_law_19 : decode cL_law 19 = .ok (.aload_n 0, 1) := by decide +kernel
theorem dL_law_20 : decode cL_law 20 = .ok (.arraylength, 1) := by decide +kernel
theorem dL_law_21 : decode cL_law 21 = .ok (.bipush 6, 2) := by decide +kernel
theorem dL_law_23 : decode cL_law 23 = .ok (.isub, 1) := by decide +kernel
theorem dL_law_24 : decode cL_law 24 = .ok (.if_icmp .gt 1203, 3) := by decide +kernel
theorem dL_law_27 : decode cL_law 27 = .ok (.aload_n 0, 1) := by decide +kernel
theorem dL_law_28 : decode cL_law 28 = .ok (.iload_n 3, 1) := by decide +kernel
theorem dL_law_29 : decode cL_law 29 = .ok (.iaload, 1) := by decide +kernel
theorem dL_law_30 : decode cL_law 30 = .ok (.bipush 63, 2) := by decide +kernel
theorem dL_law_32 : decode cL_law 32 = .ok (.iand, 1) := by decide +kernel
theorem dL_law_33 : decode cL_law 33 = .ok (.tableswitch 1188 0 35 #[159, 182, 205, 228, 251, 274, 307, 350, 383, 416, 449, 472, 515, 538, 561, 584, 607, 630, 663, 696, 719, 752, 775, 808, 821, 834, 877, 951, 1014, 1037, 1070, 1103, 1116, 1129, 1142, 1165], 159) := by decide +kernel
theorem dL_law_192 : decode cL_law 192 = .ok (.aload_n 1, 1) := by decide +kernel
theorem dL_law_193 : decode cL_law 193 = .ok (.aload_n 0, 1) := by decide +kernel
theorem dL_law_194 : decode cL_law 194 = .ok (.iload_n 3, 1) := by decide +kernel
theorem dL_law_195 : decode cL_law 195 = .ok (.iconst 1, 1) := by decide +kernel
theorem dL_law_196 : decode cL_law 196 = .ok (.iadd, 1) := by decide +kernel
theorem dL_law_197 : decode cL_law 197 = .ok (.iaload, 1) := by decide +kernel
theorem dL_law_198 : decode cL_law 198 = .ok (.invokevirtual 13, 3) := by decide +kernel
theorem dL_law_201 : decode cL_law 201 = .ok (.aload_n 2, 1) := by decide +kernel
theorem dL_law_202 : decode cL_law 202 = .ok (.aload_n 0, 1) := by decide +kernel
theorem dL_law_203 : decode cL_law 203 = .ok (.iload_n 3, 1) := by decide +kernel
theorem dL_law_204 : decode cL_law 204 = .ok (.iconst 1, 1) := by decide +kernel
theorem dL_law_205 : decode cL_law 205 = .ok (.iadd, 1) := by decide +kernel
theorem dL_law_206 : decode cL_law 206 = .ok (.iaload, 1) := by decide +kernel
theorem dL_law_207 : decode cL_law 207 = .ok (.invokevirtual 17, 3) := by decide +kernel
theorem dL_law_210 : decode cL_law 210 = .ok (.if_icmp .eq 1011, 3) := by decide +kernel
theorem dL_law_213 : decode cL_law 213 = .ok (.iconst 0, 1) := by decide +kernel
theorem dL_law_214 : decode cL_law 214 = .ok (.ireturn, 1) := by decide +kernel
theorem dL_law_215 : decode cL_law 215 = .ok (.aload_n 1, 1) := by decide +kernel
theorem dL_law_216 : decode cL_law 216 = .ok (.aload_n 0, 1) := by decide +kernel
theorem dL_law_217 : decode cL_law 217 = .ok (.iload_n 3, 1) := by decide +kernel
theorem dL_law_218 : decode cL_law 218 = .ok (.iconst 1, 1) := by decide +kernel
theorem dL_law_219 : decode cL_law 219 = .ok (.iadd, 1) := by decide +kernel
theorem dL_law_220 : decode cL_law 220 = .ok (.iaload, 1) := by decide +kernel
theorem dL_law_221 : decode cL_law 221 = .ok (.invokevirtual 18, 3) := by decide +kernel
theorem dL_law_224 : decode cL_law 224 = .ok (.aload_n 2, 1) := by decide +kernel
theorem dL_law_225 : decode cL_law 225 = .ok (.aload_n 0, 1) := by decide +kernel
theorem dL_law_226 : decode cL_law 226 = .ok (.iload_n 3, 1) := by decide +kernel
theorem dL_law_227 : decode cL_law 227 = .ok (.iconst 1, 1) := by decide +kernel
theorem dL_law_228 : decode cL_law 228 = .ok (.iadd, 1) := by decide +kernel
theorem dL_law_229 : decode cL_law 229 = .ok (.iaload, 1) := by decide +kernel
theorem dL_law_230 : decode cL_law 230 = .ok (.invokevirtual 21, 3) := by decide +kernel
theorem dL_law_233 : decode cL_law 233 = .ok (.if_icmp .eq 988, 3) := by decide +kernel
theorem dL_law_236 : decode cL_law 236 = .ok (.iconst 0, 1) := by decide +kernel
theorem dL_law_237 : decode cL_law 237 = .ok (.ireturn, 1) := by decide +kernel
theorem dL_law_238 : decode cL_law 238 = .ok (.aload_n 1, 1) := by decide +kernel
theorem dL_law_239 : decode cL_law 239 = .ok (.aload_n 0, 1) := by decide +kernel
theorem dL_law_240 : decode cL_law 240 = .ok (.iload_n 3, 1) := by decide +kernel
theorem dL_law_241 : decode cL_law 241 = .ok (.iconst 1, 1) := by decide +kernel
theorem dL_law_242 : decode cL_law 242 = .ok (.iadd, 1) := by decide +kernel
theorem dL_law_243 : decode cL_law 243 = .ok (.iaload, 1) := by decide +kernel
theorem dL_law_244 : decode cL_law 244 = .ok (.invokevirtual 22, 3) := by decide +kernel
theorem dL_law_247 : decode cL_law 247 = .ok (.aload_n 2, 1) := by decide +kernel
theorem dL_law_248 : decode cL_law 248 = .ok (.aload_n 0, 1) := by decide +kernel
theorem dL_law_249 : decode cL_law 249 = .ok (.iload_n 3, 1) := by decide +kernel
theorem dL_law_250 : decode cL_law 250 = .ok (.iconst 1, 1) := by decide +kernel
theorem dL_law_251 : decode cL_law 251 = .ok (.iadd, 1) := by decide +kernel
theorem dL_law_252 : decode cL_law 252 = .ok (.iaload, 1) := by decide +kernel
theorem dL_law_253 : decode cL_law 253 = .ok (.invokevirtual 25, 3) := by decide +kernel
theorem dL_law_256 : decode cL_law 256 = .ok (.if_icmp .eq 965, 3) := by decide +kernel
theorem dL_law_259 : decode cL_law 259 = .ok (.iconst 0, 1) := by decide +kernel
theorem dL_law_260 : decode cL_law 260 = .ok (.ireturn, 1) := by decide +kernel
theorem dL_law_261 : decode cL_law 261 = .ok (.aload_n 1, 1) := by decide +kernel
theorem dL_law_262 : decode cL_law 262 = .ok (.aload_n 0, 1) := by decide +kernel
theorem dL_law_263 : decode cL_law 263 = .ok (.iload_n 3, 1) := by decide +kernel
theorem dL_law_264 : decode cL_law 264 = .ok (.iconst 1, 1) := by decide +kernel
theorem dL_law_265 : decode cL_law 265 = .ok (.iadd, 1) := by decide +kernel
theorem dL_law_266 : decode cL_law 266 = .ok (.iaload, 1) := by decide +kernel
theorem dL_law_267 : decode cL_law 267 = .ok (.invokevirtual 26, 3) := by decide +kernel
theorem dL_law_270 : decode cL_law 270 = .ok (.aload_n 2, 1) := by decide +kernel
theorem dL_law_271 : decode cL_law 271 = .ok (.aload_n 0, 1) := by decide +kernel
theorem dL_law_272 : decode cL_law 272 = .ok (.iload_n 3, 1) := by decide +kernel
theorem dL_law_273 : decode cL_law 273 = .ok (.iconst 1, 1) := by decide +kernel
theorem dL_law_274 : decode cL_law 274 = .ok (.iadd, 1) := by decide +kernel
theorem dL_law_275 : decode cL_law 275 = .ok (.iaload, 1) := by decide +kernel
theorem dL_law_276 : decode cL_law 276 = .ok (.invokevirtual 29, 3) := by decide +kernel
theorem dL_law_279 : decode cL_law 279 = .ok (.if_icmp .eq 942, 3) := by decide +kernel
theorem dL_law_282 : decode cL_law 282 = .ok (.iconst 0, 1) := by decide +kernel
theorem dL_law_283 : decode cL_law 283 = .ok (.ireturn, 1) := by decide +kernel
theorem dL_law_284 : decode cL_law 284 = .ok (.aload_n 1, 1) := by decide +kernel
theorem dL_law_285 : decode cL_law 285 = .ok (.aload_n 0, 1) := by decide +kernel
theorem dL_law_286 : decode cL_law 286 = .ok (.iload_n 3, 1) := by decide +kernel
theorem dL_law_287 : decode cL_law 287 = .ok (.iconst 1, 1) := by decide +kernel
theorem dL_law_288 : decode cL_law 288 = .ok (.iadd, 1) := by decide +kernel
theorem dL_law_289 : decode cL_law 289 = .ok (.iaload, 1) := by decide +kernel
theorem dL_law_290 : decode cL_law 290 = .ok (.invokevirtual 30, 3) := by decide +kernel
theorem dL_law_293 : decode cL_law 293 = .ok (.aload_n 2, 1) := by decide +kernel
theorem dL_law_294 : decode cL_law 294 = .ok (.aload_n 0, 1) := by decide +kernel
theorem dL_law_295 : decode cL_law 295 = .ok (.iload_n 3, 1) := by decide +kernel
theorem dL_law_296 : decode cL_law 296 = .ok (.iconst 1, 1) := by decide +kernel
theorem dL_law_297 : decode cL_law 297 = .ok (.iadd, 1) := by decide +kernel
theorem dL_law_298 : decode cL_law 298 = .ok (.iaload, 1) := by decide +kernel
theorem dL_law_299 : decode cL_law 299 = .ok (.invokevirtual 33, 3) := by decide +kernel
theorem dL_law_302 : decode cL_law 302 = .ok (.if_icmp .eq 919, 3) := by decide +kernel
theorem dL_law_305 : decode cL_law 305 = .ok (.iconst 0, 1) := by decide +kernel
theorem dL_law_306 : decode cL_law 306 = .ok (.ireturn, 1) := by decide +kernel
theorem dL_law_307 : decode cL_law 307 = .ok (.aload_n 1, 1) := by decide +kernel
theorem dL_law_308 : decode cL_law 308 = .ok (.aload_n 0, 1) := by decide +kernel
theorem dL_law_309 : decode cL_law 309 = .ok (.iload_n 3, 1) := by decide +kernel
theorem dL_law_310 : decode cL_law 310 = .ok (.iconst 1, 1) := by decide +kernel
theorem dL_law_311 : decode cL_law 311 = .ok (.iadd, 1) := by decide +kernel
theorem dL_law_312 : decode cL_law 312 = .ok (.iaload, 1) := by decide +kernel
theorem dL_law_313 : decode cL_law 313 = .ok (.aload_n 0, 1) := by decide +kernel
theorem dL_law_314 : decode cL_law 314 = .ok (.iload_n 3, 1) := by decide +kernel
theorem dL_law_315 : decode cL_law 315 = .ok (.iconst 2, 1) := by decide +kernel
theorem dL_law_316 : decode cL_law 316 = .ok (.iadd, 1) := by decide +kernel
theorem dL_law_317 : decode cL_law 317 = .ok (.iaload, 1) := by decide +kernel
theorem dL_law_318 : decode cL_law 318 = .ok (.invokevirtual 34, 3) := by decide +kernel
theorem dL_law_321 : decode cL_law 321 = .ok (.aload_n 2, 1) := by decide +kernel
theorem dL_law_322 : decode cL_law 322 = .ok (.aload_n 0, 1) := by decide +kernel
theorem dL_law_323 : decode cL_law 323 = .ok (.iload_n 3, 1) := by decide +kernel
theorem dL_law_324 : decode cL_law 324 = .ok (.iconst 1, 1) := by decide +kernel
theorem dL_law_325 : decode cL_law 325 = .ok (.iadd, 1) := by decide +kernel
theorem dL_law_326 : decode cL_law 326 = .ok (.iaload, 1) := by decide +kernel
theorem dL_law_327 : decode cL_law 327 = .ok (.aload_n 0, 1) := by decide +kernel
theorem dL_law_328 : decode cL_law 328 = .ok (.iload_n 3, 1) := by decide +kernel
theorem dL_law_329 : decode cL_law 329 = .ok (.iconst 2, 1) := by decide +kernel
theorem dL_law_330 : decode cL_law 330 = .ok (.iadd, 1) := by decide +kernel
theorem dL_law_331 : decode cL_law 331 = .ok (.iaload, 1) := by decide +kernel
theorem dL_law_332 : decode cL_law 332 = .ok (.invokevirtual 38, 3) := by decide +kernel
theorem dL_law_335 : decode cL_law 335 = .ok (.if_icmp .eq 886, 3) := by decide +kernel
theorem dL_law_338 : decode cL_law 338 = .ok (.iconst 0, 1) := by decide +kernel
theorem dL_law_339 : decode cL_law 339 = .ok (.ireturn, 1) := by decide +kernel
theorem dL_law_340 : decode cL_law 340 = .ok (.aload_n 1, 1) := by decide +kernel
theorem dL_law_341 : decode cL_law 341 = .ok (.aload_n 0, 1) := by decide +kernel
theorem dL_law_342 : decode cL_law 342 = .ok (.iload_n 3, 1) := by decide +kernel
theorem dL_law_343 : decode cL_law 343 = .ok (.iconst 1, 1) := by decide +kernel
theorem dL_law_344 : decode cL_law 344 = .ok (.iadd, 1) := by decide +kernel
theorem dL_law_345 : decode cL_law 345 = .ok (.iaload, 1) := by decide +kernel
theorem dL_law_346 : decode cL_law 346 = .ok (.aload_n 0, 1) := by decide +kernel
theorem dL_law_347 : decode cL_law 347 = .ok (.iload_n 3, 1) := by decide +kernel
theorem dL_law_348 : decode cL_law 348 = .ok (.iconst 2, 1) := by decide +kernel
theorem dL_law_349 : decode cL_law 349 = .ok (.iadd, 1) := by decide +kernel
theorem dL_law_350 : decode cL_law 350 = .ok (.iaload, 1) := by decide +kernel
theorem dL_law_351 : decode cL_law 351 = .ok (.aload_n 0, 1) := by decide +kernel
theorem dL_law_352 : decode cL_law 352 = .ok (.iload_n 3, 1) := by decide +kernel
theorem dL_law_353 : decode cL_law 353 = .ok (.iconst 3, 1) := by decide +kernel
theorem dL_law_354 : decode cL_law 354 = .ok (.iadd, 1) := by decide +kernel
theorem dL_law_355 : decode cL_law 355 = .ok (.iaload, 1) := by decide +kernel
theorem dL_law_356 : decode cL_law 356 = .ok (.invokevirtual 39, 3) := by decide +kernel
theorem dL_law_359 : decode cL_law 359 = .ok (.aload_n 2, 1) := by decide +kernel
theorem dL_law_360 : decode cL_law 360 = .ok (.aload_n 0, 1) := by decide +kernel
theorem dL_law_361 : decode cL_law 361 = .ok (.iload_n 3, 1) := by decide +kernel
theorem dL_law_362 : decode cL_law 362 = .ok (.iconst 1, 1) := by decide +kernel
theorem dL_law_363 : decode cL_law 363 = .ok (.iadd, 1) := by decide +kernel
theorem dL_law_364 : decode cL_law 364 = .ok (.iaload, 1) := by decide +kernel
theorem dL_law_365 : decode cL_law 365 = .ok (.aload_n 0, 1) := by decide +kernel
theorem dL_law_366 : decode cL_law 366 = .ok (.iload_n 3, 1) := by decide +kernel
theorem dL_law_367 : decode cL_law 367 = .ok (.iconst 2, 1) := by decide +kernel
theorem dL_law_368 : decode cL_law 368 = .ok (.iadd, 1) := by decide +kernel
theorem dL_law_369 : decode cL_law 369 = .ok (.iaload, 1) := by decide +kernel
theorem dL_law_370 : decode cL_law 370 = .ok (.aload_n 0, 1) := by decide +kernel
theorem dL_law_371 : decode cL_law 371 = .ok (.iload_n 3, 1) := by decide +kernel
theorem dL_law_372 : decode cL_law 372 = .ok (.iconst 3, 1) := by decide +kernel
theorem dL_law_373 : decode cL_law 373 = .ok (.iadd, 1) := by decide +kernel
theorem dL_law_374 : decode cL_law 374 = .ok (.iaload, 1) := by decide +kernel
theorem dL_law_375 : decode cL_law 375 = .ok (.invokevirtual 43, 3) := by decide +kernel
theorem dL_law_378 : decode cL_law 378 = .ok (.if_icmp .eq 843, 3) := by decide +kernel
theorem dL_law_381 : decode cL_law 381 = .ok (.iconst 0, 1) := by decide +kernel
theorem dL_law_382 : decode cL_law 382 = .ok (.ireturn, 1) := by decide +kernel
theorem dL_law_383 : decode cL_law 383 = .ok (.aload_n 1, 1) := by decide +kernel
theorem dL_law_384 : decode cL_law 384 = .ok (.aload_n 0, 1) := by decide +kernel
theorem dL_law_385 : decode cL_law 385 = .ok (.iload_n 3, 1) := by decide +kernel
theorem dL_law_386 : decode cL_law 386 = .ok (.iconst 1, 1) := by decide +kernel
theorem dL_law_387 : decode cL_law 387 = .ok (.iadd, 1) := by decide +kernel
theorem dL_law_388 : decode cL_law 388 = .ok (.iaload, 1) := by decide +kernel
theorem dL_law_389 : decode cL_law 389 = .ok (.aload_n 0, 1) := by decide +kernel
theorem dL_law_390 : decode cL_law 390 = .ok (.iload_n 3, 1) := by decide +kernel
theorem dL_law_391 : decode cL_law 391 = .ok (.iconst 2, 1) := by decide +kernel
theorem dL_law_392 : decode cL_law 392 = .ok (.iadd, 1) := by decide +kernel
theorem dL_law_393 : decode cL_law 393 = .ok (.iaload, 1) := by decide +kernel
theorem dL_law_394 : decode cL_law 394 = .ok (.invokevirtual 44, 3) := by decide +kernel
theorem dL_law_397 : decode cL_law 397 = .ok (.aload_n 2, 1) := by decide +kernel
theorem dL_law_398 : decode cL_law 398 = .ok (.aload_n 0, 1) := by decide +kernel
theorem dL_law_399 : decode cL_law 399 = .ok (.iload_n 3, 1) := by decide +kernel
theorem dL_law_400 : decode cL_law 400 = .ok (.iconst 1, 1) := by decide +kernel
theorem dL_law_401 : decode cL_law 401 = .ok (.iadd, 1) := by decide +kernel
theorem dL_law_402 : decode cL_law 402 = .ok (.iaload, 1) := by decide +kernel
theorem dL_law_403 : decode cL_law 403 = .ok (.aload_n 0, 1) := by decide +kernel
theorem dL_law_404 : decode cL_law 404 = .ok (.iload_n 3, 1) := by decide +kernel
theorem dL_law_405 : decode cL_law 405 = .ok (.iconst 2, 1) := by decide +kernel
theorem dL_law_406 : decode cL_law 406 = .ok (.iadd, 1) := by decide +kernel
theorem dL_law_407 : decode cL_law 407 = .ok (.iaload, 1) := by decide +kernel
theorem dL_law_408 : decode cL_law 408 = .ok (.invokevirtual 47, 3) := by decide +kernel
theorem dL_law_411 : decode cL_law 411 = .ok (.if_icmp .eq 810, 3) := by decide +kernel
theorem dL_law_414 : decode cL_law 414 = .ok (.iconst 0, 1) := by decide +kernel
theorem dL_law_415 : decode cL_law 415 = .ok (.ireturn, 1) := by decide +kernel
theorem dL_law_416 : decode cL_law 416 = .ok (.aload_n 1, 1) := by decide +kernel
theorem dL_law_417 : decode cL_law 417 = .ok (.aload_n 0, 1) := by decide +kernel
theorem dL_law_418 : decode cL_law 418 = .ok (.iload_n 3, 1) := by decide +kernel
theorem dL_law_419 : decode cL_law 419 = .ok (.iconst 1, 1) := by decide +kernel
theorem dL_law_420 : decode cL_law 420 = .ok (.iadd, 1) := by decide +kernel
theorem dL_law_421 : decode cL_law 421 = .ok (.iaload, 1) := by decide +kernel
theorem dL_law_422 : decode cL_law 422 = .ok (.aload_n 0, 1) := by decide +kernel
theorem dL_law_423 : decode cL_law 423 = .ok (.iload_n 3, 1) := by decide +kernel
theorem dL_law_424 : decode cL_law 424 = .ok (.iconst 2, 1) := by decide +kernel
theorem dL_law_425 : decode cL_law 425 = .ok (.iadd, 1) := by decide +kernel
theorem dL_law_426 : decode cL_law 426 = .ok (.iaload, 1) := by decide +kernel
theorem dL_law_427 : decode cL_law 427 = .ok (.invokevirtual 48, 3) := by decide +kernel
theorem dL_law_430 : decode cL_law 430 = .ok (.aload_n 2, 1) := by decide +kernel
theorem dL_law_431 : decode cL_law 431 = .ok (.aload_n 0, 1) := by decide +kernel
theorem dL_law_432 : decode cL_law 432 = .ok (.iload_n 3, 1) := by decide +kernel
theorem dL_law_433 : decode cL_law 433 = .ok (.iconst 1, 1) := by decide +kernel
theorem dL_law_434 : decode cL_law 434 = .ok (.iadd, 1) := by decide +kernel
theorem dL_law_435 : decode cL_law 435 = .ok (.iaload, 1) := by decide +kernel
theorem dL_law_436 : decode cL_law 436 = .ok (.aload_n 0, 1) := by decide +kernel
theorem dL_law_437 : decode cL_law 437 = .ok (.iload_n 3, 1) := by decide +kernel
theorem dL_law_438 : decode cL_law 438 = .ok (.iconst 2, 1) := by decide +kernel
theorem dL_law_439 : decode cL_law 439 = .ok (.iadd, 1) := by decide +kernel
theorem dL_law_440 : decode cL_law 440 = .ok (.iaload, 1) := by decide +kernel
theorem dL_law_441 : decode cL_law 441 = .ok (.invokevirtual 51, 3) := by decide +kernel
theorem dL_law_444 : decode cL_law 444 = .ok (.if_icmp .eq 777, 3) := by decide +kernel
theorem dL_law_447 : decode cL_law 447 = .ok (.iconst 0, 1) := by decide +kernel
theorem dL_law_448 : decode cL_law 448 = .ok (.ireturn, 1) := by decide +kernel
theorem dL_law_449 : decode cL_law 449 = .ok (.aload_n 1, 1) := by decide +kernel
theorem dL_law_450 : decode cL_law 450 = .ok (.aload_n 0, 1) := by decide +kernel
theorem dL_law_451 : decode cL_law 451 = .ok (.iload_n 3, 1) := by decide +kernel
theorem dL_law_452 : decode cL_law 452 = .ok (.iconst 1, 1) := by decide +kernel
theorem dL_law_453 : decode cL_law 453 = .ok (.iadd, 1) := by decide +kernel
theorem dL_law_454 : decode cL_law 454 = .ok (.iaload, 1) := by decide +kernel
theorem dL_law_455 : decode cL_law 455 = .ok (.aload_n 0, 1) := by decide +kernel
theorem dL_law_456 : decode cL_law 456 = .ok (.iload_n 3, 1) := by decide +kernel
theorem dL_law_457 : decode cL_law 457 = .ok (.iconst 2, 1) := by decide +kernel
theorem dL_law_458 : decode cL_law 458 = .ok (.iadd, 1) := by decide +kernel
theorem dL_law_459 : decode cL_law 459 = .ok (.iaload, 1) := by decide +kernel
theorem dL_law_460 : decode cL_law 460 = .ok (.invokevirtual 52, 3) := by decide +kernel
theorem dL_law_463 : decode cL_law 463 = .ok (.aload_n 2, 1) := by decide +kernel
theorem dL_law_464 : decode cL_law 464 = .ok (.aload_n 0, 1) := by decide +kernel
theorem dL_law_465 : decode cL_law 465 = .ok (.iload_n 3, 1) := by decide +kernel
theorem dL_law_466 : decode cL_law 466 = .ok (.iconst 1, 1) := by decide +kernel
theorem dL_law_467 : decode cL_law 467 = .ok (.iadd, 1) := by decide +kernel
theorem dL_law_468 : decode cL_law 468 = .ok (.iaload, 1) := by decide +kernel
theorem dL_law_469 : decode cL_law 469 = .ok (.aload_n 0, 1) := by decide +kernel
theorem dL_law_470 : decode cL_law 470 = .ok (.iload_n 3, 1) := by decide +kernel
theorem dL_law_471 : decode cL_law 471 = .ok (.iconst 2, 1) := by decide +kernel
theorem dL_law_472 : decode cL_law 472 = .ok (.iadd, 1) := by decide +kernel
theorem dL_law_473 : decode cL_law 473 = .ok (.iaload, 1) := by decide +kernel
theorem dL_law_474 : decode cL_law 474 = .ok (.invokevirtual 55, 3) := by decide +kernel
theorem dL_law_477 : decode cL_law 477 = .ok (.if_icmp .eq 744, 3) := by decide +kernel
theorem dL_law_480 : decode cL_law 480 = .ok (.iconst 0, 1) := by decide +kernel
theorem dL_law_481 : decode cL_law 481 = .ok (.ireturn, 1) := by decide +kernel
theorem dL_law_482 : decode cL_law 482 = .ok (.aload_n 1, 1) := by decide +kernel
theorem dL_law_483 : decode cL_law 483 = .ok (.aload_n 0, 1) := by decide +kernel
theorem dL_law_484 : decode cL_law 484 = .ok (.iload_n 3, 1) := by decide +kernel
theorem dL_law_485 : decode cL_law 485 = .ok (.iconst 1, 1) := by decide +kernel
theorem dL_law_486 : decode cL_law 486 = .ok (.iadd, 1) := by decide +kernel
theorem dL_law_487 : decode cL_law 487 = .ok (.iaload, 1) := by decide +kernel
theorem dL_law_488 : decode cL_law 488 = .ok (.invokevirtual 56, 3) := by decide +kernel
theorem dL_law_491 : decode cL_law 491 = .ok (.aload_n 2, 1) := by decide +kernel
theorem dL_law_492 : decode cL_law 492 = .ok (.aload_n 0, 1) := by decide +kernel
theorem dL_law_493 : decode cL_law 493 = .ok (.iload_n 3, 1) := by decide +kernel
theorem dL_law_494 : decode cL_law 494 = .ok (.iconst 1, 1) := by decide +kernel
theorem dL_law_495 : decode cL_law 495 = .ok (.iadd, 1) := by decide +kernel
theorem dL_law_496 : decode cL_law 496 = .ok (.iaload, 1) := by decide +kernel
theorem dL_law_497 : decode cL_law 497 = .ok (.invokevirtual 59, 3) := by decide +kernel
theorem dL_law_500 : decode cL_law 500 = .ok (.if_icmp .eq 721, 3) := by decide +kernel
theorem dL_law_503 : decode cL_law 503 = .ok (.iconst 0, 1) := by decide +kernel
theorem dL_law_504 : decode cL_law 504 = .ok (.ireturn, 1) := by decide +kernel
theorem dL_law_505 : decode cL_law 505 = .ok (.aload_n 1, 1) := by decide +kernel
theorem dL_law_506 : decode cL_law 506 = .ok (.aload_n 0, 1) := by decide +kernel
theorem dL_law_507 : decode cL_law 507 = .ok (.iload_n 3, 1) := by decide +kernel
theorem dL_law_508 : decode cL_law 508 = .ok (.iconst 1, 1) := by decide +kernel
theorem dL_law_509 : decode cL_law 509 = .ok (.iadd, 1) := by decide +kernel
theorem dL_law_510 : decode cL_law 510 = .ok (.iaload, 1) := by decide +kernel
theorem dL_law_511 : decode cL_law 511 = .ok (.aload_n 0, 1) := by decide +kernel
theorem dL_law_512 : decode cL_law 512 = .ok (.iload_n 3, 1) := by decide +kernel
theorem dL_law_513 : decode cL_law 513 = .ok (.iconst 2, 1) := by decide +kernel
theorem dL_law_514 : decode cL_law 514 = .ok (.iadd, 1) := by decide +kernel
theorem dL_law_515 : decode cL_law 515 = .ok (.iaload, 1) := by decide +kernel
theorem dL_law_516 : decode cL_law 516 = .ok (.aload_n 0, 1) := by decide +kernel
theorem dL_law_517 : decode cL_law 517 = .ok (.iload_n 3, 1) := by decide +kernel
theorem dL_law_518 : decode cL_law 518 = .ok (.iconst 3, 1) := by decide +kernel
theorem dL_law_519 : decode cL_law 519 = .ok (.iadd, 1) := by decide +kernel
theorem dL_law_520 : decode cL_law 520 = .ok (.iaload, 1) := by decide +kernel
theorem dL_law_521 : decode cL_law 521 = .ok (.invokevirtual 60, 3) := by decide +kernel
theorem dL_law_524 : decode cL_law 524 = .ok (.aload_n 2, 1) := by decide +kernel
theorem dL_law_525 : decode cL_law 525 = .ok (.aload_n 0, 1) := by decide +kernel
theorem dL_law_526 : decode cL_law 526 = .ok (.iload_n 3, 1) := by decide +kernel
theorem dL_law_527 : decode cL_law 527 = .ok (.iconst 1, 1) := by decide +kernel
theorem dL_law_528 : decode cL_law 528 = .ok (.iadd, 1) := by decide +kernel
theorem dL_law_529 : decode cL_law 529 = .ok (.iaload, 1) := by decide +kernel
theorem dL_law_530 : decode cL_law 530 = .ok (.aload_n 0, 1) := by decide +kernel
theorem dL_law_531 : decode cL_law 531 = .ok (.iload_n 3, 1) := by decide +kernel
theorem dL_law_532 : decode cL_law 532 = .ok (.iconst 2, 1) := by decide +kernel
theorem dL_law_533 : decode cL_law 533 = .ok (.iadd, 1) := by decide +kernel
theorem dL_law_534 : decode cL_law 534 = .ok (.iaload, 1) := by decide +kernel
theorem dL_law_535 : decode cL_law 535 = .ok (.aload_n 0, 1) := by decide +kernel
theorem dL_law_536 : decode cL_law 536 = .ok (.iload_n 3, 1) := by decide +kernel
theorem dL_law_537 : decode cL_law 537 = .ok (.iconst 3, 1) := by decide +kernel
theorem dL_law_538 : decode cL_law 538 = .ok (.iadd, 1) := by decide +kernel
theorem dL_law_539 : decode cL_law 539 = .ok (.iaload, 1) := by decide +kernel
theorem dL_law_540 : decode cL_law 540 = .ok (.invokevirtual 63, 3) := by decide +kernel
theorem dL_law_543 : decode cL_law 543 = .ok (.if_icmp .eq 678, 3) := by decide +kernel
theorem dL_law_546 : decode cL_law 546 = .ok (.iconst 0, 1) := by decide +kernel
theorem dL_law_547 : decode cL_law 547 = .ok (.ireturn, 1) := by decide +kernel
theorem dL_law_548 : decode cL_law 548 = .ok (.aload_n 1, 1) := by decide +kernel
theorem dL_law_549 : decode cL_law 549 = .ok (.aload_n 0, 1) := by decide +kernel
theorem dL_law_550 : decode cL_law 550 = .ok (.iload_n 3, 1) := by decide +kernel
theorem dL_law_551 : decode cL_law 551 = .ok (.iconst 1, 1) := by decide +kernel
theorem dL_law_552 : decode cL_law 552 = .ok (.iadd, 1) := by decide +kernel
theorem dL_law_553 : decode cL_law 553 = .ok (.iaload, 1) := by decide +kernel
theorem dL_law_554 : decode cL_law 554 = .ok (.invokevirtual 64, 3) := by decide +kernel
theorem dL_law_557 : decode cL_law 557 = .ok (.aload_n 2, 1) := by decide +kernel
theorem dL_law_558 : decode cL_law 558 = .ok (.aload_n 0, 1) := by decide +kernel
theorem dL_law_559 : decode cL_law 559 = .ok (.iload_n 3, 1) := by decide +kernel
theorem dL_law_560 : decode cL_law 560 = .ok (.iconst 1, 1) := by decide +kernel
theorem dL_law_561 : decode cL_law 561 = .ok (.iadd, 1) := by decide +kernel
theorem dL_law_562 : decode cL_law 562 = .ok (.iaload, 1) := by decide +kernel
theorem dL_law_563 : decode cL_law 563 = .ok (.invokevirtual 67, 3) := by decide +kernel
theorem dL_law_566 : decode cL_law 566 = .ok (.if_icmp .eq 655, 3) := by decide +kernel
theorem dL_law_569 : decode cL_law 569 = .ok (.iconst 0, 1) := by decide +kernel
theorem dL_law_570 : decode cL_law 570 = .ok (.ireturn, 1) := by decide +kernel
theorem dL_law_571 : decode cL_law 571 = .ok (.aload_n 1, 1) := by decide +kernel
theorem dL_law_572 : decode cL_law 572 = .ok (.aload_n 0, 1) := by decide +kernel
theorem dL_law_573 : decode cL_law 573 = .ok (.iload_n 3, 1) := by decide +kernel
theorem dL_law_574 : decode cL_law 574 = .ok (.iconst 1, 1) := by decide +kernel
theorem dL_law_575 : decode cL_law 575 = .ok (.iadd, 1) := by decide +kernel
theorem dL_law_576 : decode cL_law 576 = .ok (.iaload, 1) := by decide +kernel
theorem dL_law_577 : decode cL_law 577 = .ok (.invokevirtual 68, 3) := by decide +kernel
theorem dL_law_580 : decode cL_law 580 = .ok (.aload_n 2, 1) := by decide +kernel
theorem dL_law_581 : decode cL_law 581 = .ok (.aload_n 0, 1) := by decide +kernel
theorem dL_law_582 : decode cL_law 582 = .ok (.iload_n 3, 1) := by decide +kernel
theorem dL_law_583 : decode cL_law 583 = .ok (.iconst 1, 1) := by decide +kernel
theorem dL_law_584 : decode cL_law 584 = .ok (.iadd, 1) := by decide +kernel
theorem dL_law_585 : decode cL_law 585 = .ok (.iaload, 1) := by decide +kernel
theorem dL_law_586 : decode cL_law 586 = .ok (.invokevirtual 71, 3) := by decide +kernel
theorem dL_law_589 : decode cL_law 589 = .ok (.if_icmp .eq 632, 3) := by decide +kernel
theorem dL_law_592 : decode cL_law 592 = .ok (.iconst 0, 1) := by decide +kernel
theorem dL_law_593 : decode cL_law 593 = .ok (.ireturn, 1) := by decide +kernel
theorem dL_law_594 : decode cL_law 594 = .ok (.aload_n 1, 1) := by decide +kernel
theorem dL_law_595 : decode cL_law 595 = .ok (.aload_n 0, 1) := by decide +kernel
theorem dL_law_596 : decode cL_law 596 = .ok (.iload_n 3, 1) := by decide +kernel
theorem dL_law_597 : decode cL_law 597 = .ok (.iconst 1, 1) := by decide +kernel
theorem dL_law_598 : decode cL_law 598 = .ok (.iadd, 1) := by decide +kernel
theorem dL_law_599 : decode cL_law 599 = .ok (.iaload, 1) := by decide +kernel
theorem dL_law_600 : decode cL_law 600 = .ok (.invokevirtual 72, 3) := by decide +kernel
theorem dL_law_603 : decode cL_law 603 = .ok (.aload_n 2, 1) := by decide +kernel
theorem dL_law_604 : decode cL_law 604 = .ok (.aload_n 0, 1) := by decide +kernel
theorem dL_law_605 : decode cL_law 605 = .ok (.iload_n 3, 1) := by decide +kernel
theorem dL_law_606 : decode cL_law 606 = .ok (.iconst 1, 1) := by decide +kernel
theorem dL_law_607 : decode cL_law 607 = .ok (.iadd, 1) := by decide +kernel
theorem dL_law_608 : decode cL_law 608 = .ok (.iaload, 1) := by decide +kernel
theorem dL_law_609 : decode cL_law 609 = .ok (.invokevirtual 75, 3) := by decide +kernel
theorem dL_law_612 : decode cL_law 612 = .ok (.if_icmp .eq 609, 3) := by decide +kernel
theorem dL_law_615 : decode cL_law 615 = .ok (.iconst 0, 1) := by decide +kernel
theorem dL_law_616 : decode cL_law 616 = .ok (.ireturn, 1) := by decide +kernel
theorem dL_law_617 : decode cL_law 617 = .ok (.aload_n 1, 1) := by decide +kernel
theorem dL_law_618 : decode cL_law 618 = .ok (.aload_n 0, 1) := by decide +kernel
theorem dL_law_619 : decode cL_law 619 = .ok (.iload_n 3, 1) := by decide +kernel
theorem dL_law_620 : decode cL_law 620 = .ok (.iconst 1, 1) := by decide +kernel
theorem dL_law_621 : decode cL_law 621 = .ok (.iadd, 1) := by decide +kernel
theorem dL_law_622 : decode cL_law 622 = .ok (.iaload, 1) := by decide +kernel
theorem dL_law_623 : decode cL_law 623 = .ok (.invokevirtual 76, 3) := by decide +kernel
theorem dL_law_626 : decode cL_law 626 = .ok (.aload_n 2, 1) := by decide +kernel
theorem dL_law_627 : decode cL_law 627 = .ok (.aload_n 0, 1) := by decide +kernel
theorem dL_law_628 : decode cL_law 628 = .ok (.iload_n 3, 1) := by decide +kernel
theorem dL_law_629 : decode cL_law 629 = .ok (.iconst 1, 1) := by decide +kernel
theorem dL_law_630 : decode cL_law 630 = .ok (.iadd, 1) := by decide +kernel
theorem dL_law_631 : decode cL_law 631 = .ok (.iaload, 1) := by decide +kernel
theorem dL_law_632 : decode cL_law 632 = .ok (.invokevirtual 79, 3) := by decide +kernel
theorem dL_law_635 : decode cL_law 635 = .ok (.if_icmp .eq 586, 3) := by decide +kernel
theorem dL_law_638 : decode cL_law 638 = .ok (.iconst 0, 1) := by decide +kernel
theorem dL_law_639 : decode cL_law 639 = .ok (.ireturn, 1) := by decide +kernel
theorem dL_law_640 : decode cL_law 640 = .ok (.aload_n 1, 1) := by decide +kernel
theorem dL_law_641 : decode cL_law 641 = .ok (.aload_n 0, 1) := by decide +kernel
theorem dL_law_642 : decode cL_law 642 = .ok (.iload_n 3, 1) := by decide +kernel
theorem dL_law_643 : decode cL_law 643 = .ok (.iconst 1, 1) := by decide +kernel
theorem dL_law_644 : decode cL_law 644 = .ok (.iadd, 1) := by decide +kernel
theorem dL_law_645 : decode cL_law 645 = .ok (.iaload, 1) := by decide +kernel
theorem dL_law_646 : decode cL_law 646 = .ok (.invokevirtual 80, 3) := by decide +kernel
theorem dL_law_649 : decode cL_law 649 = .ok (.aload_n 2, 1) := by decide +kernel
theorem dL_law_650 : decode cL_law 650 = .ok (.aload_n 0, 1) := by decide +kernel
theorem dL_law_651 : decode cL_law 651 = .ok (.iload_n 3, 1) := by decide +kernel
theorem dL_law_652 : decode cL_law 652 = .ok (.iconst 1, 1) := by decide +kernel
theorem dL_law_653 : decode cL_law 653 = .ok (.iadd, 1) := by decide +kernel
theorem dL_law_654 : decode cL_law 654 = .ok (.iaload, 1) := by decide +kernel
theorem dL_law_655 : decode cL_law 655 = .ok (.invokevirtual 83, 3) := by decide +kernel
theorem dL_law_658 : decode cL_law 658 = .ok (.if_icmp .eq 563, 3) := by decide +kernel
theorem dL_law_661 : decode cL_law 661 = .ok (.iconst 0, 1) := by decide +kernel
theorem dL_law_662 : decode cL_law 662 = .ok (.ireturn, 1) := by decide +kernel
theorem dL_law_663 : decode cL_law 663 = .ok (.aload_n 1, 1) := by decide +kernel
theorem dL_law_664 : decode cL_law 664 = .ok (.aload_n 0, 1) := by decide +kernel
theorem dL_law_665 : decode cL_law 665 = .ok (.iload_n 3, 1) := by decide +kernel
theorem dL_law_666 : decode cL_law 666 = .ok (.iconst 1, 1) := by decide +kernel
theorem dL_law_667 : decode cL_law 667 = .ok (.iadd, 1) := by decide +kernel
theorem dL_law_668 : decode cL_law 668 = .ok (.iaload, 1) := by decide +kernel
theorem dL_law_669 : decode cL_law 669 = .ok (.aload_n 0, 1) := by decide +kernel
theorem dL_law_670 : decode cL_law 670 = .ok (.iload_n 3, 1) := by decide +kernel
theorem dL_law_671 : decode cL_law 671 = .ok (.iconst 2, 1) := by decide +kernel
theorem dL_law_672 : decode cL_law 672 = .ok (.iadd, 1) := by decide +kernel
theorem dL_law_673 : decode cL_law 673 = .ok (.iaload, 1) := by decide +kernel
theorem dL_law_674 : decode cL_law 674 = .ok (.invokevirtual 84, 3) := by decide +kernel
theorem dL_law_677 : decode cL_law 677 = .ok (.aload_n 2, 1) := by decide +kernel
theorem dL_law_678 : decode cL_law 678 = .ok (.aload_n 0, 1) := by decide +kernel
theorem dL_law_679 : decode cL_law 679 = .ok (.iload_n 3, 1) := by decide +kernel
theorem dL_law_680 : decode cL_law 680 = .ok (.iconst 1, 1) := by decide +kernel
theorem dL_law_681 : decode cL_law 681 = .ok (.iadd, 1) := by decide +kernel
theorem dL_law_682 : decode cL_law 682 = .ok (.iaload, 1) := by decide +kernel
theorem dL_law_683 : decode cL_law 683 = .ok (.aload_n 0, 1) := by decide +kernel
theorem dL_law_684 : decode cL_law 684 = .ok (.iload_n 3, 1) := by decide +kernel
theorem dL_law_685 : decode cL_law 685 = .ok (.iconst 2, 1) := by decide +kernel
theorem dL_law_686 : decode cL_law 686 = .ok (.iadd, 1) := by decide +kernel
theorem dL_law_687 : decode cL_law 687 = .ok (.iaload, 1) := by decide +kernel
theorem dL_law_688 : decode cL_law 688 = .ok (.invokevirtual 87, 3) := by decide +kernel
theorem dL_law_691 : decode cL_law 691 = .ok (.if_icmp .eq 530, 3) := by decide +kernel
theorem dL_law_694 : decode cL_law 694 = .ok (.iconst 0, 1) := by decide +kernel
theorem dL_law_695 : decode cL_law 695 = .ok (.ireturn, 1) := by decide +kernel
theorem dL_law_696 : decode cL_law 696 = .ok (.aload_n 1, 1) := by decide +kernel
theorem dL_law_697 : decode cL_law 697 = .ok (.aload_n 0, 1) := by decide +kernel
theorem dL_law_698 : decode cL_law 698 = .ok (.iload_n 3, 1) := by decide +kernel
theorem dL_law_699 : decode cL_law 699 = .ok (.iconst 1, 1) := by decide +kernel
theorem dL_law_700 : decode cL_law 700 = .ok (.iadd, 1) := by decide +kernel
theorem dL_law_701 : decode cL_law 701 = .ok (.iaload, 1) := by decide +kernel
theorem dL_law_702 : decode cL_law 702 = .ok (.aload_n 0, 1) := by decide +kernel
theorem dL_law_703 : decode cL_law 703 = .ok (.iload_n 3, 1) := by decide +kernel
theorem dL_law_704 : decode cL_law 704 = .ok (.iconst 2, 1) := by decide +kernel
theorem dL_law_705 : decode cL_law 705 = .ok (.iadd, 1) := by decide +kernel
theorem dL_law_706 : decode cL_law 706 = .ok (.iaload, 1) := by decide +kernel
theorem dL_law_707 : decode cL_law 707 = .ok (.invokevirtual 88, 3) := by decide +kernel
theorem dL_law_710 : decode cL_law 710 = .ok (.aload_n 2, 1) := by decide +kernel
theorem dL_law_711 : decode cL_law 711 = .ok (.aload_n 0, 1) := by decide +kernel
theorem dL_law_712 : decode cL_law 712 = .ok (.iload_n 3, 1) := by decide +kernel
theorem dL_law_713 : decode cL_law 713 = .ok (.iconst 1, 1) := by decide +kernel
theorem dL_law_714 : decode cL_law 714 = .ok (.iadd, 1) := by decide +kernel
theorem dL_law_715 : decode cL_law 715 = .ok (.iaload, 1) := by decide +kernel
theorem dL_law_716 : decode cL_law 716 = .ok (.aload_n 0, 1) := by decide +kernel
theorem dL_law_717 : decode cL_law 717 = .ok (.iload_n 3, 1) := by decide +kernel
theorem dL_law_718 : decode cL_law 718 = .ok (.iconst 2, 1) := by decide +kernel
theorem dL_law_719 : decode cL_law 719 = .ok (.iadd, 1) := by decide +kernel
theorem dL_law_720 : decode cL_law 720 = .ok (.iaload, 1) := by decide +kernel
theorem dL_law_721 : decode cL_law 721 = .ok (.invokevirtual 91, 3) := by decide +kernel
theorem dL_law_724 : decode cL_law 724 = .ok (.if_icmp .eq 497, 3) := by decide +kernel
theorem dL_law_727 : decode cL_law 727 = .ok (.iconst 0, 1) := by decide +kernel
theorem dL_law_728 : decode cL_law 728 = .ok (.ireturn, 1) := by decide +kernel
theorem dL_law_729 : decode cL_law 729 = .ok (.aload_n 1, 1) := by decide +kernel
theorem dL_law_730 : decode cL_law 730 = .ok (.aload_n 0, 1) := by decide +kernel
theorem dL_law_731 : decode cL_law 731 = .ok (.iload_n 3, 1) := by decide +kernel
theorem dL_law_732 : decode cL_law 732 = .ok (.iconst 1, 1) := by decide +kernel
theorem dL_law_733 : decode cL_law 733 = .ok (.iadd, 1) := by decide +kernel
theorem dL_law_734 : decode cL_law 734 = .ok (.iaload, 1) := by decide +kernel
theorem dL_law_735 : decode cL_law 735 = .ok (.invokevirtual 92, 3) := by decide +kernel
theorem dL_law_738 : decode cL_law 738 = .ok (.aload_n 2, 1) := by decide +kernel
theorem dL_law_739 : decode cL_law 739 = .ok (.aload_n 0, 1) := by decide +kernel
theorem dL_law_740 : decode cL_law 740 = .ok (.iload_n 3, 1) := by decide +kernel
theorem dL_law_741 : decode cL_law 741 = .ok (.iconst 1, 1) := by decide +kernel
theorem dL_law_742 : decode cL_law 742 = .ok (.iadd, 1) := by decide +kernel
theorem dL_law_743 : decode cL_law 743 = .ok (.iaload, 1) := by decide +kernel
theorem dL_law_744 : decode cL_law 744 = .ok (.invokevirtual 95, 3) := by decide +kernel
theorem dL_law_747 : decode cL_law 747 = .ok (.if_icmp .eq 474, 3) := by decide +kernel
theorem dL_law_750 : decode cL_law 750 = .ok (.iconst 0, 1) := by decide +kernel
theorem dL_law_751 : decode cL_law 751 = .ok (.ireturn, 1) := by decide +kernel
theorem dL_law_752 : decode cL_law 752 = .ok (.aload_n 1, 1) := by decide +kernel
theorem dL_law_753 : decode cL_law 753 = .ok (.aload_n 0, 1) := by decide +kernel
theorem dL_law_754 : decode cL_law 754 = .ok (.iload_n 3, 1) := by decide +kernel
theorem dL_law_755 : decode cL_law 755 = .ok (.iconst 1, 1) := by decide +kernel
theorem dL_law_756 : decode cL_law 756 = .ok (.iadd, 1) := by decide +kernel
theorem dL_law_757 : decode cL_law 757 = .ok (.iaload, 1) := by decide +kernel
theorem dL_law_758 : decode cL_law 758 = .ok (.aload_n 0, 1) := by decide +kernel
theorem dL_law_759 : decode cL_law 759 = .ok (.iload_n 3, 1) := by decide +kernel
theorem dL_law_760 : decode cL_law 760 = .ok (.iconst 2, 1) := by decide +kernel
theorem dL_law_761 : decode cL_law 761 = .ok (.iadd, 1) := by decide +kernel
theorem dL_law_762 : decode cL_law 762 = .ok (.iaload, 1) := by decide +kernel
theorem dL_law_763 : decode cL_law 763 = .ok (.invokevirtual 96, 3) := by decide +kernel
theorem dL_law_766 : decode cL_law 766 = .ok (.aload_n 2, 1) := by decide +kernel
theorem dL_law_767 : decode cL_law 767 = .ok (.aload_n 0, 1) := by decide +kernel
theorem dL_law_768 : decode cL_law 768 = .ok (.iload_n 3, 1) := by decide +kernel
theorem dL_law_769 : decode cL_law 769 = .ok (.iconst 1, 1) := by decide +kernel
theorem dL_law_770 : decode cL_law 770 = .ok (.iadd, 1) := by decide +kernel
theorem dL_law_771 : decode cL_law 771 = .ok (.iaload, 1) := by decide +kernel
theorem dL_law_772 : decode cL_law 772 = .ok (.aload_n 0, 1) := by decide +kernel
theorem dL_law_773 : decode cL_law 773 = .ok (.iload_n 3, 1) := by decide +kernel
theorem dL_law_774 : decode cL_law 774 = .ok (.iconst 2, 1) := by decide +kernel
theorem dL_law_775 : decode cL_law 775 = .ok (.iadd, 1) := by decide +kernel
theorem dL_law_776 : decode cL_law 776 = .ok (.iaload, 1) := by decide +kernel
theorem dL_law_777 : decode cL_law 777 = .ok (.invokevirtual 99, 3) := by decide +kernel
theorem dL_law_780 : decode cL_law 780 = .ok (.if_icmp .eq 441, 3) := by decide +kernel
theorem dL_law_783 : decode cL_law 783 = .ok (.iconst 0, 1) := by decide +kernel
theorem dL_law_784 : decode cL_law 784 = .ok (.ireturn, 1) := by decide +kernel
theorem dL_law_785 : decode cL_law 785 = .ok (.aload_n 1, 1) := by decide +kernel
theorem dL_law_786 : decode cL_law 786 = .ok (.aload_n 0, 1) := by decide +kernel
theorem dL_law_787 : decode cL_law 787 = .ok (.iload_n 3, 1) := by decide +kernel
theorem dL_law_788 : decode cL_law 788 = .ok (.iconst 1, 1) := by decide +kernel
theorem dL_law_789 : decode cL_law 789 = .ok (.iadd, 1) := by decide +kernel
theorem dL_law_790 : decode cL_law 790 = .ok (.iaload, 1) := by decide +kernel
theorem dL_law_791 : decode cL_law 791 = .ok (.invokevirtual 100, 3) := by decide +kernel
theorem dL_law_794 : decode cL_law 794 = .ok (.aload_n 2, 1) := by decide +kernel
theorem dL_law_795 : decode cL_law 795 = .ok (.aload_n 0, 1) := by decide +kernel
theorem dL_law_796 : decode cL_law 796 = .ok (.iload_n 3, 1) := by decide +kernel
theorem dL_law_797 : decode cL_law 797 = .ok (.iconst 1, 1) := by decide +kernel
theorem dL_law_798 : decode cL_law 798 = .ok (.iadd, 1) := by decide +kernel
theorem dL_law_799 : decode cL_law 799 = .ok (.iaload, 1) := by decide +kernel
theorem dL_law_800 : decode cL_law 800 = .ok (.invokevirtual 103, 3) := by decide +kernel
theorem dL_law_803 : decode cL_law 803 = .ok (.if_icmp .eq 418, 3) := by decide +kernel
theorem dL_law_806 : decode cL_law 806 = .ok (.iconst 0, 1) := by decide +kernel
theorem dL_law_807 : decode cL_law 807 = .ok (.ireturn, 1) := by decide +kernel
theorem dL_law_808 : decode cL_law 808 = .ok (.aload_n 1, 1) := by decide +kernel
theorem dL_law_809 : decode cL_law 809 = .ok (.aload_n 0, 1) := by decide +kernel
theorem dL_law_810 : decode cL_law 810 = .ok (.iload_n 3, 1) := by decide +kernel
theorem dL_law_811 : decode cL_law 811 = .ok (.iconst 1, 1) := by decide +kernel
theorem dL_law_812 : decode cL_law 812 = .ok (.iadd, 1) := by decide +kernel
theorem dL_law_813 : decode cL_law 813 = .ok (.iaload, 1) := by decide +kernel
theorem dL_law_814 : decode cL_law 814 = .ok (.aload_n 0, 1) := by decide +kernel
theorem dL_law_815 : decode cL_law 815 = .ok (.iload_n 3, 1) := by decide +kernel
theorem dL_law_816 : decode cL_law 816 = .ok (.iconst 2, 1) := by decide +kernel
theorem dL_law_817 : decode cL_law 817 = .ok (.iadd, 1) := by decide +kernel
theorem dL_law_818 : decode cL_law 818 = .ok (.iaload, 1) := by decide +kernel
theorem dL_law_819 : decode cL_law 819 = .ok (.invokevirtual 104, 3) := by decide +kernel
theorem dL_law_822 : decode cL_law 822 = .ok (.aload_n 2, 1) := by decide +kernel
theorem dL_law_823 : decode cL_law 823 = .ok (.aload_n 0, 1) := by decide +kernel
theorem dL_law_824 : decode cL_law 824 = .ok (.iload_n 3, 1) := by decide +kernel
theorem dL_law_825 : decode cL_law 825 = .ok (.iconst 1, 1) := by decide +kernel
theorem dL_law_826 : decode cL_law 826 = .ok (.iadd, 1) := by decide +kernel
theorem dL_law_827 : decode cL_law 827 = .ok (.iaload, 1) := by decide +kernel
theorem dL_law_828 : decode cL_law 828 = .ok (.aload_n 0, 1) := by decide +kernel
theorem dL_law_829 : decode cL_law 829 = .ok (.iload_n 3, 1) := by decide +kernel
theorem dL_law_830 : decode cL_law 830 = .ok (.iconst 2, 1) := by decide +kernel
theorem dL_law_831 : decode cL_law 831 = .ok (.iadd, 1) := by decide +kernel
theorem dL_law_832 : decode cL_law 832 = .ok (.iaload, 1) := by decide +kernel
theorem dL_law_833 : decode cL_law 833 = .ok (.invokevirtual 107, 3) := by decide +kernel
theorem dL_law_836 : decode cL_law 836 = .ok (.if_icmp .eq 385, 3) := by decide +kernel
theorem dL_law_839 : decode cL_law 839 = .ok (.iconst 0, 1) := by decide +kernel
theorem dL_law_840 : decode cL_law 840 = .ok (.ireturn, 1) := by decide +kernel
theorem dL_law_841 : decode cL_law 841 = .ok (.aload_n 1, 1) := by decide +kernel
theorem dL_law_842 : decode cL_law 842 = .ok (.invokevirtual 108, 3) := by decide +kernel
theorem dL_law_845 : decode cL_law 845 = .ok (.aload_n 2, 1) := by decide +kernel
theorem dL_law_846 : decode cL_law 846 = .ok (.invokevirtual 112, 3) := by decide +kernel
theorem dL_law_849 : decode cL_law 849 = .ok (.if_icmp .eq 372, 3) := by decide +kernel
theorem dL_law_852 : decode cL_law 852 = .ok (.iconst 0, 1) := by decide +kernel
theorem dL_law_853 : decode cL_law 853 = .ok (.ireturn, 1) := by decide +kernel
theorem dL_law_854 : decode cL_law 854 = .ok (.aload_n 1, 1) := by decide +kernel
theorem dL_law_855 : decode cL_law 855 = .ok (.invokevirtual 113, 3) := by decide +kernel
theorem dL_law_858 : decode cL_law 858 = .ok (.aload_n 2, 1) := by decide +kernel
theorem dL_law_859 : decode cL_law 859 = .ok (.invokevirtual 116, 3) := by decide +kernel
theorem dL_law_862 : decode cL_law 862 = .ok (.if_icmp .eq 359, 3) := by decide +kernel
theorem dL_law_865 : decode cL_law 865 = .ok (.iconst 0, 1) := by decide +kernel
theorem dL_law_866 : decode cL_law 866 = .ok (.ireturn, 1) := by decide +kernel
theorem dL_law_867 : decode cL_law 867 = .ok (.aload_n 1, 1) := by decide +kernel
theorem dL_law_868 : decode cL_law 868 = .ok (.aload_n 0, 1) := by decide +kernel
theorem dL_law_869 : decode cL_law 869 = .ok (.iload_n 3, 1) := by decide +kernel
theorem dL_law_870 : decode cL_law 870 = .ok (.iconst 1, 1) := by decide +kernel
theorem dL_law_871 : decode cL_law 871 = .ok (.iadd, 1) := by decide +kernel
theorem dL_law_872 : decode cL_law 872 = .ok (.iaload, 1) := by decide +kernel
theorem dL_law_873 : decode cL_law 873 = .ok (.aload_n 0, 1) := by decide +kernel
theorem dL_law_874 : decode cL_law 874 = .ok (.iload_n 3, 1) := by decide +kernel
theorem dL_law_875 : decode cL_law 875 = .ok (.iconst 2, 1) := by decide +kernel
theorem dL_law_876 : decode cL_law 876 = .ok (.iadd, 1) := by decide +kernel
theorem dL_law_877 : decode cL_law 877 = .ok (.iaload, 1) := by decide +kernel
theorem dL_law_878 : decode cL_law 878 = .ok (.aload_n 0, 1) := by decide +kernel
theorem dL_law_879 : decode cL_law 879 = .ok (.iload_n 3, 1) := by decide +kernel
theorem dL_law_880 : decode cL_law 880 = .ok (.iconst 3, 1) := by decide +kernel
theorem dL_law_881 : decode cL_law 881 = .ok (.iadd, 1) := by decide +kernel
theorem dL_law_882 : decode cL_law 882 = .ok (.iaload, 1) := by decide +kernel
theorem dL_law_883 : decode cL_law 883 = .ok (.invokevirtual 117, 3) := by decide +kernel
theorem dL_law_886 : decode cL_law 886 = .ok (.aload_n 2, 1) := by decide +kernel
theorem dL_law_887 : decode cL_law 887 = .ok (.aload_n 0, 1) := by decide +kernel
theorem dL_law_888 : decode cL_law 888 = .ok (.iload_n 3, 1) := by decide +kernel
theorem dL_law_889 : decode cL_law 889 = .ok (.iconst 1, 1) := by decide +kernel
theorem dL_law_890 : decode cL_law 890 = .ok (.iadd, 1) := by decide +kernel
theorem dL_law_891 : decode cL_law 891 = .ok (.iaload, 1) := by decide +kernel
theorem dL_law_892 : decode cL_law 892 = .ok (.aload_n 0, 1) := by decide +kernel
theorem dL_law_893 : decode cL_law 893 = .ok (.iload_n 3, 1) := by decide +kernel
theorem dL_law_894 : decode cL_law 894 = .ok (.iconst 2, 1) := by decide +kernel
theorem dL_law_895 : decode cL_law 895 = .ok (.iadd, 1) := by decide +kernel
theorem dL_law_896 : decode cL_law 896 = .ok (.iaload, 1) := by decide +kernel
theorem dL_law_897 : decode cL_law 897 = .ok (.aload_n 0, 1) := by decide +kernel
theorem dL_law_898 : decode cL_law 898 = .ok (.iload_n 3, 1) := by decide +kernel
theorem dL_law_899 : decode cL_law 899 = .ok (.iconst 3, 1) := by decide +kernel
theorem dL_law_900 : decode cL_law 900 = .ok (.iadd, 1) := by decide +kernel
theorem dL_law_901 : decode cL_law 901 = .ok (.iaload, 1) := by decide +kernel
theorem dL_law_902 : decode cL_law 902 = .ok (.invokevirtual 120, 3) := by decide +kernel
theorem dL_law_905 : decode cL_law 905 = .ok (.if_icmp .eq 316, 3) := by decide +kernel
theorem dL_law_908 : decode cL_law 908 = .ok (.iconst 0, 1) := by decide +kernel
theorem dL_law_909 : decode cL_law 909 = .ok (.ireturn, 1) := by decide +kernel
theorem dL_law_910 : decode cL_law 910 = .ok (.aload_n 1, 1) := by decide +kernel
theorem dL_law_911 : decode cL_law 911 = .ok (.aload_n 0, 1) := by decide +kernel
theorem dL_law_912 : decode cL_law 912 = .ok (.iload_n 3, 1) := by decide +kernel
theorem dL_law_913 : decode cL_law 913 = .ok (.iconst 1, 1) := by decide +kernel
theorem dL_law_914 : decode cL_law 914 = .ok (.iadd, 1) := by decide +kernel
theorem dL_law_915 : decode cL_law 915 = .ok (.iaload, 1) := by decide +kernel
theorem dL_law_916 : decode cL_law 916 = .ok (.aload_n 0, 1) := by decide +kernel
theorem dL_law_917 : decode cL_law 917 = .ok (.iload_n 3, 1) := by decide +kernel
theorem dL_law_918 : decode cL_law 918 = .ok (.iconst 2, 1) := by decide +kernel
theorem dL_law_919 : decode cL_law 919 = .ok (.iadd, 1) := by decide +kernel
theorem dL_law_920 : decode cL_law 920 = .ok (.iaload, 1) := by decide +kernel
theorem dL_law_921 : decode cL_law 921 = .ok (.aload_n 0, 1) := by decide +kernel
theorem dL_law_922 : decode cL_law 922 = .ok (.iload_n 3, 1) := by decide +kernel
theorem dL_law_923 : decode cL_law 923 = .ok (.iconst 3, 1) := by decide +kernel
theorem dL_law_924 : decode cL_law 924 = .ok (.iadd, 1) := by decide +kernel
theorem dL_law_925 : decode cL_law 925 = .ok (.iaload, 1) := by decide +kernel
theorem dL_law_926 : decode cL_law 926 = .ok (.i2l, 1) := by decide +kernel
theorem dL_law_927 : decode cL_law 927 = .ok (.bipush 32, 2) := by decide +kernel
theorem dL_law_929 : decode cL_law 929 = .ok (.lshl, 1) := by decide +kernel
theorem dL_law_930 : decode cL_law 930 = .ok (.aload_n 0, 1) := by decide +kernel
theorem dL_law_931 : decode cL_law 931 = .ok (.iload_n 3, 1) := by decide +kernel
theorem dL_law_932 : decode cL_law 932 = .ok (.iconst 4, 1) := by decide +kernel
theorem dL_law_933 : decode cL_law 933 = .ok (.iadd, 1) := by decide +kernel
theorem dL_law_934 : decode cL_law 934 = .ok (.iaload, 1) := by decide +kernel
theorem dL_law_935 : decode cL_law 935 = .ok (.i2l, 1) := by decide +kernel
theorem dL_law_936 : decode cL_law 936 = .ok (.ldc2_w 121, 3) := by decide +kernel
theorem dL_law_939 : decode cL_law 939 = .ok (.land, 1) := by decide +kernel
theorem dL_law_940 : decode cL_law 940 = .ok (.lor, 1) := by decide +kernel
theorem dL_law_941 : decode cL_law 941 = .ok (.invokevirtual 123, 3) := by decide +kernel
theorem dL_law_944 : decode cL_law 944 = .ok (.aload_n 2, 1) := by decide +kernel
theorem dL_law_945 : decode cL_law 945 = .ok (.aload_n 0, 1) := by decide +kernel
theorem dL_law_946 : decode cL_law 946 = .ok (.iload_n 3, 1) := by decide +kernel
theorem dL_law_947 : decode cL_law 947 = .ok (.iconst 1, 1) := by decide +kernel
theorem dL_law_948 : decode cL_law 948 = .ok (.iadd, 1) := by decide +kernel
theorem dL_law_949 : decode cL_law 949 = .ok (.iaload, 1) := by decide +kernel
theorem dL_law_950 : decode cL_law 950 = .ok (.aload_n 0, 1) := by decide +kernel
theorem dL_law_951 : decode cL_law 951 = .ok (.iload_n 3, 1) := by decide +kernel
theorem dL_law_952 : decode cL_law 952 = .ok (.iconst 2, 1) := by decide +kernel
theorem dL_law_953 : decode cL_law 953 = .ok (.iadd, 1) := by decide +kernel
theorem dL_law_954 : decode cL_law 954 = .ok (.iaload, 1) := by decide +kernel
theorem dL_law_955 : decode cL_law 955 = .ok (.aload_n 0, 1) := by decide +kernel
theorem dL_law_956 : decode cL_law 956 = .ok (.iload_n 3, 1) := by decide +kernel
theorem dL_law_957 : decode cL_law 957 = .ok (.iconst 3, 1) := by decide +kernel
theorem dL_law_958 : decode cL_law 958 = .ok (.iadd, 1) := by decide +kernel
theorem dL_law_959 : decode cL_law 959 = .ok (.iaload, 1) := by decide +kernel
theorem dL_law_960 : decode cL_law 960 = .ok (.i2l, 1) := by decide +kernel
theorem dL_law_961 : decode cL_law 961 = .ok (.bipush 32, 2) := by decide +kernel
theorem dL_law_963 : decode cL_law 963 = .ok (.lshl, 1) := by decide +kernel
theorem dL_law_964 : decode cL_law 964 = .ok (.aload_n 0, 1) := by decide +kernel
theorem dL_law_965 : decode cL_law 965 = .ok (.iload_n 3, 1) := by decide +kernel
theorem dL_law_966 : decode cL_law 966 = .ok (.iconst 4, 1) := by decide +kernel
theorem dL_law_967 : decode cL_law 967 = .ok (.iadd, 1) := by decide +kernel
theorem dL_law_968 : decode cL_law 968 = .ok (.iaload, 1) := by decide +kernel
theorem dL_law_969 : decode cL_law 969 = .ok (.i2l, 1) := by decide +kernel
theorem dL_law_970 : decode cL_law 970 = .ok (.ldc2_w 121, 3) := by decide +kernel
theorem dL_law_973 : decode cL_law 973 = .ok (.land, 1) := by decide +kernel
theorem dL_law_974 : decode cL_law 974 = .ok (.lor, 1) := by decide +kernel
theorem dL_law_975 : decode cL_law 975 = .ok (.invokevirtual 127, 3) := by decide +kernel
theorem dL_law_978 : decode cL_law 978 = .ok (.lcmp, 1) := by decide +kernel
theorem dL_law_979 : decode cL_law 979 = .ok (.ifCond .eq 242, 3) := by decide +kernel
theorem dL_law_982 : decode cL_law 982 = .ok (.iconst 0, 1) := by decide +kernel
theorem dL_law_983 : decode cL_law 983 = .ok (.ireturn, 1) := by decide +kernel
theorem dL_law_984 : decode cL_law 984 = .ok (.aload_n 1, 1) := by decide +kernel
theorem dL_law_985 : decode cL_law 985 = .ok (.aload_n 0, 1) := by decide +kernel
theorem dL_law_986 : decode cL_law 986 = .ok (.iload_n 3, 1) := by decide +kernel
theorem dL_law_987 : decode cL_law 987 = .ok (.iconst 1, 1) := by decide +kernel
theorem dL_law_988 : decode cL_law 988 = .ok (.iadd, 1) := by decide +kernel
theorem dL_law_989 : decode cL_law 989 = .ok (.iaload, 1) := by decide +kernel
theorem dL_law_990 : decode cL_law 990 = .ok (.aload_n 0, 1) := by decide +kernel
theorem dL_law_991 : decode cL_law 991 = .ok (.iload_n 3, 1) := by decide +kernel
theorem dL_law_992 : decode cL_law 992 = .ok (.iconst 2, 1) := by decide +kernel
theorem dL_law_993 : decode cL_law 993 = .ok (.iadd, 1) := by decide +kernel
theorem dL_law_994 : decode cL_law 994 = .ok (.iaload, 1) := by decide +kernel
theorem dL_law_995 : decode cL_law 995 = .ok (.aload_n 0, 1) := by decide +kernel
theorem dL_law_996 : decode cL_law 996 = .ok (.iload_n 3, 1) := by decide +kernel
theorem dL_law_997 : decode cL_law 997 = .ok (.iconst 3, 1) := by decide +kernel
theorem dL_law_998 : decode cL_law 998 = .ok (.iadd, 1) := by decide +kernel
theorem dL_law_999 : decode cL_law 999 = .ok (.iaload, 1) := by decide +kernel
theorem dL_law_1000 : decode cL_law 1000 = .ok (.aload_n 0, 1) := by decide +kernel
theorem dL_law_1001 : decode cL_law 1001 = .ok (.iload_n 3, 1) := by decide +kernel
theorem dL_law_1002 : decode cL_law 1002 = .ok (.iconst 4, 1) := by decide +kernel
theorem dL_law_1003 : decode cL_law 1003 = .ok (.iadd, 1) := by decide +kernel
theorem dL_law_1004 : decode cL_law 1004 = .ok (.iaload, 1) := by decide +kernel
theorem dL_law_1005 : decode cL_law 1005 = .ok (.aload_n 0, 1) := by decide +kernel
theorem dL_law_1006 : decode cL_law 1006 = .ok (.iload_n 3, 1) := by decide +kernel
theorem dL_law_1007 : decode cL_law 1007 = .ok (.iconst 5, 1) := by decide +kernel
theorem dL_law_1008 : decode cL_law 1008 = .ok (.iadd, 1) := by decide +kernel
theorem dL_law_1009 : decode cL_law 1009 = .ok (.iaload, 1) := by decide +kernel
theorem dL_law_1010 : decode cL_law 1010 = .ok (.invokevirtual 128, 3) := by decide +kernel
theorem dL_law_1013 : decode cL_law 1013 = .ok (.aload_n 2, 1) := by decide +kernel
theorem dL_law_1014 : decode cL_law 1014 = .ok (.aload_n 0, 1) := by decide +kernel
theorem dL_law_1015 : decode cL_law 1015 = .ok (.iload_n 3, 1) := by decide +kernel
theorem dL_law_1016 : decode cL_law 1016 = .ok (.iconst 1, 1) := by decide +kernel
theorem dL_law_1017 : decode cL_law 1017 = .ok (.iadd, 1) := by decide +kernel
theorem dL_law_1018 : decode cL_law 1018 = .ok (.iaload, 1) := by decide +kernel
theorem dL_law_1019 : decode cL_law 1019 = .ok (.aload_n 0, 1) := by decide +kernel
theorem dL_law_1020 : decode cL_law 1020 = .ok (.iload_n 3, 1) := by decide +kernel
theorem dL_law_1021 : decode cL_law 1021 = .ok (.iconst 2, 1) := by decide +kernel
theorem dL_law_1022 : decode cL_law 1022 = .ok (.iadd, 1) := by decide +kernel
theorem dL_law_1023 : decode cL_law 1023 = .ok (.iaload, 1) := by decide +kernel
theorem dL_law_1024 : decode cL_law 1024 = .ok (.aload_n 0, 1) := by decide +kernel
theorem dL_law_1025 : decode cL_law 1025 = .ok (.iload_n 3, 1) := by decide +kernel
theorem dL_law_1026 : decode cL_law 1026 = .ok (.iconst 3, 1) := by decide +kernel
theorem dL_law_1027 : decode cL_law 1027 = .ok (.iadd, 1) := by decide +kernel
theorem dL_law_1028 : decode cL_law 1028 = .ok (.iaload, 1) := by decide +kernel
theorem dL_law_1029 : decode cL_law 1029 = .ok (.aload_n 0, 1) := by decide +kernel
theorem dL_law_1030 : decode cL_law 1030 = .ok (.iload_n 3, 1) := by decide +kernel
theorem dL_law_1031 : decode cL_law 1031 = .ok (.iconst 4, 1) := by decide +kernel
theorem dL_law_1032 : decode cL_law 1032 = .ok (.iadd, 1) := by decide +kernel
theorem dL_law_1033 : decode cL_law 1033 = .ok (.iaload, 1) := by decide +kernel
theorem dL_law_1034 : decode cL_law 1034 = .ok (.aload_n 0, 1) := by decide +kernel
theorem dL_law_1035 : decode cL_law 1035 = .ok (.iload_n 3, 1) := by decide +kernel
theorem dL_law_1036 : decode cL_law 1036 = .ok (.iconst 5, 1) := by decide +kernel
theorem dL_law_1037 : decode cL_law 1037 = .ok (.iadd, 1) := by decide +kernel
theorem dL_law_1038 : decode cL_law 1038 = .ok (.iaload, 1) := by decide +kernel
theorem dL_law_1039 : decode cL_law 1039 = .ok (.invokevirtual 132, 3) := by decide +kernel
theorem dL_law_1042 : decode cL_law 1042 = .ok (.if_icmp .eq 179, 3) := by decide +kernel
theorem dL_law_1045 : decode cL_law 1045 = .ok (.iconst 0, 1) := by decide +kernel
theorem dL_law_1046 : decode cL_law 1046 = .ok (.ireturn, 1) := by decide +kernel
theorem dL_law_1047 : decode cL_law 1047 = .ok (.aload_n 1, 1) := by decide +kernel
theorem dL_law_1048 : decode cL_law 1048 = .ok (.aload_n 0, 1) := by decide +kernel
theorem dL_law_1049 : decode cL_law 1049 = .ok (.iload_n 3, 1) := by decide +kernel
theorem dL_law_1050 : decode cL_law 1050 = .ok (.iconst 1, 1) := by decide +kernel
theorem dL_law_1051 : decode cL_law 1051 = .ok (.iadd, 1) := by decide +kernel
theorem dL_law_1052 : decode cL_law 1052 = .ok (.iaload, 1) := by decide +kernel
theorem dL_law_1053 : decode cL_law 1053 = .ok (.invokevirtual 133, 3) := by decide +kernel
theorem dL_law_1056 : decode cL_law 1056 = .ok (.aload_n 2, 1) := by decide +kernel
theorem dL_law_1057 : decode cL_law 1057 = .ok (.aload_n 0, 1) := by decide +kernel
theorem dL_law_1058 : decode cL_law 1058 = .ok (.iload_n 3, 1) := by decide +kernel
theorem dL_law_1059 : decode cL_law 1059 = .ok (.iconst 1, 1) := by decide +kernel
theorem dL_law_1060 : decode cL_law 1060 = .ok (.iadd, 1) := by decide +kernel
theorem dL_law_1061 : decode cL_law 1061 = .ok (.iaload, 1) := by decide +kernel
theorem dL_law_1062 : decode cL_law 1062 = .ok (.invokevirtual 136, 3) := by decide +kernel
theorem dL_law_1065 : decode cL_law 1065 = .ok (.if_icmp .eq 156, 3) := by decide +kernel
theorem dL_law_1068 : decode cL_law 1068 = .ok (.iconst 0, 1) := by decide +kernel
theorem dL_law_1069 : decode cL_law 1069 = .ok (.ireturn, 1) := by decide +kernel
theorem dL_law_1070 : decode cL_law 1070 = .ok (.aload_n 1, 1) := by decide +kernel
theorem dL_law_1071 : decode cL_law 1071 = .ok (.aload_n 0, 1) := by decide +kernel
theorem dL_law_1072 : decode cL_law 1072 = .ok (.iload_n 3, 1) := by decide +kernel
theorem dL_law_1073 : decode cL_law 1073 = .ok (.iconst 1, 1) := by decide +kernel
theorem dL_law_1074 : decode cL_law 1074 = .ok (.iadd, 1) := by decide +kernel
theorem dL_law_1075 : decode cL_law 1075 = .ok (.iaload, 1) := by decide +kernel
theorem dL_law_1076 : decode cL_law 1076 = .ok (.aload_n 0, 1) := by decide +kernel
theorem dL_law_1077 : decode cL_law 1077 = .ok (.iload_n 3, 1) := by decide +kernel
theorem dL_law_1078 : decode cL_law 1078 = .ok (.iconst 2, 1) := by decide +kernel
theorem dL_law_1079 : decode cL_law 1079 = .ok (.iadd, 1) := by decide +kernel
theorem dL_law_1080 : decode cL_law 1080 = .ok (.iaload, 1) := by decide +kernel
theorem dL_law_1081 : decode cL_law 1081 = .ok (.invokevirtual 137, 3) := by decide +kernel
theorem dL_law_1084 : decode cL_law 1084 = .ok (.aload_n 2, 1) := by decide +kernel
theorem dL_law_1085 : decode cL_law 1085 = .ok (.aload_n 0, 1) := by decide +kernel
theorem dL_law_1086 : decode cL_law 1086 = .ok (.iload_n 3, 1) := by decide +kernel
theorem dL_law_1087 : decode cL_law 1087 = .ok (.iconst 1, 1) := by decide +kernel
theorem dL_law_1088 : decode cL_law 1088 = .ok (.iadd, 1) := by decide +kernel
theorem dL_law_1089 : decode cL_law 1089 = .ok (.iaload, 1) := by decide +kernel
theorem dL_law_1090 : decode cL_law 1090 = .ok (.aload_n 0, 1) := by decide +kernel
theorem dL_law_1091 : decode cL_law 1091 = .ok (.iload_n 3, 1) := by decide +kernel
theorem dL_law_1092 : decode cL_law 1092 = .ok (.iconst 2, 1) := by decide +kernel
theorem dL_law_1093 : decode cL_law 1093 = .ok (.iadd, 1) := by decide +kernel
theorem dL_law_1094 : decode cL_law 1094 = .ok (.iaload, 1) := by decide +kernel
theorem dL_law_1095 : decode cL_law 1095 = .ok (.invokevirtual 140, 3) := by decide +kernel
theorem dL_law_1098 : decode cL_law 1098 = .ok (.if_icmp .eq 123, 3) := by decide +kernel
theorem dL_law_1101 : decode cL_law 1101 = .ok (.iconst 0, 1) := by decide +kernel
theorem dL_law_1102 : decode cL_law 1102 = .ok (.ireturn, 1) := by decide +kernel
theorem dL_law_1103 : decode cL_law 1103 = .ok (.aload_n 1, 1) := by decide +kernel
theorem dL_law_1104 : decode cL_law 1104 = .ok (.aload_n 0, 1) := by decide +kernel
theorem dL_law_1105 : decode cL_law 1105 = .ok (.iload_n 3, 1) := by decide +kernel
theorem dL_law_1106 : decode cL_law 1106 = .ok (.iconst 1, 1) := by decide +kernel
theorem dL_law_1107 : decode cL_law 1107 = .ok (.iadd, 1) := by decide +kernel
theorem dL_law_1108 : decode cL_law 1108 = .ok (.iaload, 1) := by decide +kernel
theorem dL_law_1109 : decode cL_law 1109 = .ok (.aload_n 0, 1) := by decide +kernel
theorem dL_law_1110 : decode cL_law 1110 = .ok (.iload_n 3, 1) := by decide +kernel
theorem dL_law_1111 : decode cL_law 1111 = .ok (.iconst 2, 1) := by decide +kernel
theorem dL_law_1112 : decode cL_law 1112 = .ok (.iadd, 1) := by decide +kernel
theorem dL_law_1113 : decode cL_law 1113 = .ok (.iaload, 1) := by decide +kernel
theorem dL_law_1114 : decode cL_law 1114 = .ok (.invokevirtual 141, 3) := by decide +kernel
theorem dL_law_1117 : decode cL_law 1117 = .ok (.aload_n 2, 1) := by decide +kernel
theorem dL_law_1118 : decode cL_law 1118 = .ok (.aload_n 0, 1) := by decide +kernel
theorem dL_law_1119 : decode cL_law 1119 = .ok (.iload_n 3, 1) := by decide +kernel
theorem dL_law_1120 : decode cL_law 1120 = .ok (.iconst 1, 1) := by decide +kernel
theorem dL_law_1121 : decode cL_law 1121 = .ok (.iadd, 1) := by decide +kernel
theorem dL_law_1122 : decode cL_law 1122 = .ok (.iaload, 1) := by decide +kernel
theorem dL_law_1123 : decode cL_law 1123 = .ok (.aload_n 0, 1) := by decide +kernel
theorem dL_law_1124 : decode cL_law 1124 = .ok (.iload_n 3, 1) := by decide +kernel
theorem dL_law_1125 : decode cL_law 1125 = .ok (.iconst 2, 1) := by decide +kernel
theorem dL_law_1126 : decode cL_law 1126 = .ok (.iadd, 1) := by decide +kernel
theorem dL_law_1127 : decode cL_law 1127 = .ok (.iaload, 1) := by decide +kernel
theorem dL_law_1128 : decode cL_law 1128 = .ok (.invokevirtual 144, 3) := by decide +kernel
theorem dL_law_1131 : decode cL_law 1131 = .ok (.if_icmp .eq 90, 3) := by decide +kernel
theorem dL_law_1134 : decode cL_law 1134 = .ok (.iconst 0, 1) := by decide +kernel
theorem dL_law_1135 : decode cL_law 1135 = .ok (.ireturn, 1) := by decide +kernel
theorem dL_law_1136 : decode cL_law 1136 = .ok (.aload_n 1, 1) := by decide +kernel
theorem dL_law_1137 : decode cL_law 1137 = .ok (.invokevirtual 145, 3) := by decide +kernel
theorem dL_law_1140 : decode cL_law 1140 = .ok (.aload_n 2, 1) := by decide +kernel
theorem dL_law_1141 : decode cL_law 1141 = .ok (.invokevirtual 148, 3) := by decide +kernel
theorem dL_law_1144 : decode cL_law 1144 = .ok (.if_icmp .eq 77, 3) := by decide +kernel
theorem dL_law_1147 : decode cL_law 1147 = .ok (.iconst 0, 1) := by decide +kernel
theorem dL_law_1148 : decode cL_law 1148 = .ok (.ireturn, 1) := by decide +kernel
theorem dL_law_1149 : decode cL_law 1149 = .ok (.aload_n 1, 1) := by decide +kernel
theorem dL_law_1150 : decode cL_law 1150 = .ok (.invokevirtual 149, 3) := by decide +kernel
theorem dL_law_1153 : decode cL_law 1153 = .ok (.aload_n 2, 1) := by decide +kernel
theorem dL_law_1154 : decode cL_law 1154 = .ok (.invokevirtual 152, 3) := by decide +kernel
theorem dL_law_1157 : decode cL_law 1157 = .ok (.if_icmp .eq 64, 3) := by decide +kernel
theorem dL_law_1160 : decode cL_law 1160 = .ok (.iconst 0, 1) := by decide +kernel
theorem dL_law_1161 : decode cL_law 1161 = .ok (.ireturn, 1) := by decide +kernel
theorem dL_law_1162 : decode cL_law 1162 = .ok (.aload_n 1, 1) := by decide +kernel
theorem dL_law_1163 : decode cL_law 1163 = .ok (.invokevirtual 153, 3) := by decide +kernel
theorem dL_law_1166 : decode cL_law 1166 = .ok (.aload_n 2, 1) := by decide +kernel
theorem dL_law_1167 : decode cL_law 1167 = .ok (.invokevirtual 156, 3) := by decide +kernel
theorem dL_law_1170 : decode cL_law 1170 = .ok (.if_icmp .eq 51, 3) := by decide +kernel
theorem dL_law_1173 : decode cL_law 1173 = .ok (.iconst 0, 1) := by decide +kernel
theorem dL_law_1174 : decode cL_law 1174 = .ok (.ireturn, 1) := by decide +kernel
theorem dL_law_1175 : decode cL_law 1175 = .ok (.aload_n 1, 1) := by decide +kernel
theorem dL_law_1176 : decode cL_law 1176 = .ok (.aload_n 0, 1) := by decide +kernel
theorem dL_law_1177 : decode cL_law 1177 = .ok (.iload_n 3, 1) := by decide +kernel
theorem dL_law_1178 : decode cL_law 1178 = .ok (.iconst 1, 1) := by decide +kernel
theorem dL_law_1179 : decode cL_law 1179 = .ok (.iadd, 1) := by decide +kernel
theorem dL_law_1180 : decode cL_law 1180 = .ok (.iaload, 1) := by decide +kernel
theorem dL_law_1181 : decode cL_law 1181 = .ok (.invokevirtual 157, 3) := by decide +kernel
theorem dL_law_1184 : decode cL_law 1184 = .ok (.aload_n 2, 1) := by decide +kernel
theorem dL_law_1185 : decode cL_law 1185 = .ok (.aload_n 0, 1) := by decide +kernel
theorem dL_law_1186 : decode cL_law 1186 = .ok (.iload_n 3, 1) := by decide +kernel
theorem dL_law_1187 : decode cL_law 1187 = .ok (.iconst 1, 1) := by decide +kernel
theorem dL_law_1188 : decode cL_law 1188 = .ok (.iadd, 1) := by decide +kernel
theorem dL_law_1189 : decode cL_law 1189 = .ok (.iaload, 1) := by decide +kernel
theorem dL_law_1190 : decode cL_law 1190 = .ok (.invokevirtual 160, 3) := by decide +kernel
theorem dL_law_1193 : decode cL_law 1193 = .ok (.if_icmp .eq 28, 3) := by decide +kernel
theorem dL_law_1196 : decode cL_law 1196 = .ok (.iconst 0, 1) := by decide +kernel
theorem dL_law_1197 : decode cL_law 1197 = .ok (.ireturn, 1) := by decide +kernel
theorem dL_law_1198 : decode cL_law 1198 = .ok (.aload_n 1, 1) := by decide +kernel
theorem dL_law_1199 : decode cL_law 1199 = .ok (.aload_n 0, 1) := by decide +kernel
theorem dL_law_1200 : decode cL_law 1200 = .ok (.iload_n 3, 1) := by decide +kernel
theorem dL_law_1201 : decode cL_law 1201 = .ok (.iconst 1, 1) := by decide +kernel
theorem dL_law_1202 : decode cL_law 1202 = .ok (.iadd, 1) := by decide +kernel
theorem dL_law_1203 : decode cL_law 1203 = .ok (.iaload, 1) := by decide +kernel
theorem dL_law_1204 : decode cL_law 1204 = .ok (.invokevirtual 161, 3) := by decide +kernel
theorem dL_law_1207 : decode cL_law 1207 = .ok (.aload_n 2, 1) := by decide +kernel
theorem dL_law_1208 : decode cL_law 1208 = .ok (.aload_n 0, 1) := by decide +kernel
theorem dL_law_1209 : decode cL_law 1209 = .ok (.iload_n 3, 1) := by decide +kernel
theorem dL_law_1210 : decode cL_law 1210 = .ok (.iconst 1, 1) := by decide +kernel
theorem dL_law_1211 : decode cL_law 1211 = .ok (.iadd, 1) := by decide +kernel
theorem dL_law_1212 : decode cL_law 1212 = .ok (.iaload, 1) := by decide +kernel
theorem dL_law_1213 : decode cL_law 1213 = .ok (.invokevirtual 164, 3) := by decide +kernel
theorem dL_law_1216 : decode cL_law 1216 = .ok (.if_icmp .eq 5, 3) := by decide +kernel
theorem dL_law_1219 : decode cL_law 1219 = .ok (.iconst 0, 1) := by decide +kernel
theorem dL_law_1220 : decode cL_law 1220 = .ok (.ireturn, 1) := by decide +kernel
theorem dL_law_1221 : decode cL_law 1221 = .ok (.iinc 3 6, 3) := by decide +kernel
theorem dL_law_1224 : decode cL_law 1224 = .ok (.goto (-1206), 3) := by decide +kernel
theorem dL_law_1227 : decode cL_law 1227 = .ok (.iconst 1, 1) := by decide +kernel
theorem dL_law_1228 : decode cL_law 1228 = .ok (.ireturn, 1) := by decide +kernel
end
section
/-! THE WALK OVER PURE STATES. A state of a method is pc, locals, operand stack and a heap, a list of cells at places 0, 1, ..; references are places. 'Run' says: from here the method returns rv and leaves the heap h2. 'Spec': a method's contract in these words. -/
abbrev Mt : Type := MethodName × ByteArray × Nat × Option FieldType
abbrev AE : Type := (Nat × vp_A) ⊕ (Nat × List Value)
abbrev AH : Type := List AE
abbrev SX : Type := Nat × (Nat → Int32)
def cv (ad : Nat → Nat) : Value → Value
  | .ref k => .ref (ad k)
  | v => v
def cA (ad : Nat → Nat) : vp_A → vp_A
  | (n, .inr (.inr (.inr (.inr f)))) => (n, .inr (.inr (.inr (.inr (fun i => (f i).map ad)))))
  | a => a
def cE (cs : Nat → ClassId) (ad : Nat → Nat) : AE → va_E
  | .inl (τ, a) => .inl (cs τ, cA ad a)
  | .inr (ci, fs) => .inr (ci, fs.map (cv ad))
def wcF (cs : Nat → ClassId) (ad : Nat → Nat) : Nat → AH → va_W
  | _, [] => []
  | k, e :: t => (ad k, cE cs ad e) :: wcF cs ad (k + 1) t
def wc (cs : Nat → ClassId) (ad : Nat → Nat) (h : AH) : va_W := wcF cs ad 0 h
theorem wcF_get (cs : Nat → ClassId) (ad : Nat → Nat) : ∀ (h : AH) (j k : Nat), (wcF cs ad j h)[k]? = (h[k]?).map (fun e => (ad (j + k), cE cs ad e))
  | [], j, k => by simp [wcF]
  | e :: t, j, 0 => by simp [wcF]
  | e :: t, j, k + 1 => by
    have ih := wcF_get cs ad t (j + 1) k
    rw [wcF, List.getElem?_cons_succ, List.getElem?_cons_succ, ih, show j + 1 + k = j + (k + 1) by omega]
theorem wc_get (cs : Nat → ClassId) (ad : Nat → Nat) (h : AH) (k : Nat) : (wc cs ad h)[k]? = (h[k]?).map (fun e => (ad k, cE cs ad e)) := by
  rw [wc, wcF_get, Nat.zero_add]
theorem wc_at {cs : Nat → ClassId} {ad : Nat → Nat} {h : AH} {k : Nat} {e : AE} (hk : h[k]? = some e) : (wc cs ad h)[k]? = some (ad k, cE cs ad e) := by rw [wc_get, hk]; rfl
theorem wc_len (cs : Nat → ClassId) (ad : Nat → Nat) (h : AH) : (wc cs ad h).length = h.length := by
  have key : ∀ (h : AH) (j : Nat), (wcF cs ad j h).length = h.length := by
    intro h
    induction h with
    | nil => intro j; rfl
    | cons e t ih => intro j; simp [wcF, ih]
  exact key h 0
theorem wc_set (cs : Nat → ClassId) (ad : Nat → Nat) (h : AH) (k : Nat) (e : AE) : (wc cs ad h).set k (ad k, cE cs ad e) = wc cs ad (h.set k e) := by
  apply List.ext_getElem?
  intro j
  rw [wc_get, List.getElem?_set, List.getElem?_set, wc_len]
  by_cases q : k = j
  · subst q
    by_cases q2 : k < h.length
    · simp [q2]
    · simp [q2]
  · simp only [if_neg q]
    rw [wc_get]
/-- two heaps of as many cells lie at the same addresses -/
theorem wc_D {cs : Nat → ClassId} {ad : Nat → Nat} {A : Nat → Prop} {h h2 : AH} (hD : va_D A (wc cs ad h)) (hl : h2.length = h.length) : va_D A (wc cs ad h2) := by
  have key : ∀ (k : Nat) (q : Nat × va_E), (wc cs ad h2)[k]? = some q → ∃ e, (wc cs ad h)[k]? = some (q.1, e) := by
    intro k q hq
    have hk : k < h.length := by
      have := (List.getElem?_eq_some_iff.mp hq).1
      rw [wc_len] at this
      omega
    have h1 : h[k]? = some h[k] := List.getElem?_eq_getElem hk
    rw [wc_get] at hq
    cases h3 : h2[k]? with
    | none => rw [h3] at hq; cases hq
    | some e2 =>
      rw [h3] at hq
      cases hq
      exact ⟨_, wc_at h1⟩
  refine ⟨fun i j x y hi hj hxy => ?_, fun k q hk => ?_⟩
  · obtain ⟨e1, h1⟩ := key i x hi
    obtain ⟨e2, h2⟩ := key j y hj
    exact hD.1 i j _ _ h1 h2 hxy
  · obtain ⟨e1, h1⟩ := key k q hk
    exact hD.2 k (q.1, e1) h1
def tys (cs : Nat → ClassId) : List (ClassId × FieldType) := [(cs 0, .int), (cs 1, .long), (cs 2, .byte), (cs 3, .object "OneLantern$Sheet")]
/-- the tables' words that every call keeps; those on nest mates -/
def gT : List Cond := lw_tbl.filter goodWord
def isNest : Cond → Bool
  | .fieldLinkNest .. => true
  | .methodLinkNest .. => true
  | _ => false
def nT : List Cond := lw_tbl.filter isNest
theorem gT_mem {w : Cond} (h : w ∈ tables_1) (hg : goodWord w = true) : w ∈ gT := List.mem_filter.mpr ⟨List.mem_append_right _ h, hg⟩
theorem gT_sel {w : Cond} (h : w ∈ k2_sels lw_privs) (hg : goodWord w = true) : w ∈ gT := List.mem_filter.mpr ⟨List.mem_append_left _ h, hg⟩
theorem nT_mem {w : Cond} (h : w ∈ tables_1) (hg : isNest w = true) : w ∈ nT := List.mem_filter.mpr ⟨List.mem_append_right _ h, hg⟩
theorem tb1 {w : Cond} (i : Nat) (h : tables_1_1[i]? = some w) : w ∈ tables_1 := List.mem_append_left _ (List.mem_of_getElem? h)
theorem tb2 {w : Cond} (i : Nat) (h : tables_1_2[i]? = some w) : w ∈ tables_1 := List.mem_append_right _ (List.mem_append_left _ (List.mem_of_getElem? h))
theorem tb3 {w : Cond} (i : Nat) (h : tables_1_3[i]? = some w) : w ∈ tables_1 := List.mem_append_right _ (List.mem_append_right _ (List.mem_append_left _ (List.mem_of_getElem? h)))
theorem tb4 {w : Cond} (i : Nat) (h : tables_1_4[i]? = some w) : w ∈ tables_1 := List.mem_append_right _ (List.mem_append_right _ (List.mem_append_right _ (List.mem_append_left _ (List.mem_of_getElem? h))))
theorem tb5 {w : Cond} (i : Nat) (h : tables_1_5[i]? = some w) : w ∈ tables_1 := List.mem_append_right _ (List.mem_append_right _ (List.mem_append_right _ (List.mem_append_right _ (List.mem_of_getElem? h))))
theorem gT_good : ∀ w ∈ gT, ((w.onTables && w.keeps) = true ∨ ∃ ty, w = .arrayClass ty) := fun w hw => good_of_word (List.mem_filter.mp hw).2
def Nst (U : State) : Prop := ∀ w ∈ nT, va_Nw w U
theorem Nst.warm {s U : State} (hW : s.WarmedH U.vm) (h : Nst s) : Nst U := by
  intro w hw
  have h1 := h w hw
  have h2 := (List.mem_filter.mp hw).2
  cases w with
  | fieldLinkNest a i b n d h => exact va_Nw.warmF hW h1
  | methodLinkNest a i x h => exact va_Nw.warmM hW h1
  | _ => cases h2
theorem Nst.same {s U : State} (hv : s.vm = U.vm) (h : Nst s) : Nst U := by
  intro w hw
  have h1 := h w hw
  have h2 := (List.mem_filter.mp hw).2
  cases w with
  | fieldLinkNest a i b n d h => exact va_Nw.same rfl hv h1
  | methodLinkNest a i x h => exact va_Nw.same rfl hv h1
  | _ => cases h2
/-- the constants: the script, KIND_ABOVE, the texts' bytes -/
def kAbove : Nat → Int32 := fun k => ([-1, 0, 0, 0, 1, 2] : List Int32).getD k 0
def txI (i : Nat) : Nat := ([136, 138, 140, 142, 144, 146, 148, 150, 152, 154, 155, 156, 158] : List Nat).getD i 0
def txS (i : Nat) : String := (["walker", "tall", "child", "guide", "porter", "sleepy", "nerve", "root", "clear", "lantern", "bright", "swap", ""] : List String).getD i ""
def txL : List Nat := [6, 4, 5, 5, 6, 6, 5, 4, 5, 7, 6, 4, 0]
def txB : List (List Int32) := [[119, 97, 108, 107, 101, 114], [116, 97, 108, 108], [99, 104, 105, 108, 100], [103, 117, 105, 100, 101], [112, 111, 114, 116, 101, 114], [115, 108, 101, 101, 112, 121], [110, 101, 114, 118, 101], [114, 111, 111, 116], [99, 108, 101, 97, 114], [108, 97, 110, 116, 101, 114, 110], [98, 114, 105, 103, 104, 116], [115, 119, 97, 112], []]
/-- what holds of the constants: ae k is the address of the constant k (0: the script, 1: KIND_ABOVE, 1000 and on: the texts, 2000 and on: their bytes) -/
def Ev (X : SX) (ae : Nat → Nat) (A : Nat → Prop) (U : State) (H : Heap) : Prop :=
  va_T .int (ae 0) X.1 (fun j => .int (X.2 j)) A U H ∧
  va_Z "OneLantern" "KIND_ABOVE" "[I" (.ref (ae 1)) A U H ∧ va_T .int (ae 1) 6 (fun j => .int (kAbove j)) A U H ∧
  va_Z "java/lang/String" "COMPACT_STRINGS" "Z" (.int 1) A U H ∧ va_Zq "jdk/internal/util/Preconditions" "SIOOBE_FORMATTER" "Ljava/util/function/BiFunction;" A U H ∧
  (∀ i : Nat, i < 13 → vk_R RX0 (txI i) (txS i) (ae (1000 + i)) U) ∧ vk_S 13 txL txB (fun i => ae (1000 + i)) (fun i => ae (2000 + i)) A U H
theorem Ev.to {X : SX} {ae : Nat → Nat} {A B : Nat → Prop} {s U : State} {H : Heap} {locs : List Loc} (h : Ev X ae A s s.heap) (hW : s.WarmedH U.vm) (hU : U.heap = H) (hS : va_S A s.heap H locs) (hAB : ∀ q, B q → A q) : Ev X ae B U U.heap := by
  obtain ⟨h1, h2, h3, h4, h5, h6, h7⟩ := h
  rw [hU]
  have ha := hW.alike
  exact ⟨((h1.kept hS.2.1).narrow hAB).moved ha, ((h2.kept hS.2.1).narrow hAB).moved ha, ((h3.kept hS.2.1).narrow hAB).moved ha, ((h4.kept hS.2.1).narrow hAB).moved ha, ((h5.kept hS.2.1).narrow hAB).moved ha, fun i hi => (h6 i hi).warm hW, ((h7.kept hS.2.1).narrow hAB).moved ha⟩
theorem Ev.same {X : SX} {ae : Nat → Nat} {A : Nat → Prop} {s U : State} (h : Ev X ae A s s.heap) (hv : U.vm = s.vm) (hh : U.heap = s.heap) : Ev X ae A U U.heap := by
  obtain ⟨h1, h2, h3, h4, h5, h6, h7⟩ := h
  have ha : s.vm.Alike U.vm := by rw [hv]; exact Vm.Alike.refl s.vm
  rw [hh]
  exact ⟨h1.moved ha, h2.moved ha, h3.moved ha, h4.moved ha, h5.moved ha, fun i hi => (h6 i hi).same hv, h7.moved ha⟩
/-! locals by their places; none: unknown -/
def LH (ad : Nat → Nat) (ls : Array Slot) (nL : Nat) (lv : List (Option Value)) : Prop := ls.size = nL ∧ lv_wf ls ∧ ∀ (i : Nat) (v : Value), lv[i]? = some (some v) → ls[i]? = some (.val (cv ad v))
def lvl (ad : Nat → Nat) (lv : List (Option Value)) : List (Nat × Value) := (List.range lv.length).filterMap (fun i => match lv[i]? with
  | some (some v) => some (i, cv ad v)
  | _ => none)
theorem lvl_mem {ad : Nat → Nat} {lv : List (Option Value)} {i : Nat} {v : Value} (h : lv[i]? = some (some v)) : (i, cv ad v) ∈ lvl ad lv := by
  refine List.mem_filterMap.mpr ⟨i, List.mem_range.mpr (List.getElem?_eq_some_iff.mp h).1, ?_⟩
  rw [h]
theorem lvl_of {ad : Nat → Nat} {lv : List (Option Value)} {q : Nat × Value} (h : q ∈ lvl ad lv) : ∃ v, lv[q.1]? = some (some v) ∧ q.2 = cv ad v := by
  obtain ⟨i, -, hi⟩ := List.mem_filterMap.mp h
  split at hi
  · rename_i v hv
    cases hi
    exact ⟨v, hv, rfl⟩
  · cases hi
theorem LH.has {ad : Nat → Nat} {ls : Array Slot} {nL : Nat} {lv : List (Option Value)} (h : LH ad ls nL lv) : lv_has ls nL (lvl ad lv) := by
  refine ⟨h.1, h.2.1, fun q hq => ?_⟩
  obtain ⟨v, h1, h2⟩ := lvl_of hq
  rw [h2]
  exact h.2.2 q.1 v h1
def lgAt (lv : List (Option Value)) (i : Nat) : Bool := match lv[i]? with
  | some (some (.long _)) => true
  | some (some (.double _)) => true
  | _ => false
theorem cv_cat (ad : Nat → Nat) (v : Value) : (cv ad v).category = v.category := by cases v <;> rfl
theorem lgAt_cat {lv : List (Option Value)} {i : Nat} {v : Value} (h : lv[i]? = some (some v)) (hc : v.category = 2) : lgAt lv i = true := by
  unfold lgAt
  rw [h]
  cases v <;> first | rfl | cases hc
def st1 (lv : List (Option Value)) (i : Nat) (v : Value) : List (Option Value) := match i with
  | 0 => lv.set 0 (some v)
  | j + 1 => match lgAt lv j with
    | true => (lv.set j none).set (j + 1) (some v)
    | false => lv.set (j + 1) (some v)
def st2 (lv : List (Option Value)) (i : Nat) (v : Value) : List (Option Value) := (st1 lv i v).set (i + 1) none
theorem st1_get {lv : List (Option Value)} {i j : Nat} {v w : Value} (h : (st1 lv i v)[j]? = some (some w)) : (j = i ∧ w = v) ∨ (j ≠ i ∧ lv[j]? = some (some w) ∧ ¬ (j + 1 = i ∧ w.category = 2)) := by
  by_cases hji : j = i
  · refine Or.inl ⟨hji, ?_⟩
    subst hji
    cases j with
    | zero =>
      simp only [st1, List.getElem?_set] at h
      split at h
      · split at h
        · cases h; rfl
        · cases h
      · rename_i q; exact absurd trivial q
    | succ j =>
      simp only [st1] at h
      split at h <;>
      · simp only [List.getElem?_set] at h
        split at h
        · split at h
          · cases h; rfl
          · cases h
        · rename_i q; exact absurd trivial q
  · refine Or.inr ⟨hji, ?_⟩
    cases i with
    | zero =>
      simp only [st1] at h
      rw [List.getElem?_set_ne (Ne.symm hji)] at h
      exact ⟨h, fun q => by omega⟩
    | succ i =>
      simp only [st1] at h
      split at h
      · rw [List.getElem?_set_ne (Ne.symm hji)] at h
        by_cases q : i = j
        · subst q
          rw [List.getElem?_set] at h
          simp only [if_true] at h
          split at h <;> cases h
        · rw [List.getElem?_set_ne q] at h
          exact ⟨h, fun z => q (by omega)⟩
      · rename_i hl
        rw [List.getElem?_set_ne (Ne.symm hji)] at h
        refine ⟨h, fun z => ?_⟩
        have e : j = i := by omega
        subst e
        rw [lgAt_cat h z.2] at hl
        cases hl
theorem LH_st1 {ad : Nat → Nat} {ls : Array Slot} {nL : Nat} {lv : List (Option Value)} {i : Nat} {v : Value} (h : lv_has ls nL ((i, cv ad v) :: (lvl ad lv).filter (fun q => !(q.1 == i) && !(q.1 + 1 == i && q.2.category == 2)))) : LH ad ls nL (st1 lv i v) := by
  refine ⟨h.1, h.2.1, fun j w hj => ?_⟩
  rcases st1_get hj with ⟨rfl, rfl⟩ | ⟨h1, h2, h3⟩
  · exact h.2.2 _ List.mem_cons_self
  · refine h.2.2 (j, cv ad w) (List.mem_cons_of_mem _ (List.mem_filter.mpr ⟨lvl_mem h2, ?_⟩))
    have e1 : (j == i) = false := by simpa using h1
    by_cases q : j + 1 = i
    · have e2 : ¬ (cv ad w).category = 2 := fun z => h3 ⟨q, by rw [← cv_cat ad]; exact z⟩
      simp [e1, e2]
    · simp [e1, q]
theorem LH_st2 {ad : Nat → Nat} {ls : Array Slot} {nL : Nat} {lv : List (Option Value)} {i : Nat} {v : Value} (h : lv_has ls nL ((i, cv ad v) :: (lvl ad lv).filter (fun q => !(q.1 == i) && (!(q.1 == i + 1) && !(q.1 + 1 == i && q.2.category == 2))))) : LH ad ls nL (st2 lv i v) := by
  refine ⟨h.1, h.2.1, fun j w hj => ?_⟩
  unfold st2 at hj
  by_cases q0 : i + 1 = j
  · subst q0
    rw [List.getElem?_set] at hj
    simp only [if_true] at hj
    split at hj <;> cases hj
  · rw [List.getElem?_set_ne q0] at hj
    rcases st1_get hj with ⟨rfl, rfl⟩ | ⟨h1, h2, h3⟩
    · exact h.2.2 _ List.mem_cons_self
    · refine h.2.2 (j, cv ad w) (List.mem_cons_of_mem _ (List.mem_filter.mpr ⟨lvl_mem h2, ?_⟩))
      have e1 : (j == i) = false := by simpa using h1
      have e3 : (j == i + 1) = false := by simpa using (Ne.symm q0)
      by_cases q : j + 1 = i
      · have e2 : ¬ (cv ad w).category = 2 := fun z => h3 ⟨q, by rw [← cv_cat ad]; exact z⟩
        simp [e1, e2, e3]
      · simp [e1, q, e3]
/-- how a method may come back with rv -/
def RetI (ret : Option FieldType) (ins : Instr) (rv : Option Value) : Prop :=
  (ins = .ireturn ∧ ∃ (v : Int32) (ty : FieldType), rv = some (.int v) ∧ ret = some ty ∧ narrow ty (.int v) = .int v) ∨ (ins = .lreturn ∧ ∃ v : Int64, rv = some (.long v) ∧ ret = some .long) ∨
  (ins = .return_ ∧ rv = none ∧ ret = none) ∨ (ins = .areturn ∧ ∃ (a : Nat) (n : String), rv = some (.ref a) ∧ ret = some (.object n))
def Cx (X : SX) (d : Nat) (M : Mt) (rv : Option Value) (Q : AH → Prop) (p : Program) (l : Launch) (e : Env) (R : Room) (s : State) (m : MethodId) (args : Array Value) (below : List Frame) (meth : Method) (c : Code) (cells slots : Nat) (Z : State → Prop) (ad : Nat → Nat) (D : va_G) (cs : Nat → ClassId) (A : Nat → Prop) : Prop :=
  p.tables.exec = Jvm.exec ∧ c.code = M.2.1 ∧ c.maxLocals = M.2.2.1 ∧ s.vm.findClass M.1.cls = some m.cls ∧ (∀ w ∈ gT, w.before args s = true) ∧ Nst s ∧ (d ≤ R.frames ∧ 30 * d ≤ R.locals) ∧ (cells ≤ R.cells ∧ slots ≤ R.slots) ∧ va_K D vwCl (tys cs) s ∧ Ev X (fun k => ad (1000 + k)) A s s.heap ∧ (∀ q : Nat, s.heap.size ≤ q → A q) ∧
  (∀ (H : Heap) (locs : List Loc) (pc : Nat) (ls : Array Slot) (ins : Instr) (h' : AH), Q h' → va_P D vwCl (wc cs ad h') H → va_D A (wc cs ad h') → va_S A s.heap H locs → RetI M.2.2.2 ins rv → decode M.2.1 pc = .ok (ins, 1) → W p l e R s m args below meth c H locs cells slots Z (F0 m pc ls (rv.map (cv ad)).toList))
def Wd (h : AH) (s : State) (ad : Nat → Nat) (D : va_G) (cs : Nat → ClassId) (A : Nat → Prop) (H : Heap) (locs : List Loc) : Prop := va_P D vwCl (wc cs ad h) H ∧ va_D A (wc cs ad h) ∧ va_S A s.heap H locs
/-- from here the method returns rv and leaves a heap of which Q holds -/
def RunQ (X : SX) (d : Nat) (M : Mt) (pc : Nat) (lv : List (Option Value)) (st : List Value) (h : AH) (rv : Option Value) (Q : AH → Prop) : Prop :=
  ∀ (p : Program) (l : Launch) (e : Env) (R : Room) (s : State) (m : MethodId) (args : Array Value) (below : List Frame) (meth : Method) (c : Code) (cells slots : Nat) (Z : State → Prop) (ad : Nat → Nat) (D : va_G) (cs : Nat → ClassId) (A : Nat → Prop) (H : Heap) (locs : List Loc) (ls : Array Slot),
    Cx X d M rv Q p l e R s m args below meth c cells slots Z ad D cs A → Wd h s ad D cs A H locs → LH ad ls M.2.2.1 lv → W p l e R s m args below meth c H locs cells slots Z (F0 m pc ls (st.map (cv ad)))
/-- a method's contract: from the heap h it returns rv and leaves one of which Q holds -/
def PW (X : SX) (D : va_G) (cs : Nat → ClassId) (ad : Nat → Nat) (h : AH) (sz : Nat) (U : State) : Prop :=
  U.heap.size = sz ∧ va_P D vwCl (wc cs ad h) U.heap ∧ va_K D vwCl (tys cs) U ∧ va_D (fun _ => True) (wc cs ad h) ∧ Nst U ∧ Ev X (fun k => ad (1000 + k)) (va_A (wc cs ad h) sz) U U.heap
def PQ (D : va_G) (cs : Nat → ClassId) (ad : Nat → Nat) (h : AH) (sz : Nat) (rv : Option Value) (Q : AH → Prop) : Array Value → State → Outcome → State → Prop := fun _ st oc t =>
  oc = .returned (rv.map (cv ad)) ∧ (∃ h', Q h' ∧ va_P D vwCl (wc cs ad h') t.heap ∧ h'.length = h.length) ∧ va_F (va_A (wc cs ad h) sz) st t
def SpQ (d : Nat) (M : Mt) (as : List Value) (h : AH) (rv : Option Value) (Q : AH → Prop) : Prop :=
  ∀ (X : SX) (l : Launch) (D : va_G) (cs : Nat → ClassId) (ad : Nat → Nat) (sz : Nat),
    Met l M.1 (Cond.code M.1 M.2.1 M.2.2.1 M.2.2.2 :: gT) { frames := d, cells := 0, slots := 0, locals := 30 * d } (va_Pc (as.map (cv ad)) (PW X D cs ad h sz)) (PQ D cs ad h sz rv Q) 0 0 (va_A (wc cs ad h) sz)
/-! cells that look alike -/
/-- two cells that the machine can't tell apart: arrays that differ beyond their ends -/
def CE (e e' : AE) : Prop := ∀ (cs : Nat → ClassId) (ad : Nat → Nat) (D : va_G) (q : Nat) (H : Heap), va_at D vwCl (q, cE cs ad e) H ↔ va_at D vwCl (q, cE cs ad e') H
theorem CE.rf {e : AE} : CE e e := fun _ _ _ _ _ => Iff.rfl
theorem CE.of {e e' : AE} (h : e = e') : CE e e' := h ▸ CE.rf
theorem arrV_ext {cA : ClassId} {n : Nat} {F G : Nat → Value} (h : ∀ i, i < n → F i = G i) : arrV cA n F = arrV cA n G := by
  have e9 : (arrV cA n F).slots = (arrV cA n G).slots := by
    apply Array.ext_getElem?
    intro i
    rcases Nat.lt_or_ge i n with q | q
    · rw [arrV_read _ _ q, arrV_read _ _ q, h i q]
    · have h1 : (arrV cA n F).slots.size ≤ i := by rw [arrV_size]; exact q
      have h2 : (arrV cA n G).slots.size ≤ i := by rw [arrV_size]; exact q
      rw [Array.getElem?_eq_none h1, Array.getElem?_eq_none h2]
  have e8 : ∀ K : Nat → Value, arrV cA n K = { cls := cA, slots := (arrV cA n K).slots, vm := .none } := fun K => rfl
  rw [e8 F, e8 G, e9]
theorem CE.ints {τ n : Nat} {f g : Nat → Int32} (h : ∀ i, i < n → f i = g i) : CE (.inl (τ, n, .inl f)) (.inl (τ, n, .inl g)) := by
  intro cs ad D q H
  show H[q]? = some (vp_cell (cs τ) (n, .inl f)) ↔ H[q]? = some (vp_cell (cs τ) (n, .inl g))
  have e9 : vp_cell (cs τ) (n, .inl f) = vp_cell (cs τ) (n, .inl g) := arrV_ext (F := fun j => .int (f j)) (G := fun j => .int (g j)) (fun i hi => by rw [h i hi])
  rw [e9]
theorem CE.longs {τ n : Nat} {f g : Nat → Int64} (h : ∀ i, i < n → f i = g i) : CE (.inl (τ, n, .inr (.inl f))) (.inl (τ, n, .inr (.inl g))) := by
  intro cs ad D q H
  show H[q]? = some (vp_cell (cs τ) (n, .inr (.inl f))) ↔ H[q]? = some (vp_cell (cs τ) (n, .inr (.inl g)))
  have e9 : vp_cell (cs τ) (n, .inr (.inl f)) = vp_cell (cs τ) (n, .inr (.inl g)) := arrV_ext (F := fun j => .long (f j)) (G := fun j => .long (g j)) (fun i hi => by rw [h i hi])
  rw [e9]
def HE : AH → AH → Prop
  | [], [] => True
  | e :: t, e' :: t' => CE e e' ∧ HE t t'
  | _, _ => False
theorem HE.rf : ∀ {h : AH}, HE h h
  | [] => trivial
  | _ :: _ => ⟨CE.rf, HE.rf⟩
theorem HE.of {h h' : AH} (e : h = h') : HE h h' := e ▸ HE.rf
theorem HE.get : ∀ {h h' : AH}, HE h h' → ∀ (k : Nat) (e' : AE), h'[k]? = some e' → ∃ e, h[k]? = some e ∧ CE e e'
  | [], [], _, k, e', hk => by simp at hk
  | e :: t, e2 :: t', hh, 0, e', hk => ⟨e, rfl, by cases hk; exact hh.1⟩
  | e :: t, e2 :: t', hh, k + 1, e', hk => HE.get hh.2 k e' hk
theorem HE.len : ∀ {h h' : AH}, HE h h' → h'.length = h.length
  | [], [], _ => rfl
  | e :: t, e2 :: t', hh => congrArg (· + 1) (HE.len hh.2)
theorem HE.P {h h' : AH} {cs : Nat → ClassId} {ad : Nat → Nat} {D : va_G} {H : Heap} (hh : HE h h') (hP : va_P D vwCl (wc cs ad h) H) : va_P D vwCl (wc cs ad h') H := by
  intro k q hq
  rw [wc_get] at hq
  cases h3 : h'[k]? with
  | none => rw [h3] at hq; cases hq
  | some e2 =>
    rw [h3] at hq
    cases hq
    obtain ⟨e1, g1, g2⟩ := hh.get k e2 h3
    exact (g2 cs ad D (ad k) H).mp (hP k _ (wc_at g1))
/-- the same with the heap said: it leaves h2 -/
abbrev Run (X : SX) (d : Nat) (M : Mt) (pc : Nat) (lv : List (Option Value)) (st : List Value) (h : AH) (rv : Option Value) (h2 : AH) : Prop := RunQ X d M pc lv st h rv (fun h' => HE h' h2)
abbrev Sp (d : Nat) (M : Mt) (as : List Value) (h : AH) (rv : Option Value) (h2 : AH) : Prop := SpQ d M as h rv (fun h' => HE h' h2)
end
section
theorem r_iconst {X : SX} {d : Nat} {M : Mt} {pc : Nat} {lv : List (Option Value)} {st : List Value} {h : AH} {rv : Option Value} {Q : AH → Prop} {n : Int} {v : Int32} (hd : decode M.2.1 pc = .ok (.iconst n, 1)) (hv : Int32.ofInt n = v) (k : RunQ X d M (pc + 1) lv (.int v :: st) h rv Q) : RunQ X d M (pc) lv (st) h rv Q := by
  intro p l e R s m args below meth c cells slots Z ad D cs A H locs ls C w hl
  obtain ⟨hx, hb, hml, hown, hts, hN, hR, hcs, hK, hE, hA, hend⟩ := id C
  exact lv_iconst hx hb hd hv (k p l e R s m args below meth c cells slots Z ad D cs A H locs ls C w hl)

theorem r_bipush {X : SX} {d : Nat} {M : Mt} {pc : Nat} {lv : List (Option Value)} {st : List Value} {h : AH} {rv : Option Value} {Q : AH → Prop} {n : Int} {v : Int32} (hd : decode M.2.1 pc = .ok (.bipush n, 2)) (hv : (Int8.ofInt n).toInt32 = v) (k : RunQ X d M (pc + 2) lv (.int v :: st) h rv Q) : RunQ X d M (pc) lv (st) h rv Q := by
  intro p l e R s m args below meth c cells slots Z ad D cs A H locs ls C w hl
  obtain ⟨hx, hb, hml, hown, hts, hN, hR, hcs, hK, hE, hA, hend⟩ := id C
  exact lv_bipush hx hb hd hv (k p l e R s m args below meth c cells slots Z ad D cs A H locs ls C w hl)

theorem r_sipush {X : SX} {d : Nat} {M : Mt} {pc : Nat} {lv : List (Option Value)} {st : List Value} {h : AH} {rv : Option Value} {Q : AH → Prop} {n : Int} {v : Int32} (hd : decode M.2.1 pc = .ok (.sipush n, 3)) (hv : (Int16.ofInt n).toInt32 = v) (k : RunQ X d M (pc + 3) lv (.int v :: st) h rv Q) : RunQ X d M (pc) lv (st) h rv Q := by
  intro p l e R s m args below meth c cells slots Z ad D cs A H locs ls C w hl
  obtain ⟨hx, hb, hml, hown, hts, hN, hR, hcs, hK, hE, hA, hend⟩ := id C
  exact lv_sipush hx hb hd hv (k p l e R s m args below meth c cells slots Z ad D cs A H locs ls C w hl)

theorem r_lconst {X : SX} {d : Nat} {M : Mt} {pc : Nat} {lv : List (Option Value)} {st : List Value} {h : AH} {rv : Option Value} {Q : AH → Prop} {n : Fin 2} {v : Int64} (hd : decode M.2.1 pc = .ok (.lconst n, 1)) (hv : Int64.ofNat (n : Nat) = v) (k : RunQ X d M (pc + 1) lv (.long v :: st) h rv Q) : RunQ X d M (pc) lv (st) h rv Q := by
  intro p l e R s m args below meth c cells slots Z ad D cs A H locs ls C w hl
  obtain ⟨hx, hb, hml, hown, hts, hN, hR, hcs, hK, hE, hA, hend⟩ := id C
  exact lv_lconst hx hb hd hv (k p l e R s m args below meth c cells slots Z ad D cs A H locs ls C w hl)

theorem r_iload_n {X : SX} {d : Nat} {M : Mt} {pc : Nat} {lv : List (Option Value)} {st : List Value} {h : AH} {rv : Option Value} {Q : AH → Prop} {j : Fin 4} {x : Int32} (hd : decode M.2.1 pc = .ok (.iload_n j, 1)) (hv : lv[(j : Nat)]? = some (some (.int x))) (k : RunQ X d M (pc + 1) lv (.int x :: st) h rv Q) : RunQ X d M (pc) lv (st) h rv Q := by
  intro p l e R s m args below meth c cells slots Z ad D cs A H locs ls C w hl
  obtain ⟨hx, hb, hml, hown, hts, hN, hR, hcs, hK, hE, hA, hend⟩ := id C
  exact lv_iload_n hx hb hd rfl (hl.2.2 _ _ hv) (k p l e R s m args below meth c cells slots Z ad D cs A H locs ls C w hl)

theorem r_iload {X : SX} {d : Nat} {M : Mt} {pc : Nat} {lv : List (Option Value)} {st : List Value} {h : AH} {rv : Option Value} {Q : AH → Prop} {j : Nat} {x : Int32} (hd : decode M.2.1 pc = .ok (.iload j, 2)) (hv : lv[j]? = some (some (.int x))) (k : RunQ X d M (pc + 2) lv (.int x :: st) h rv Q) : RunQ X d M (pc) lv (st) h rv Q := by
  intro p l e R s m args below meth c cells slots Z ad D cs A H locs ls C w hl
  obtain ⟨hx, hb, hml, hown, hts, hN, hR, hcs, hK, hE, hA, hend⟩ := id C
  exact lv_iload hx hb hd (hl.2.2 _ _ hv) (k p l e R s m args below meth c cells slots Z ad D cs A H locs ls C w hl)

theorem r_lload_n {X : SX} {d : Nat} {M : Mt} {pc : Nat} {lv : List (Option Value)} {st : List Value} {h : AH} {rv : Option Value} {Q : AH → Prop} {j : Fin 4} {x : Int64} (hd : decode M.2.1 pc = .ok (.lload_n j, 1)) (hv : lv[(j : Nat)]? = some (some (.long x))) (k : RunQ X d M (pc + 1) lv (.long x :: st) h rv Q) : RunQ X d M (pc) lv (st) h rv Q := by
  intro p l e R s m args below meth c cells slots Z ad D cs A H locs ls C w hl
  obtain ⟨hx, hb, hml, hown, hts, hN, hR, hcs, hK, hE, hA, hend⟩ := id C
  exact lv_lload_n hx hb hd rfl (hl.2.2 _ _ hv) (k p l e R s m args below meth c cells slots Z ad D cs A H locs ls C w hl)

theorem r_lload {X : SX} {d : Nat} {M : Mt} {pc : Nat} {lv : List (Option Value)} {st : List Value} {h : AH} {rv : Option Value} {Q : AH → Prop} {j : Nat} {x : Int64} (hd : decode M.2.1 pc = .ok (.lload j, 2)) (hv : lv[j]? = some (some (.long x))) (k : RunQ X d M (pc + 2) lv (.long x :: st) h rv Q) : RunQ X d M (pc) lv (st) h rv Q := by
  intro p l e R s m args below meth c cells slots Z ad D cs A H locs ls C w hl
  obtain ⟨hx, hb, hml, hown, hts, hN, hR, hcs, hK, hE, hA, hend⟩ := id C
  exact lv_lload hx hb hd (hl.2.2 _ _ hv) (k p l e R s m args below meth c cells slots Z ad D cs A H locs ls C w hl)

theorem r_aload_n {X : SX} {d : Nat} {M : Mt} {pc : Nat} {lv : List (Option Value)} {st : List Value} {h : AH} {rv : Option Value} {Q : AH → Prop} {j : Fin 4} {x : Nat} (hd : decode M.2.1 pc = .ok (.aload_n j, 1)) (hv : lv[(j : Nat)]? = some (some (.ref x))) (k : RunQ X d M (pc + 1) lv (.ref x :: st) h rv Q) : RunQ X d M (pc) lv (st) h rv Q := by
  intro p l e R s m args below meth c cells slots Z ad D cs A H locs ls C w hl
  obtain ⟨hx, hb, hml, hown, hts, hN, hR, hcs, hK, hE, hA, hend⟩ := id C
  exact lv_aload_n hx hb hd rfl (hl.2.2 _ _ hv) (k p l e R s m args below meth c cells slots Z ad D cs A H locs ls C w hl)

theorem r_aload {X : SX} {d : Nat} {M : Mt} {pc : Nat} {lv : List (Option Value)} {st : List Value} {h : AH} {rv : Option Value} {Q : AH → Prop} {j : Nat} {x : Nat} (hd : decode M.2.1 pc = .ok (.aload j, 2)) (hv : lv[j]? = some (some (.ref x))) (k : RunQ X d M (pc + 2) lv (.ref x :: st) h rv Q) : RunQ X d M (pc) lv (st) h rv Q := by
  intro p l e R s m args below meth c cells slots Z ad D cs A H locs ls C w hl
  obtain ⟨hx, hb, hml, hown, hts, hN, hR, hcs, hK, hE, hA, hend⟩ := id C
  exact lv_aload hx hb hd (hl.2.2 _ _ hv) (k p l e R s m args below meth c cells slots Z ad D cs A H locs ls C w hl)

theorem r_istore_n {X : SX} {d : Nat} {M : Mt} {pc : Nat} {lv : List (Option Value)} {st : List Value} {h : AH} {rv : Option Value} {Q : AH → Prop} {j : Fin 4} {x : Int32} {lv' : List (Option Value)} (hd : decode M.2.1 pc = .ok (.istore_n j, 1)) (hj : (j : Nat) < M.2.2.1) (hv : st1 lv (j : Nat) (.int x) = lv') (k : RunQ X d M (pc + 1) lv' (st) h rv Q) : RunQ X d M (pc) lv (.int x :: st) h rv Q := by
  intro p l e R s m args below meth c cells slots Z ad D cs A H locs ls C w hl
  obtain ⟨hx, hb, hml, hown, hts, hN, hR, hcs, hK, hE, hA, hend⟩ := id C
  subst hv
  exact lv_istore_n hx hb hd rfl hl.has hj rfl (fun ls' h' => k p l e R s m args below meth c cells slots Z ad D cs A H locs ls' C w (LH_st1 (v := .int x) h'))

theorem r_istore {X : SX} {d : Nat} {M : Mt} {pc : Nat} {lv : List (Option Value)} {st : List Value} {h : AH} {rv : Option Value} {Q : AH → Prop} {j : Nat} {x : Int32} {lv' : List (Option Value)} (hd : decode M.2.1 pc = .ok (.istore j, 2)) (hj : j < M.2.2.1) (hv : st1 lv j (.int x) = lv') (k : RunQ X d M (pc + 2) lv' (st) h rv Q) : RunQ X d M (pc) lv (.int x :: st) h rv Q := by
  intro p l e R s m args below meth c cells slots Z ad D cs A H locs ls C w hl
  obtain ⟨hx, hb, hml, hown, hts, hN, hR, hcs, hK, hE, hA, hend⟩ := id C
  subst hv
  exact lv_istore hx hb hd hl.has hj rfl (fun ls' h' => k p l e R s m args below meth c cells slots Z ad D cs A H locs ls' C w (LH_st1 (v := .int x) h'))

theorem r_astore_n {X : SX} {d : Nat} {M : Mt} {pc : Nat} {lv : List (Option Value)} {st : List Value} {h : AH} {rv : Option Value} {Q : AH → Prop} {j : Fin 4} {x : Nat} {lv' : List (Option Value)} (hd : decode M.2.1 pc = .ok (.astore_n j, 1)) (hj : (j : Nat) < M.2.2.1) (hv : st1 lv (j : Nat) (.ref x) = lv') (k : RunQ X d M (pc + 1) lv' (st) h rv Q) : RunQ X d M (pc) lv (.ref x :: st) h rv Q := by
  intro p l e R s m args below meth c cells slots Z ad D cs A H locs ls C w hl
  obtain ⟨hx, hb, hml, hown, hts, hN, hR, hcs, hK, hE, hA, hend⟩ := id C
  subst hv
  exact lv_astore_n hx hb hd rfl hl.has hj rfl (fun ls' h' => k p l e R s m args below meth c cells slots Z ad D cs A H locs ls' C w (LH_st1 (v := .ref x) h'))

theorem r_astore {X : SX} {d : Nat} {M : Mt} {pc : Nat} {lv : List (Option Value)} {st : List Value} {h : AH} {rv : Option Value} {Q : AH → Prop} {j : Nat} {x : Nat} {lv' : List (Option Value)} (hd : decode M.2.1 pc = .ok (.astore j, 2)) (hj : j < M.2.2.1) (hv : st1 lv j (.ref x) = lv') (k : RunQ X d M (pc + 2) lv' (st) h rv Q) : RunQ X d M (pc) lv (.ref x :: st) h rv Q := by
  intro p l e R s m args below meth c cells slots Z ad D cs A H locs ls C w hl
  obtain ⟨hx, hb, hml, hown, hts, hN, hR, hcs, hK, hE, hA, hend⟩ := id C
  subst hv
  exact lv_astore hx hb hd hl.has hj rfl (fun ls' h' => k p l e R s m args below meth c cells slots Z ad D cs A H locs ls' C w (LH_st1 (v := .ref x) h'))

theorem r_lstore_n {X : SX} {d : Nat} {M : Mt} {pc : Nat} {lv : List (Option Value)} {st : List Value} {h : AH} {rv : Option Value} {Q : AH → Prop} {j : Fin 4} {x : Int64} {lv' : List (Option Value)} (hd : decode M.2.1 pc = .ok (.lstore_n j, 1)) (hj : (j : Nat) + 1 < M.2.2.1) (hv : st2 lv (j : Nat) (.long x) = lv') (k : RunQ X d M (pc + 1) lv' (st) h rv Q) : RunQ X d M (pc) lv (.long x :: st) h rv Q := by
  intro p l e R s m args below meth c cells slots Z ad D cs A H locs ls C w hl
  obtain ⟨hx, hb, hml, hown, hts, hN, hR, hcs, hK, hE, hA, hend⟩ := id C
  subst hv
  exact lv_lstore_n hx hb hd rfl hl.has hj rfl (fun ls' h' => k p l e R s m args below meth c cells slots Z ad D cs A H locs ls' C w (LH_st2 (v := .long x) h'))

theorem r_lstore {X : SX} {d : Nat} {M : Mt} {pc : Nat} {lv : List (Option Value)} {st : List Value} {h : AH} {rv : Option Value} {Q : AH → Prop} {j : Nat} {x : Int64} {lv' : List (Option Value)} (hd : decode M.2.1 pc = .ok (.lstore j, 2)) (hj : j + 1 < M.2.2.1) (hv : st2 lv j (.long x) = lv') (k : RunQ X d M (pc + 2) lv' (st) h rv Q) : RunQ X d M (pc) lv (.long x :: st) h rv Q := by
  intro p l e R s m args below meth c cells slots Z ad D cs A H locs ls C w hl
  obtain ⟨hx, hb, hml, hown, hts, hN, hR, hcs, hK, hE, hA, hend⟩ := id C
  subst hv
  exact lv_lstore hx hb hd hl.has hj rfl (fun ls' h' => k p l e R s m args below meth c cells slots Z ad D cs A H locs ls' C w (LH_st2 (v := .long x) h'))

theorem r_iinc {X : SX} {d : Nat} {M : Mt} {pc : Nat} {lv : List (Option Value)} {st : List Value} {h : AH} {rv : Option Value} {Q : AH → Prop} {j : Nat} {n : Int} {x v : Int32} {lv' : List (Option Value)} (hd : decode M.2.1 pc = .ok (.iinc j n, 3)) (hj : j < M.2.2.1) (hx0 : lv[j]? = some (some (.int x))) (hv0 : x + Int32.ofInt n = v) (hv : st1 lv j (.int v) = lv') (k : RunQ X d M (pc + 3) lv' (st) h rv Q) : RunQ X d M (pc) lv (st) h rv Q := by
  intro p l e R s m args below meth c cells slots Z ad D cs A H locs ls C w hl
  obtain ⟨hx, hb, hml, hown, hts, hN, hR, hcs, hK, hE, hA, hend⟩ := id C
  subst hv
  obtain ⟨kk, hkk⟩ := List.getElem?_of_mem (lvl_mem (ad := ad) hx0)
  exact lv_iinc hx hb hd hl.has (k := kk) hkk hv0 hj rfl (fun ls' h' => k p l e R s m args below meth c cells slots Z ad D cs A H locs ls' C w (LH_st1 (v := .int v) h'))

theorem r_iadd {X : SX} {d : Nat} {M : Mt} {pc : Nat} {lv : List (Option Value)} {st : List Value} {h : AH} {rv : Option Value} {Q : AH → Prop} {x y : Int32} (hd : decode M.2.1 pc = .ok (.iadd, 1)) (k : RunQ X d M (pc + 1) lv (.int (x + y) :: st) h rv Q) : RunQ X d M (pc) lv (.int y :: .int x :: st) h rv Q := by
  intro p l e R s m args below meth c cells slots Z ad D cs A H locs ls C w hl
  obtain ⟨hx, hb, hml, hown, hts, hN, hR, hcs, hK, hE, hA, hend⟩ := id C
  exact lv_iadd hx hb hd (k p l e R s m args below meth c cells slots Z ad D cs A H locs ls C w hl)

theorem r_isub {X : SX} {d : Nat} {M : Mt} {pc : Nat} {lv : List (Option Value)} {st : List Value} {h : AH} {rv : Option Value} {Q : AH → Prop} {x y : Int32} (hd : decode M.2.1 pc = .ok (.isub, 1)) (k : RunQ X d M (pc + 1) lv (.int (x - y) :: st) h rv Q) : RunQ X d M (pc) lv (.int y :: .int x :: st) h rv Q := by
  intro p l e R s m args below meth c cells slots Z ad D cs A H locs ls C w hl
  obtain ⟨hx, hb, hml, hown, hts, hN, hR, hcs, hK, hE, hA, hend⟩ := id C
  exact lv_isub hx hb hd (k p l e R s m args below meth c cells slots Z ad D cs A H locs ls C w hl)

theorem r_imul {X : SX} {d : Nat} {M : Mt} {pc : Nat} {lv : List (Option Value)} {st : List Value} {h : AH} {rv : Option Value} {Q : AH → Prop} {x y : Int32} (hd : decode M.2.1 pc = .ok (.imul, 1)) (k : RunQ X d M (pc + 1) lv (.int (x * y) :: st) h rv Q) : RunQ X d M (pc) lv (.int y :: .int x :: st) h rv Q := by
  intro p l e R s m args below meth c cells slots Z ad D cs A H locs ls C w hl
  obtain ⟨hx, hb, hml, hown, hts, hN, hR, hcs, hK, hE, hA, hend⟩ := id C
  exact lv_imul hx hb hd (k p l e R s m args below meth c cells slots Z ad D cs A H locs ls C w hl)

theorem r_iand {X : SX} {d : Nat} {M : Mt} {pc : Nat} {lv : List (Option Value)} {st : List Value} {h : AH} {rv : Option Value} {Q : AH → Prop} {x y : Int32} (hd : decode M.2.1 pc = .ok (.iand, 1)) (k : RunQ X d M (pc + 1) lv (.int (x &&& y) :: st) h rv Q) : RunQ X d M (pc) lv (.int y :: .int x :: st) h rv Q := by
  intro p l e R s m args below meth c cells slots Z ad D cs A H locs ls C w hl
  obtain ⟨hx, hb, hml, hown, hts, hN, hR, hcs, hK, hE, hA, hend⟩ := id C
  exact lv_iand hx hb hd (k p l e R s m args below meth c cells slots Z ad D cs A H locs ls C w hl)

theorem r_ior {X : SX} {d : Nat} {M : Mt} {pc : Nat} {lv : List (Option Value)} {st : List Value} {h : AH} {rv : Option Value} {Q : AH → Prop} {x y : Int32} (hd : decode M.2.1 pc = .ok (.ior, 1)) (k : RunQ X d M (pc + 1) lv (.int (x ||| y) :: st) h rv Q) : RunQ X d M (pc) lv (.int y :: .int x :: st) h rv Q := by
  intro p l e R s m args below meth c cells slots Z ad D cs A H locs ls C w hl
  obtain ⟨hx, hb, hml, hown, hts, hN, hR, hcs, hK, hE, hA, hend⟩ := id C
  exact lv_ior hx hb hd (k p l e R s m args below meth c cells slots Z ad D cs A H locs ls C w hl)

theorem r_ixor {X : SX} {d : Nat} {M : Mt} {pc : Nat} {lv : List (Option Value)} {st : List Value} {h : AH} {rv : Option Value} {Q : AH → Prop} {x y : Int32} (hd : decode M.2.1 pc = .ok (.ixor, 1)) (k : RunQ X d M (pc + 1) lv (.int (x ^^^ y) :: st) h rv Q) : RunQ X d M (pc) lv (.int y :: .int x :: st) h rv Q := by
  intro p l e R s m args below meth c cells slots Z ad D cs A H locs ls C w hl
  obtain ⟨hx, hb, hml, hown, hts, hN, hR, hcs, hK, hE, hA, hend⟩ := id C
  exact lv_ixor hx hb hd (k p l e R s m args below meth c cells slots Z ad D cs A H locs ls C w hl)

theorem r_ishl {X : SX} {d : Nat} {M : Mt} {pc : Nat} {lv : List (Option Value)} {st : List Value} {h : AH} {rv : Option Value} {Q : AH → Prop} {x y : Int32} (hd : decode M.2.1 pc = .ok (.ishl, 1)) (k : RunQ X d M (pc + 1) lv (.int (x <<< (y &&& 31)) :: st) h rv Q) : RunQ X d M (pc) lv (.int y :: .int x :: st) h rv Q := by
  intro p l e R s m args below meth c cells slots Z ad D cs A H locs ls C w hl
  obtain ⟨hx, hb, hml, hown, hts, hN, hR, hcs, hK, hE, hA, hend⟩ := id C
  exact lv_ishl hx hb hd (k p l e R s m args below meth c cells slots Z ad D cs A H locs ls C w hl)

theorem r_ishr {X : SX} {d : Nat} {M : Mt} {pc : Nat} {lv : List (Option Value)} {st : List Value} {h : AH} {rv : Option Value} {Q : AH → Prop} {x y : Int32} (hd : decode M.2.1 pc = .ok (.ishr, 1)) (k : RunQ X d M (pc + 1) lv (.int (x >>> (y &&& 31)) :: st) h rv Q) : RunQ X d M (pc) lv (.int y :: .int x :: st) h rv Q := by
  intro p l e R s m args below meth c cells slots Z ad D cs A H locs ls C w hl
  obtain ⟨hx, hb, hml, hown, hts, hN, hR, hcs, hK, hE, hA, hend⟩ := id C
  exact lv_ishr hx hb hd (k p l e R s m args below meth c cells slots Z ad D cs A H locs ls C w hl)

theorem r_idiv {X : SX} {d : Nat} {M : Mt} {pc : Nat} {lv : List (Option Value)} {st : List Value} {h : AH} {rv : Option Value} {Q : AH → Prop} {x y : Int32} (hd : decode M.2.1 pc = .ok (.idiv, 1)) (hne : ¬ y = 0) (k : RunQ X d M (pc + 1) lv (.int (x / y) :: st) h rv Q) : RunQ X d M (pc) lv (.int y :: .int x :: st) h rv Q := by
  intro p l e R s m args below meth c cells slots Z ad D cs A H locs ls C w hl
  obtain ⟨hx, hb, hml, hown, hts, hN, hR, hcs, hK, hE, hA, hend⟩ := id C
  exact lv_idiv hx hb hd hne (k p l e R s m args below meth c cells slots Z ad D cs A H locs ls C w hl)

theorem r_irem {X : SX} {d : Nat} {M : Mt} {pc : Nat} {lv : List (Option Value)} {st : List Value} {h : AH} {rv : Option Value} {Q : AH → Prop} {x y : Int32} (hd : decode M.2.1 pc = .ok (.irem, 1)) (hne : ¬ y = 0) (k : RunQ X d M (pc + 1) lv (.int (x - x / y * y) :: st) h rv Q) : RunQ X d M (pc) lv (.int y :: .int x :: st) h rv Q := by
  intro p l e R s m args below meth c cells slots Z ad D cs A H locs ls C w hl
  obtain ⟨hx, hb, hml, hown, hts, hN, hR, hcs, hK, hE, hA, hend⟩ := id C
  exact lv_irem hx hb hd hne (k p l e R s m args below meth c cells slots Z ad D cs A H locs ls C w hl)

theorem r_iushr {X : SX} {d : Nat} {M : Mt} {pc : Nat} {lv : List (Option Value)} {st : List Value} {h : AH} {rv : Option Value} {Q : AH → Prop} {x y v : Int32} (hd : decode M.2.1 pc = .ok (.iushr, 1)) (hv : (x.toUInt32 >>> (y.toUInt32 &&& Int32.toUInt32 31)).toInt32 = v) (k : RunQ X d M (pc + 1) lv (.int v :: st) h rv Q) : RunQ X d M (pc) lv (.int y :: .int x :: st) h rv Q := by
  intro p l e R s m args below meth c cells slots Z ad D cs A H locs ls C w hl
  obtain ⟨hx, hb, hml, hown, hts, hN, hR, hcs, hK, hE, hA, hend⟩ := id C
  exact lv_iushr hx hb hd hv (k p l e R s m args below meth c cells slots Z ad D cs A H locs ls C w hl)

theorem r_ineg {X : SX} {d : Nat} {M : Mt} {pc : Nat} {lv : List (Option Value)} {st : List Value} {h : AH} {rv : Option Value} {Q : AH → Prop} {x : Int32} (hd : decode M.2.1 pc = .ok (.ineg, 1)) (k : RunQ X d M (pc + 1) lv (.int (-x) :: st) h rv Q) : RunQ X d M (pc) lv (.int x :: st) h rv Q := by
  intro p l e R s m args below meth c cells slots Z ad D cs A H locs ls C w hl
  obtain ⟨hx, hb, hml, hown, hts, hN, hR, hcs, hK, hE, hA, hend⟩ := id C
  exact lv_ineg hx hb hd (k p l e R s m args below meth c cells slots Z ad D cs A H locs ls C w hl)

theorem r_ladd {X : SX} {d : Nat} {M : Mt} {pc : Nat} {lv : List (Option Value)} {st : List Value} {h : AH} {rv : Option Value} {Q : AH → Prop} {x y : Int64} (hd : decode M.2.1 pc = .ok (.ladd, 1)) (k : RunQ X d M (pc + 1) lv (.long (x + y) :: st) h rv Q) : RunQ X d M (pc) lv (.long y :: .long x :: st) h rv Q := by
  intro p l e R s m args below meth c cells slots Z ad D cs A H locs ls C w hl
  obtain ⟨hx, hb, hml, hown, hts, hN, hR, hcs, hK, hE, hA, hend⟩ := id C
  exact lv_ladd hx hb hd (k p l e R s m args below meth c cells slots Z ad D cs A H locs ls C w hl)

theorem r_lmul {X : SX} {d : Nat} {M : Mt} {pc : Nat} {lv : List (Option Value)} {st : List Value} {h : AH} {rv : Option Value} {Q : AH → Prop} {x y : Int64} (hd : decode M.2.1 pc = .ok (.lmul, 1)) (k : RunQ X d M (pc + 1) lv (.long (x * y) :: st) h rv Q) : RunQ X d M (pc) lv (.long y :: .long x :: st) h rv Q := by
  intro p l e R s m args below meth c cells slots Z ad D cs A H locs ls C w hl
  obtain ⟨hx, hb, hml, hown, hts, hN, hR, hcs, hK, hE, hA, hend⟩ := id C
  exact lv_lmul hx hb hd (k p l e R s m args below meth c cells slots Z ad D cs A H locs ls C w hl)

theorem r_land {X : SX} {d : Nat} {M : Mt} {pc : Nat} {lv : List (Option Value)} {st : List Value} {h : AH} {rv : Option Value} {Q : AH → Prop} {x y : Int64} (hd : decode M.2.1 pc = .ok (.land, 1)) (k : RunQ X d M (pc + 1) lv (.long (x &&& y) :: st) h rv Q) : RunQ X d M (pc) lv (.long y :: .long x :: st) h rv Q := by
  intro p l e R s m args below meth c cells slots Z ad D cs A H locs ls C w hl
  obtain ⟨hx, hb, hml, hown, hts, hN, hR, hcs, hK, hE, hA, hend⟩ := id C
  exact lv_land hx hb hd (k p l e R s m args below meth c cells slots Z ad D cs A H locs ls C w hl)

theorem r_lor {X : SX} {d : Nat} {M : Mt} {pc : Nat} {lv : List (Option Value)} {st : List Value} {h : AH} {rv : Option Value} {Q : AH → Prop} {x y : Int64} (hd : decode M.2.1 pc = .ok (.lor, 1)) (k : RunQ X d M (pc + 1) lv (.long (x ||| y) :: st) h rv Q) : RunQ X d M (pc) lv (.long y :: .long x :: st) h rv Q := by
  intro p l e R s m args below meth c cells slots Z ad D cs A H locs ls C w hl
  obtain ⟨hx, hb, hml, hown, hts, hN, hR, hcs, hK, hE, hA, hend⟩ := id C
  exact lv_lor hx hb hd (k p l e R s m args below meth c cells slots Z ad D cs A H locs ls C w hl)

theorem r_lshl {X : SX} {d : Nat} {M : Mt} {pc : Nat} {lv : List (Option Value)} {st : List Value} {h : AH} {rv : Option Value} {Q : AH → Prop} {x v : Int64} {y : Int32} (hd : decode M.2.1 pc = .ok (.lshl, 1)) (hv : x <<< (y.toInt64 &&& 63) = v) (k : RunQ X d M (pc + 1) lv (.long v :: st) h rv Q) : RunQ X d M (pc) lv (.int y :: .long x :: st) h rv Q := by
  intro p l e R s m args below meth c cells slots Z ad D cs A H locs ls C w hl
  obtain ⟨hx, hb, hml, hown, hts, hN, hR, hcs, hK, hE, hA, hend⟩ := id C
  exact lv_lshl hx hb hd hv (k p l e R s m args below meth c cells slots Z ad D cs A H locs ls C w hl)

theorem r_lcmp {X : SX} {d : Nat} {M : Mt} {pc : Nat} {lv : List (Option Value)} {st : List Value} {h : AH} {rv : Option Value} {Q : AH → Prop} {x y : Int64} (hd : decode M.2.1 pc = .ok (.lcmp, 1)) (k : RunQ X d M (pc + 1) lv (.int (lg_cmp x y) :: st) h rv Q) : RunQ X d M (pc) lv (.long y :: .long x :: st) h rv Q := by
  intro p l e R s m args below meth c cells slots Z ad D cs A H locs ls C w hl
  obtain ⟨hx, hb, hml, hown, hts, hN, hR, hcs, hK, hE, hA, hend⟩ := id C
  exact W.lcmp hx hb hd (k p l e R s m args below meth c cells slots Z ad D cs A H locs ls C w hl)

theorem r_i2l {X : SX} {d : Nat} {M : Mt} {pc : Nat} {lv : List (Option Value)} {st : List Value} {h : AH} {rv : Option Value} {Q : AH → Prop} {x : Int32} (hd : decode M.2.1 pc = .ok (.i2l, 1)) (k : RunQ X d M (pc + 1) lv (.long x.toInt64 :: st) h rv Q) : RunQ X d M (pc) lv (.int x :: st) h rv Q := by
  intro p l e R s m args below meth c cells slots Z ad D cs A H locs ls C w hl
  obtain ⟨hx, hb, hml, hown, hts, hN, hR, hcs, hK, hE, hA, hend⟩ := id C
  exact lv_i2l hx hb hd rfl (k p l e R s m args below meth c cells slots Z ad D cs A H locs ls C w hl)

theorem r_l2i {X : SX} {d : Nat} {M : Mt} {pc : Nat} {lv : List (Option Value)} {st : List Value} {h : AH} {rv : Option Value} {Q : AH → Prop} {x : Int64} (hd : decode M.2.1 pc = .ok (.l2i, 1)) (k : RunQ X d M (pc + 1) lv (.int x.toInt32 :: st) h rv Q) : RunQ X d M (pc) lv (.long x :: st) h rv Q := by
  intro p l e R s m args below meth c cells slots Z ad D cs A H locs ls C w hl
  obtain ⟨hx, hb, hml, hown, hts, hN, hR, hcs, hK, hE, hA, hend⟩ := id C
  exact lv_l2i hx hb hd rfl (k p l e R s m args below meth c cells slots Z ad D cs A H locs ls C w hl)

theorem r_i2b {X : SX} {d : Nat} {M : Mt} {pc : Nat} {lv : List (Option Value)} {st : List Value} {h : AH} {rv : Option Value} {Q : AH → Prop} {x : Int32} (hd : decode M.2.1 pc = .ok (.i2b, 1)) (k : RunQ X d M (pc + 1) lv (.int x.toInt8.toInt32 :: st) h rv Q) : RunQ X d M (pc) lv (.int x :: st) h rv Q := by
  intro p l e R s m args below meth c cells slots Z ad D cs A H locs ls C w hl
  obtain ⟨hx, hb, hml, hown, hts, hN, hR, hcs, hK, hE, hA, hend⟩ := id C
  exact lv_i2b hx hb hd rfl (k p l e R s m args below meth c cells slots Z ad D cs A H locs ls C w hl)

theorem r_i2s {X : SX} {d : Nat} {M : Mt} {pc : Nat} {lv : List (Option Value)} {st : List Value} {h : AH} {rv : Option Value} {Q : AH → Prop} {x : Int32} (hd : decode M.2.1 pc = .ok (.i2s, 1)) (k : RunQ X d M (pc + 1) lv (.int x.toInt16.toInt32 :: st) h rv Q) : RunQ X d M (pc) lv (.int x :: st) h rv Q := by
  intro p l e R s m args below meth c cells slots Z ad D cs A H locs ls C w hl
  obtain ⟨hx, hb, hml, hown, hts, hN, hR, hcs, hK, hE, hA, hend⟩ := id C
  exact lv_i2s hx hb hd rfl (k p l e R s m args below meth c cells slots Z ad D cs A H locs ls C w hl)

theorem r_i2c {X : SX} {d : Nat} {M : Mt} {pc : Nat} {lv : List (Option Value)} {st : List Value} {h : AH} {rv : Option Value} {Q : AH → Prop} {x : Int32} (hd : decode M.2.1 pc = .ok (.i2c, 1)) (k : RunQ X d M (pc + 1) lv (.int (x.toUInt32 % 65536).toInt32 :: st) h rv Q) : RunQ X d M (pc) lv (.int x :: st) h rv Q := by
  intro p l e R s m args below meth c cells slots Z ad D cs A H locs ls C w hl
  obtain ⟨hx, hb, hml, hown, hts, hN, hR, hcs, hK, hE, hA, hend⟩ := id C
  exact lv_i2c hx hb hd rfl (k p l e R s m args below meth c cells slots Z ad D cs A H locs ls C w hl)

theorem r_dup {X : SX} {d : Nat} {M : Mt} {pc : Nat} {lv : List (Option Value)} {st : List Value} {h : AH} {rv : Option Value} {Q : AH → Prop} {v : Value} (hd : decode M.2.1 pc = .ok (.dup, 1)) (hv : v.category = 1) (k : RunQ X d M (pc + 1) lv (v :: v :: st) h rv Q) : RunQ X d M (pc) lv (v :: st) h rv Q := by
  intro p l e R s m args below meth c cells slots Z ad D cs A H locs ls C w hl
  obtain ⟨hx, hb, hml, hown, hts, hN, hR, hcs, hK, hE, hA, hend⟩ := id C
  exact lv_dup hx hb hd ((cv_cat ad v).trans hv) (k p l e R s m args below meth c cells slots Z ad D cs A H locs ls C w hl)

theorem r_pop {X : SX} {d : Nat} {M : Mt} {pc : Nat} {lv : List (Option Value)} {st : List Value} {h : AH} {rv : Option Value} {Q : AH → Prop} {v : Value} (hd : decode M.2.1 pc = .ok (.pop, 1)) (hv : v.category = 1) (k : RunQ X d M (pc + 1) lv (st) h rv Q) : RunQ X d M (pc) lv (v :: st) h rv Q := by
  intro p l e R s m args below meth c cells slots Z ad D cs A H locs ls C w hl
  obtain ⟨hx, hb, hml, hown, hts, hN, hR, hcs, hK, hE, hA, hend⟩ := id C
  exact lv_pop hx hb hd ((cv_cat ad v).trans hv) (k p l e R s m args below meth c cells slots Z ad D cs A H locs ls C w hl)

theorem r_dup2 {X : SX} {d : Nat} {M : Mt} {pc : Nat} {lv : List (Option Value)} {st : List Value} {h : AH} {rv : Option Value} {Q : AH → Prop} {v u : Value} (hd : decode M.2.1 pc = .ok (.dup2, 1)) (hv : v.category = 1) (hu : u.category = 1) (k : RunQ X d M (pc + 1) lv (v :: u :: v :: u :: st) h rv Q) : RunQ X d M (pc) lv (v :: u :: st) h rv Q := by
  intro p l e R s m args below meth c cells slots Z ad D cs A H locs ls C w hl
  obtain ⟨hx, hb, hml, hown, hts, hN, hR, hcs, hK, hE, hA, hend⟩ := id C
  exact lv_dup2_11 hx hb hd ((cv_cat ad v).trans hv) ((cv_cat ad u).trans hu) (k p l e R s m args below meth c cells slots Z ad D cs A H locs ls C w hl)

theorem r_if_eq {X : SX} {d : Nat} {M : Mt} {pc : Nat} {lv : List (Option Value)} {st : List Value} {h : AH} {rv : Option Value} {Q : AH → Prop} {x : Int32} {off : Int} (tgt : Nat) (hd : decode M.2.1 pc = .ok (.ifCond .eq off, 3)) (ht : (pc : Int) + off = (tgt : Int)) (kt : x = 0 → RunQ X d M (tgt) lv (st) h rv Q) (kf : ¬ x = 0 → RunQ X d M (pc + 3) lv (st) h rv Q) : RunQ X d M (pc) lv (.int x :: st) h rv Q := by
  intro p l e R s m args below meth c cells slots Z ad D cs A H locs ls C w hl
  obtain ⟨hx, hb, hml, hown, hts, hN, hR, hcs, hK, hE, hA, hend⟩ := id C
  exact lv_if_eq hx hb hd ht (fun q => kt q p l e R s m args below meth c cells slots Z ad D cs A H locs ls C w hl) (fun q => kf q p l e R s m args below meth c cells slots Z ad D cs A H locs ls C w hl)

theorem r_icmp_eq {X : SX} {d : Nat} {M : Mt} {pc : Nat} {lv : List (Option Value)} {st : List Value} {h : AH} {rv : Option Value} {Q : AH → Prop} {x y : Int32} {off : Int} (tgt : Nat) (hd : decode M.2.1 pc = .ok (.if_icmp .eq off, 3)) (ht : (pc : Int) + off = (tgt : Int)) (kt : x = y → RunQ X d M (tgt) lv (st) h rv Q) (kf : ¬ x = y → RunQ X d M (pc + 3) lv (st) h rv Q) : RunQ X d M (pc) lv (.int y :: .int x :: st) h rv Q := by
  intro p l e R s m args below meth c cells slots Z ad D cs A H locs ls C w hl
  obtain ⟨hx, hb, hml, hown, hts, hN, hR, hcs, hK, hE, hA, hend⟩ := id C
  exact lv_icmp_eq hx hb hd ht (fun q => kt q p l e R s m args below meth c cells slots Z ad D cs A H locs ls C w hl) (fun q => kf q p l e R s m args below meth c cells slots Z ad D cs A H locs ls C w hl)

theorem r_if_ne {X : SX} {d : Nat} {M : Mt} {pc : Nat} {lv : List (Option Value)} {st : List Value} {h : AH} {rv : Option Value} {Q : AH → Prop} {x : Int32} {off : Int} (tgt : Nat) (hd : decode M.2.1 pc = .ok (.ifCond .ne off, 3)) (ht : (pc : Int) + off = (tgt : Int)) (kt : ¬ x = 0 → RunQ X d M (tgt) lv (st) h rv Q) (kf : x = 0 → RunQ X d M (pc + 3) lv (st) h rv Q) : RunQ X d M (pc) lv (.int x :: st) h rv Q := by
  intro p l e R s m args below meth c cells slots Z ad D cs A H locs ls C w hl
  obtain ⟨hx, hb, hml, hown, hts, hN, hR, hcs, hK, hE, hA, hend⟩ := id C
  exact lv_if_ne hx hb hd ht (fun q => kt q p l e R s m args below meth c cells slots Z ad D cs A H locs ls C w hl) (fun q => kf q p l e R s m args below meth c cells slots Z ad D cs A H locs ls C w hl)

theorem r_icmp_ne {X : SX} {d : Nat} {M : Mt} {pc : Nat} {lv : List (Option Value)} {st : List Value} {h : AH} {rv : Option Value} {Q : AH → Prop} {x y : Int32} {off : Int} (tgt : Nat) (hd : decode M.2.1 pc = .ok (.if_icmp .ne off, 3)) (ht : (pc : Int) + off = (tgt : Int)) (kt : ¬ x = y → RunQ X d M (tgt) lv (st) h rv Q) (kf : x = y → RunQ X d M (pc + 3) lv (st) h rv Q) : RunQ X d M (pc) lv (.int y :: .int x :: st) h rv Q := by
  intro p l e R s m args below meth c cells slots Z ad D cs A H locs ls C w hl
  obtain ⟨hx, hb, hml, hown, hts, hN, hR, hcs, hK, hE, hA, hend⟩ := id C
  exact lv_icmp_ne hx hb hd ht (fun q => kt q p l e R s m args below meth c cells slots Z ad D cs A H locs ls C w hl) (fun q => kf q p l e R s m args below meth c cells slots Z ad D cs A H locs ls C w hl)

theorem r_if_lt {X : SX} {d : Nat} {M : Mt} {pc : Nat} {lv : List (Option Value)} {st : List Value} {h : AH} {rv : Option Value} {Q : AH → Prop} {x : Int32} {off : Int} (tgt : Nat) (hd : decode M.2.1 pc = .ok (.ifCond .lt off, 3)) (ht : (pc : Int) + off = (tgt : Int)) (kt : x < 0 → RunQ X d M (tgt) lv (st) h rv Q) (kf : ¬ x < 0 → RunQ X d M (pc + 3) lv (st) h rv Q) : RunQ X d M (pc) lv (.int x :: st) h rv Q := by
  intro p l e R s m args below meth c cells slots Z ad D cs A H locs ls C w hl
  obtain ⟨hx, hb, hml, hown, hts, hN, hR, hcs, hK, hE, hA, hend⟩ := id C
  exact lv_if_lt hx hb hd ht (fun q => kt q p l e R s m args below meth c cells slots Z ad D cs A H locs ls C w hl) (fun q => kf q p l e R s m args below meth c cells slots Z ad D cs A H locs ls C w hl)

theorem r_icmp_lt {X : SX} {d : Nat} {M : Mt} {pc : Nat} {lv : List (Option Value)} {st : List Value} {h : AH} {rv : Option Value} {Q : AH → Prop} {x y : Int32} {off : Int} (tgt : Nat) (hd : decode M.2.1 pc = .ok (.if_icmp .lt off, 3)) (ht : (pc : Int) + off = (tgt : Int)) (kt : x < y → RunQ X d M (tgt) lv (st) h rv Q) (kf : ¬ x < y → RunQ X d M (pc + 3) lv (st) h rv Q) : RunQ X d M (pc) lv (.int y :: .int x :: st) h rv Q := by
  intro p l e R s m args below meth c cells slots Z ad D cs A H locs ls C w hl
  obtain ⟨hx, hb, hml, hown, hts, hN, hR, hcs, hK, hE, hA, hend⟩ := id C
  exact lv_icmp_lt hx hb hd ht (fun q => kt q p l e R s m args below meth c cells slots Z ad D cs A H locs ls C w hl) (fun q => kf q p l e R s m args below meth c cells slots Z ad D cs A H locs ls C w hl)

theorem r_if_ge {X : SX} {d : Nat} {M : Mt} {pc : Nat} {lv : List (Option Value)} {st : List Value} {h : AH} {rv : Option Value} {Q : AH → Prop} {x : Int32} {off : Int} (tgt : Nat) (hd : decode M.2.1 pc = .ok (.ifCond .ge off, 3)) (ht : (pc : Int) + off = (tgt : Int)) (kt : 0 ≤ x → RunQ X d M (tgt) lv (st) h rv Q) (kf : ¬ 0 ≤ x → RunQ X d M (pc + 3) lv (st) h rv Q) : RunQ X d M (pc) lv (.int x :: st) h rv Q := by
  intro p l e R s m args below meth c cells slots Z ad D cs A H locs ls C w hl
  obtain ⟨hx, hb, hml, hown, hts, hN, hR, hcs, hK, hE, hA, hend⟩ := id C
  exact lv_if_ge hx hb hd ht (fun q => kt q p l e R s m args below meth c cells slots Z ad D cs A H locs ls C w hl) (fun q => kf q p l e R s m args below meth c cells slots Z ad D cs A H locs ls C w hl)

theorem r_icmp_ge {X : SX} {d : Nat} {M : Mt} {pc : Nat} {lv : List (Option Value)} {st : List Value} {h : AH} {rv : Option Value} {Q : AH → Prop} {x y : Int32} {off : Int} (tgt : Nat) (hd : decode M.2.1 pc = .ok (.if_icmp .ge off, 3)) (ht : (pc : Int) + off = (tgt : Int)) (kt : y ≤ x → RunQ X d M (tgt) lv (st) h rv Q) (kf : ¬ y ≤ x → RunQ X d M (pc + 3) lv (st) h rv Q) : RunQ X d M (pc) lv (.int y :: .int x :: st) h rv Q := by
  intro p l e R s m args below meth c cells slots Z ad D cs A H locs ls C w hl
  obtain ⟨hx, hb, hml, hown, hts, hN, hR, hcs, hK, hE, hA, hend⟩ := id C
  exact lv_icmp_ge hx hb hd ht (fun q => kt q p l e R s m args below meth c cells slots Z ad D cs A H locs ls C w hl) (fun q => kf q p l e R s m args below meth c cells slots Z ad D cs A H locs ls C w hl)

theorem r_if_gt {X : SX} {d : Nat} {M : Mt} {pc : Nat} {lv : List (Option Value)} {st : List Value} {h : AH} {rv : Option Value} {Q : AH → Prop} {x : Int32} {off : Int} (tgt : Nat) (hd : decode M.2.1 pc = .ok (.ifCond .gt off, 3)) (ht : (pc : Int) + off = (tgt : Int)) (kt : 0 < x → RunQ X d M (tgt) lv (st) h rv Q) (kf : ¬ 0 < x → RunQ X d M (pc + 3) lv (st) h rv Q) : RunQ X d M (pc) lv (.int x :: st) h rv Q := by
  intro p l e R s m args below meth c cells slots Z ad D cs A H locs ls C w hl
  obtain ⟨hx, hb, hml, hown, hts, hN, hR, hcs, hK, hE, hA, hend⟩ := id C
  exact lv_if_gt hx hb hd ht (fun q => kt q p l e R s m args below meth c cells slots Z ad D cs A H locs ls C w hl) (fun q => kf q p l e R s m args below meth c cells slots Z ad D cs A H locs ls C w hl)

theorem r_icmp_gt {X : SX} {d : Nat} {M : Mt} {pc : Nat} {lv : List (Option Value)} {st : List Value} {h : AH} {rv : Option Value} {Q : AH → Prop} {x y : Int32} {off : Int} (tgt : Nat) (hd : decode M.2.1 pc = .ok (.if_icmp .gt off, 3)) (ht : (pc : Int) + off = (tgt : Int)) (kt : y < x → RunQ X d M (tgt) lv (st) h rv Q) (kf : ¬ y < x → RunQ X d M (pc + 3) lv (st) h rv Q) : RunQ X d M (pc) lv (.int y :: .int x :: st) h rv Q := by
  intro p l e R s m args below meth c cells slots Z ad D cs A H locs ls C w hl
  obtain ⟨hx, hb, hml, hown, hts, hN, hR, hcs, hK, hE, hA, hend⟩ := id C
  exact lv_icmp_gt hx hb hd ht (fun q => kt q p l e R s m args below meth c cells slots Z ad D cs A H locs ls C w hl) (fun q => kf q p l e R s m args below meth c cells slots Z ad D cs A H locs ls C w hl)

theorem r_if_le {X : SX} {d : Nat} {M : Mt} {pc : Nat} {lv : List (Option Value)} {st : List Value} {h : AH} {rv : Option Value} {Q : AH → Prop} {x : Int32} {off : Int} (tgt : Nat) (hd : decode M.2.1 pc = .ok (.ifCond .le off, 3)) (ht : (pc : Int) + off = (tgt : Int)) (kt : x ≤ 0 → RunQ X d M (tgt) lv (st) h rv Q) (kf : ¬ x ≤ 0 → RunQ X d M (pc + 3) lv (st) h rv Q) : RunQ X d M (pc) lv (.int x :: st) h rv Q := by
  intro p l e R s m args below meth c cells slots Z ad D cs A H locs ls C w hl
  obtain ⟨hx, hb, hml, hown, hts, hN, hR, hcs, hK, hE, hA, hend⟩ := id C
  exact lv_if_le hx hb hd ht (fun q => kt q p l e R s m args below meth c cells slots Z ad D cs A H locs ls C w hl) (fun q => kf q p l e R s m args below meth c cells slots Z ad D cs A H locs ls C w hl)

theorem r_icmp_le {X : SX} {d : Nat} {M : Mt} {pc : Nat} {lv : List (Option Value)} {st : List Value} {h : AH} {rv : Option Value} {Q : AH → Prop} {x y : Int32} {off : Int} (tgt : Nat) (hd : decode M.2.1 pc = .ok (.if_icmp .le off, 3)) (ht : (pc : Int) + off = (tgt : Int)) (kt : x ≤ y → RunQ X d M (tgt) lv (st) h rv Q) (kf : ¬ x ≤ y → RunQ X d M (pc + 3) lv (st) h rv Q) : RunQ X d M (pc) lv (.int y :: .int x :: st) h rv Q := by
  intro p l e R s m args below meth c cells slots Z ad D cs A H locs ls C w hl
  obtain ⟨hx, hb, hml, hown, hts, hN, hR, hcs, hK, hE, hA, hend⟩ := id C
  exact lv_icmp_le hx hb hd ht (fun q => kt q p l e R s m args below meth c cells slots Z ad D cs A H locs ls C w hl) (fun q => kf q p l e R s m args below meth c cells slots Z ad D cs A H locs ls C w hl)

theorem r_goto {X : SX} {d : Nat} {M : Mt} {pc : Nat} {lv : List (Option Value)} {st : List Value} {h : AH} {rv : Option Value} {Q : AH → Prop} {off : Int} (tgt : Nat) (hd : decode M.2.1 pc = .ok (.goto off, 3)) (ht : (pc : Int) + off = (tgt : Int)) (k : RunQ X d M (tgt) lv (st) h rv Q) : RunQ X d M (pc) lv (st) h rv Q := by
  intro p l e R s m args below meth c cells slots Z ad D cs A H locs ls C w hl
  obtain ⟨hx, hb, hml, hown, hts, hN, hR, hcs, hK, hE, hA, hend⟩ := id C
  exact lv_goto hx hb hd ht (k p l e R s m args below meth c cells slots Z ad D cs A H locs ls C w hl)

theorem r_tsw {X : SX} {d : Nat} {M : Mt} {pc : Nat} {lv : List (Option Value)} {st : List Value} {h : AH} {rv : Option Value} {Q : AH → Prop} {dflt lo hi : Int} {offs : Array Int} {len : Nat} {x : Int32} (tgt : Nat) (hd : decode M.2.1 pc = .ok (.tableswitch dflt lo hi offs, len)) (ht : (pc : Int) + dflt = (tgt : Int)) (kc : ∀ v : Int, lo ≤ v → v ≤ hi → x.toInt = v → ∃ (off : Int) (tg : Nat), offs[(v - lo).toNat]? = some off ∧ (pc : Int) + off = (tg : Int) ∧ RunQ X d M (tg) lv (st) h rv Q) (kd : (x.toInt < lo ∨ hi < x.toInt) → RunQ X d M (tgt) lv (st) h rv Q) : RunQ X d M (pc) lv (.int x :: st) h rv Q := by
  intro p l e R s m args below meth c cells slots Z ad D cs A H locs ls C w hl
  obtain ⟨hx, hb, hml, hown, hts, hN, hR, hcs, hK, hE, hA, hend⟩ := id C
  by_cases q : x.toInt < lo ∨ hi < x.toInt
  · exact lv_tableOut hx hb hd q ht (kd q p l e R s m args below meth c cells slots Z ad D cs A H locs ls C w hl)
  · obtain ⟨off, tg, h1, h2, k⟩ := kc x.toInt (by omega) (by omega) rfl
    exact lv_tableIn hx hb hd (by omega) (by omega) h1 h2 (k p l e R s m args below meth c cells slots Z ad D cs A H locs ls C w hl)

theorem r_lsw {X : SX} {d : Nat} {M : Mt} {pc : Nat} {lv : List (Option Value)} {st : List Value} {h : AH} {rv : Option Value} {Q : AH → Prop} {dflt : Int} {ps : Array (Int × Int)} {len : Nat} {x : Int32} (hd : decode M.2.1 pc = .ok (.lookupswitch dflt ps, len)) (hp : (ps.toList.zip (ps.toList.drop 1)).all (fun (a, next) => a.1 < next.1) = true) (k : ∃ (off : Int) (tg : Nat), Op.lookupswitch.offset ps.toList dflt x.toInt = off ∧ (pc : Int) + off = (tg : Int) ∧ RunQ X d M (tg) lv (st) h rv Q) : RunQ X d M (pc) lv (.int x :: st) h rv Q := by
  intro p l e R s m args below meth c cells slots Z ad D cs A H locs ls C w hl
  obtain ⟨hx, hb, hml, hown, hts, hN, hR, hcs, hK, hE, hA, hend⟩ := id C
  obtain ⟨off, tg, h1, h2, k⟩ := k
  exact lv_lookup hx hb hd hp h1 h2 (k p l e R s m args below meth c cells slots Z ad D cs A H locs ls C w hl)

theorem r_ldc {X : SX} {d : Nat} {M : Mt} {pc : Nat} {lv : List (Option Value)} {st : List Value} {h : AH} {rv : Option Value} {Q : AH → Prop} {idx : Nat} {v : Int32} (hw : Cond.constant M.1.cls idx v ∈ gT) (hd : decode M.2.1 pc = .ok (.ldc idx, 2)) (k : RunQ X d M (pc + 2) lv (.int v :: st) h rv Q) : RunQ X d M (pc) lv (st) h rv Q := by
  intro p l e R s m args below meth c cells slots Z ad D cs A H locs ls C w hl
  obtain ⟨hx, hb, hml, hown, hts, hN, hR, hcs, hK, hE, hA, hend⟩ := id C
  exact lv_ldc hx hb hown (hts _ hw) hd (k p l e R s m args below meth c cells slots Z ad D cs A H locs ls C w hl)

theorem r_ldcw {X : SX} {d : Nat} {M : Mt} {pc : Nat} {lv : List (Option Value)} {st : List Value} {h : AH} {rv : Option Value} {Q : AH → Prop} {idx : Nat} {v : Int32} (hw : Cond.constant M.1.cls idx v ∈ gT) (hd : decode M.2.1 pc = .ok (.ldc_w idx, 3)) (k : RunQ X d M (pc + 3) lv (.int v :: st) h rv Q) : RunQ X d M (pc) lv (st) h rv Q := by
  intro p l e R s m args below meth c cells slots Z ad D cs A H locs ls C w hl
  obtain ⟨hx, hb, hml, hown, hts, hN, hR, hcs, hK, hE, hA, hend⟩ := id C
  exact lv_ldcw hx hb hown (hts _ hw) hd (k p l e R s m args below meth c cells slots Z ad D cs A H locs ls C w hl)

theorem r_ldc2 {X : SX} {d : Nat} {M : Mt} {pc : Nat} {lv : List (Option Value)} {st : List Value} {h : AH} {rv : Option Value} {Q : AH → Prop} {idx : Nat} {v : Int64} (hw : Cond.constantLong M.1.cls idx v ∈ gT) (hd : decode M.2.1 pc = .ok (.ldc2_w idx, 3)) (k : RunQ X d M (pc + 3) lv (.long v :: st) h rv Q) : RunQ X d M (pc) lv (st) h rv Q := by
  intro p l e R s m args below meth c cells slots Z ad D cs A H locs ls C w hl
  obtain ⟨hx, hb, hml, hown, hts, hN, hR, hcs, hK, hE, hA, hend⟩ := id C
  exact lv_ldc2 hx hb hown (hts _ hw) hd (k p l e R s m args below meth c cells slots Z ad D cs A H locs ls C w hl)

theorem r_ldcS {X : SX} {d : Nat} {M : Mt} {pc : Nat} {lv : List (Option Value)} {st : List Value} {h : AH} {rv : Option Value} {Q : AH → Prop} {idx : Nat} (i : Nat) (hi : i < 13) (hc : M.1.cls = RX0) (hj : txI i = idx) (hd : decode M.2.1 pc = .ok (.ldc idx, 2)) (k : RunQ X d M (pc + 2) lv (.ref (2000 + i) :: st) h rv Q) : RunQ X d M (pc) lv (st) h rv Q := by
  intro p l e R s m args below meth c cells slots Z ad D cs A H locs ls C w hl
  obtain ⟨hx, hb, hml, hown, hts, hN, hR, hcs, hK, hE, hA, hend⟩ := id C
  have h6 := hE.2.2.2.2.2.1 i hi
  rw [hj, ← hc] at h6
  have e9 : 1000 + (1000 + i) = 2000 + i := by omega
  dsimp only at h6
  rw [e9] at h6
  exact va_ldcS hx hb hown h6 hd (k p l e R s m args below meth c cells slots Z ad D cs A H locs ls C w hl)

theorem r_iaload {X : SX} {d : Nat} {M : Mt} {pc : Nat} {lv : List (Option Value)} {st : List Value} {h : AH} {rv : Option Value} {Q : AH → Prop} {q n : Nat} {f : Nat → Int32} {i : Int32} (hd : decode M.2.1 pc = .ok (.iaload, 1)) (hq : h[q]? = some (.inl (0, n, .inl f))) (hi : vp_in i n) (k : RunQ X d M (pc + 1) lv (.int (f i.toNatClampNeg) :: st) h rv Q) : RunQ X d M (pc) lv (.int i :: .ref q :: st) h rv Q := by
  intro p l e R s m args below meth c cells slots Z ad D cs A H locs ls C w hl
  obtain ⟨hx, hb, hml, hown, hts, hN, hR, hcs, hK, hE, hA, hend⟩ := id C
  exact va_iald hx hb hK w.1 q 0 (wc_at hq) rfl hi hd (k p l e R s m args below meth c cells slots Z ad D cs A H locs ls C w hl)

theorem r_baload {X : SX} {d : Nat} {M : Mt} {pc : Nat} {lv : List (Option Value)} {st : List Value} {h : AH} {rv : Option Value} {Q : AH → Prop} {q n : Nat} {f : Nat → Int32} {i : Int32} (hd : decode M.2.1 pc = .ok (.baload, 1)) (hq : h[q]? = some (.inl (2, n, .inl f))) (hi : vp_in i n) (k : RunQ X d M (pc + 1) lv (.int (f i.toNatClampNeg) :: st) h rv Q) : RunQ X d M (pc) lv (.int i :: .ref q :: st) h rv Q := by
  intro p l e R s m args below meth c cells slots Z ad D cs A H locs ls C w hl
  obtain ⟨hx, hb, hml, hown, hts, hN, hR, hcs, hK, hE, hA, hend⟩ := id C
  exact va_bald hx hb hK w.1 q 2 (wc_at hq) rfl hi hd (k p l e R s m args below meth c cells slots Z ad D cs A H locs ls C w hl)

theorem r_laload {X : SX} {d : Nat} {M : Mt} {pc : Nat} {lv : List (Option Value)} {st : List Value} {h : AH} {rv : Option Value} {Q : AH → Prop} {q n : Nat} {f : Nat → Int64} {i : Int32} (hd : decode M.2.1 pc = .ok (.laload, 1)) (hq : h[q]? = some (.inl (1, n, .inr (.inl f)))) (hi : vp_in i n) (k : RunQ X d M (pc + 1) lv (.long (f i.toNatClampNeg) :: st) h rv Q) : RunQ X d M (pc) lv (.int i :: .ref q :: st) h rv Q := by
  intro p l e R s m args below meth c cells slots Z ad D cs A H locs ls C w hl
  obtain ⟨hx, hb, hml, hown, hts, hN, hR, hcs, hK, hE, hA, hend⟩ := id C
  exact va_lald hx hb hK w.1 q 1 (wc_at hq) rfl hi hd (k p l e R s m args below meth c cells slots Z ad D cs A H locs ls C w hl)

theorem r_aaload {X : SX} {d : Nat} {M : Mt} {pc : Nat} {lv : List (Option Value)} {st : List Value} {h : AH} {rv : Option Value} {Q : AH → Prop} {q n g : Nat} {f : Nat → Option Nat} {i : Int32} (hd : decode M.2.1 pc = .ok (.aaload, 1)) (hq : h[q]? = some (.inl (3, n, .inr (.inr (.inr (.inr f)))))) (hi : vp_in i n) (hg : f i.toNatClampNeg = some g) (k : RunQ X d M (pc + 1) lv (.ref g :: st) h rv Q) : RunQ X d M (pc) lv (.int i :: .ref q :: st) h rv Q := by
  intro p l e R s m args below meth c cells slots Z ad D cs A H locs ls C w hl
  obtain ⟨hx, hb, hml, hown, hts, hN, hR, hcs, hK, hE, hA, hend⟩ := id C
  refine va_aldq hx hb hK w.1 q 3 (wc_at hq) rfl hi hd ?_
  have k1 := k p l e R s m args below meth c cells slots Z ad D cs A H locs ls C w hl
  have e9 : va_rf ((f i.toNatClampNeg).map ad) = Value.ref (ad g) := by rw [hg]; rfl
  exact W.eq (congrArg (fun z => F0 m (pc + 1) ls (z :: List.map (cv ad) st)) e9) k1

theorem r_alen {X : SX} {d : Nat} {M : Mt} {pc : Nat} {lv : List (Option Value)} {st : List Value} {h : AH} {rv : Option Value} {Q : AH → Prop} {q τ n : Nat} {x : (Nat → Int32) ⊕ (Nat → Int64) ⊕ (Nat → UInt32) ⊕ (Nat → UInt64) ⊕ (Nat → Option Nat)} {ty : FieldType} (hd : decode M.2.1 pc = .ok (.arraylength, 1)) (hq : h[q]? = some (.inl (τ, n, x))) (hty : ∀ cs : Nat → ClassId, (tys cs)[τ]? = some (cs τ, ty)) (k : RunQ X d M (pc + 1) lv (.int (nI n) :: st) h rv Q) : RunQ X d M (pc) lv (.ref q :: st) h rv Q := by
  intro p l e R s m args below meth c cells slots Z ad D cs A H locs ls C w hl
  obtain ⟨hx, hb, hml, hown, hts, hN, hR, hcs, hK, hE, hA, hend⟩ := id C
  have e9 : (cA ad (n, x)).1 = n := by rcases x with f | f | f | f | f <;> rfl
  exact va_alen hx hb hK w.1 q τ (wc_at hq) (hty cs) (show Int32.ofNat (cA ad (n, x)).1 = nI n by rw [e9]; rfl) hd (k p l e R s m args below meth c cells slots Z ad D cs A H locs ls C w hl)

theorem r_iastore {X : SX} {d : Nat} {M : Mt} {pc : Nat} {lv : List (Option Value)} {st : List Value} {h : AH} {rv : Option Value} {Q : AH → Prop} {q n : Nat} {f : Nat → Int32} {i : Int32} {x : Int32} {h' : AH} (hd : decode M.2.1 pc = .ok (.iastore, 1)) (hq : h[q]? = some (.inl (0, n, .inl f))) (hi : vp_in i n) (hh : h.set q (.inl (0, n, .inl (upd f i.toNatClampNeg x))) = h') (k : RunQ X d M (pc + 1) lv (st) h' rv Q) : RunQ X d M (pc) lv (.int x :: .int i :: .ref q :: st) h rv Q := by
  intro p l e R s m args below meth c cells slots Z ad D cs A H locs ls C w hl
  obtain ⟨hx, hb, hml, hown, hts, hN, hR, hcs, hK, hE, hA, hend⟩ := id C
  subst hh
  refine va_iast hx hb hK w.1 w.2.1 w.2.2 q 0 (wc_at hq) rfl hi hd (fun H1 locs1 hP1 hD1 hS1 => ?_)
  have e9 := wc_set cs ad h q (.inl (0, n, .inl (upd f i.toNatClampNeg x)))
  refine k p l e R s m args below meth c cells slots Z ad D cs A H1 locs1 ls C ⟨?_, ?_, hS1⟩ hl
  · rw [← e9]; exact hP1
  · rw [← e9]; exact hD1

theorem r_bastore {X : SX} {d : Nat} {M : Mt} {pc : Nat} {lv : List (Option Value)} {st : List Value} {h : AH} {rv : Option Value} {Q : AH → Prop} {q n : Nat} {f : Nat → Int32} {i : Int32} {x : Int32} {h' : AH} (hd : decode M.2.1 pc = .ok (.bastore, 1)) (hq : h[q]? = some (.inl (2, n, .inl f))) (hi : vp_in i n) (hh : h.set q (.inl (2, n, .inl (upd f i.toNatClampNeg (vp_nar .byte x)))) = h') (k : RunQ X d M (pc + 1) lv (st) h' rv Q) : RunQ X d M (pc) lv (.int x :: .int i :: .ref q :: st) h rv Q := by
  intro p l e R s m args below meth c cells slots Z ad D cs A H locs ls C w hl
  obtain ⟨hx, hb, hml, hown, hts, hN, hR, hcs, hK, hE, hA, hend⟩ := id C
  subst hh
  refine va_bast hx hb hK w.1 w.2.1 w.2.2 q 2 (wc_at hq) rfl hi hd (fun H1 locs1 hP1 hD1 hS1 => ?_)
  have e9 := wc_set cs ad h q (.inl (2, n, .inl (upd f i.toNatClampNeg (vp_nar .byte x))))
  refine k p l e R s m args below meth c cells slots Z ad D cs A H1 locs1 ls C ⟨?_, ?_, hS1⟩ hl
  · rw [← e9]; exact hP1
  · rw [← e9]; exact hD1

theorem r_lastore {X : SX} {d : Nat} {M : Mt} {pc : Nat} {lv : List (Option Value)} {st : List Value} {h : AH} {rv : Option Value} {Q : AH → Prop} {q n : Nat} {f : Nat → Int64} {i : Int32} {x : Int64} {h' : AH} (hd : decode M.2.1 pc = .ok (.lastore, 1)) (hq : h[q]? = some (.inl (1, n, .inr (.inl f)))) (hi : vp_in i n) (hh : h.set q (.inl (1, n, .inr (.inl (vp_updL f i.toNatClampNeg x)))) = h') (k : RunQ X d M (pc + 1) lv (st) h' rv Q) : RunQ X d M (pc) lv (.long x :: .int i :: .ref q :: st) h rv Q := by
  intro p l e R s m args below meth c cells slots Z ad D cs A H locs ls C w hl
  obtain ⟨hx, hb, hml, hown, hts, hN, hR, hcs, hK, hE, hA, hend⟩ := id C
  subst hh
  refine va_last hx hb hK w.1 w.2.1 w.2.2 q 1 (wc_at hq) rfl hi hd (fun H1 locs1 hP1 hD1 hS1 => ?_)
  have e9 := wc_set cs ad h q (.inl (1, n, .inr (.inl (vp_updL f i.toNatClampNeg x))))
  refine k p l e R s m args below meth c cells slots Z ad D cs A H1 locs1 ls C ⟨?_, ?_, hS1⟩ hl
  · rw [← e9]; exact hP1
  · rw [← e9]; exact hD1

theorem r_taload {X : SX} {d : Nat} {M : Mt} {pc : Nat} {lv : List (Option Value)} {st : List Value} {h : AH} {rv : Option Value} {Q : AH → Prop} {i : Int32} (hd : decode M.2.1 pc = .ok (.iaload, 1)) (hi : vp_in i X.1) (k : RunQ X d M (pc + 1) lv (.int (X.2 i.toNatClampNeg) :: st) h rv Q) : RunQ X d M (pc) lv (.int i :: .ref 1000 :: st) h rv Q := by
  intro p l e R s m args below meth c cells slots Z ad D cs A H locs ls C w hl
  obtain ⟨hx, hb, hml, hown, hts, hN, hR, hcs, hK, hE, hA, hend⟩ := id C
  obtain ⟨cell, h1, h3, h4, h5, h6, h7, -⟩ := hE.1.kept w.2.2.2.1
  have hlt : i.toNatClampNeg < X.1 := Nat.not_le.mp fun q => hi (Or.inr q)
  exact W.iald hx hb h1 h3 h4 (fun q => hi (q.imp id (fun z => Nat.le_trans h5 z))) (h7 _ hlt) rfl rfl hd (k p l e R s m args below meth c cells slots Z ad D cs A H locs ls C w hl)

theorem r_tlen {X : SX} {d : Nat} {M : Mt} {pc : Nat} {lv : List (Option Value)} {st : List Value} {h : AH} {rv : Option Value} {Q : AH → Prop} (hd : decode M.2.1 pc = .ok (.arraylength, 1)) (k : RunQ X d M (pc + 1) lv (.int (nI X.1) :: st) h rv Q) : RunQ X d M (pc) lv (.ref 1000 :: st) h rv Q := by
  intro p l e R s m args below meth c cells slots Z ad D cs A H locs ls C w hl
  obtain ⟨hx, hb, hml, hown, hts, hN, hR, hcs, hK, hE, hA, hend⟩ := id C
  obtain ⟨cell, h1, h3, h4, h5, h6, h7, -⟩ := hE.1.kept w.2.2.2.1
  exact W.alen hx hb h1 h3 h6 rfl rfl hd (k p l e R s m args below meth c cells slots Z ad D cs A H locs ls C w hl)

theorem r_kaload {X : SX} {d : Nat} {M : Mt} {pc : Nat} {lv : List (Option Value)} {st : List Value} {h : AH} {rv : Option Value} {Q : AH → Prop} {i : Int32} (hd : decode M.2.1 pc = .ok (.iaload, 1)) (hi : vp_in i 6) (k : RunQ X d M (pc + 1) lv (.int (kAbove i.toNatClampNeg) :: st) h rv Q) : RunQ X d M (pc) lv (.int i :: .ref 1001 :: st) h rv Q := by
  intro p l e R s m args below meth c cells slots Z ad D cs A H locs ls C w hl
  obtain ⟨hx, hb, hml, hown, hts, hN, hR, hcs, hK, hE, hA, hend⟩ := id C
  obtain ⟨cell, h1, h3, h4, h5, h6, h7, -⟩ := hE.2.2.1.kept w.2.2.2.1
  have hlt : i.toNatClampNeg < 6 := Nat.not_le.mp fun q => hi (Or.inr q)
  exact W.iald hx hb h1 h3 h4 (fun q => hi (q.imp id (fun z => Nat.le_trans h5 z))) (h7 _ hlt) rfl rfl hd (k p l e R s m args below meth c cells slots Z ad D cs A H locs ls C w hl)

theorem r_kget {X : SX} {d : Nat} {M : Mt} {pc : Nat} {lv : List (Option Value)} {st : List Value} {h : AH} {rv : Option Value} {Q : AH → Prop} {idx : Nat} (hw : Cond.fieldLink M.1.cls idx "OneLantern" "KIND_ABOVE" "[I" ∈ gT) (hd : decode M.2.1 pc = .ok (.getstatic idx, 3)) (k : RunQ X d M (pc + 3) lv (.ref 1001 :: st) h rv Q) : RunQ X d M (pc) lv (st) h rv Q := by
  intro p l e R s m args below meth c cells slots Z ad D cs A H locs ls C w hl
  obtain ⟨hx, hb, hml, hown, hts, hN, hR, hcs, hK, hE, hA, hend⟩ := id C
  exact va_gets hx hb hE.2.1 w.2.2 hown (hts _ hw) (fun _ z => z) hd (k p l e R s m args below meth c cells slots Z ad D cs A H locs ls C w hl)

def GOK (own : String) (idx ci j : Nat) : Prop := ∃ (C : String) (T : u_T) (N : Nat), vwCl[ci]? = some (C, T, N) ∧ j < N ∧ (∀ w ∈ u_ws C T N, w ∈ gT) ∧ (Cond.fieldLink own idx (T j).1 (T j).2.1 (T j).2.2.1 ∈ gT ∨ ∃ host, Cond.fieldLinkNest own idx (T j).1 (T j).2.1 (T j).2.2.1 host ∈ nT)
def POK (own : String) (idx ci j : Nat) (ty : FieldType) : Prop := ∃ (C : String) (T : u_T) (N : Nat) (ty0 : Nat → FieldType), vwCl[ci]? = some (C, T, N) ∧ j < N ∧ (∀ w ∈ u_ws C T N, w ∈ gT) ∧ (Cond.fieldLink own idx (T j).1 (T j).2.1 (T j).2.2.1 ∈ gT ∨ ∃ host, Cond.fieldLinkNest own idx (T j).1 (T j).2.1 (T j).2.2.1 host ∈ nT) ∧ (T j).2.2.2 = false ∧ parseFieldDescriptor (T j).2.2.1 = some ty ∧ (∀ k, k < N → parseFieldDescriptor (T k).2.2.1 = some (ty0 k)) ∧ (∀ a, a < N → ∀ b, b < N → a ≠ b → (T a).2.1 ≠ (T b).2.1)

theorem r_getfield {X : SX} {d : Nat} {M : Mt} {pc : Nat} {lv : List (Option Value)} {st : List Value} {h : AH} {rv : Option Value} {Q : AH → Prop} {q ci j idx : Nat} {fs : List Value} {v : Value} (hd : decode M.2.1 pc = .ok (.getfield idx, 3)) (g : GOK M.1.cls idx ci j) (hq : h[q]? = some (.inr (ci, fs))) (hv : fs[j]? = some v) (k : RunQ X d M (pc + 3) lv (v :: st) h rv Q) : RunQ X d M (pc) lv (.ref q :: st) h rv Q := by
  intro p l e R s m args below meth c cells slots Z ad D cs A H locs ls C w hl
  obtain ⟨hx, hb, hml, hown, hts, hN, hR, hcs, hK, hE, hA, hend⟩ := id C
  obtain ⟨C0, T0, N0, g1, g2, g3, g4⟩ := g
  have hv9 : (fs.map (cv ad))[j]? = some (cv ad v) := by rw [List.getElem?_map, hv]; rfl
  rcases g4 with g4 | ⟨host, g4⟩
  · exact va_get hx hb hts g3 hown hK w.1 q (wc_at hq) g1 j g2 (hts _ g4) (fun _ z => z) hv9 hd (k p l e R s m args below meth c cells slots Z ad D cs A H locs ls C w hl)
  · exact va_getN hx hb hts g3 hown hK w.1 q (wc_at hq) g1 j g2 (va_Nw.use rfl (hN _ g4)) (fun _ z => z) hv9 hd (k p l e R s m args below meth c cells slots Z ad D cs A H locs ls C w hl)

theorem r_putfield {X : SX} {d : Nat} {M : Mt} {pc : Nat} {lv : List (Option Value)} {st : List Value} {h : AH} {rv : Option Value} {Q : AH → Prop} {q ci j idx : Nat} {fs fs' : List Value} {v : Value} {ty : FieldType} {h' : AH} (hd : decode M.2.1 pc = .ok (.putfield idx, 3)) (g : POK M.1.cls idx ci j ty) (hq : h[q]? = some (.inr (ci, fs))) (hj : j < fs.length) (hv : ∀ ad, cv ad v = v) (hn : narrow ty v = v) (hf : fits ty v = true) (hfs : fs.set j v = fs') (hh : h.set q (.inr (ci, fs')) = h') (k : RunQ X d M (pc + 3) lv (st) h' rv Q) : RunQ X d M (pc) lv (v :: .ref q :: st) h rv Q := by
  intro p l e R s m args below meth c cells slots Z ad D cs A H locs ls C w hl
  obtain ⟨hx, hb, hml, hown, hts, hN, hR, hcs, hK, hE, hA, hend⟩ := id C
  obtain ⟨C0, T0, N0, ty0, g1, g2, g3, g4, g5, g6, g7, g8⟩ := g
  subst hfs
  subst hh
  have e9 := wc_set cs ad h q (.inr (ci, fs.set j v))
  have e8 : cE cs ad (.inr (ci, fs.set j v)) = .inr (ci, (fs.map (cv ad)).set j (cv ad v)) := by
    show Sum.inr (ci, (fs.set j v).map (cv ad)) = _
    rw [List.map_set]
  rw [e8] at e9
  have hn9 : narrow ty (cv ad v) = cv ad v := by rw [hv]; exact hn
  have hf9 : fits ty (cv ad v) = true := by rw [hv]; exact hf
  have hj9 : j < (fs.map (cv ad)).length := by rw [List.length_map]; exact hj
  rcases g4 with g4 | ⟨host, g4⟩
  · refine va_put hx hb hts g3 ty0 g7 g8 hown hK w.1 w.2.1 w.2.2 q (wc_at hq) g1 j g2 (hts _ g4) (fun _ z => z) g5 g6 hn9 hf9 hj9 hd (fun H1 locs1 hP1 hD1 hS1 => ?_)
    refine k p l e R s m args below meth c cells slots Z ad D cs A H1 locs1 ls C ⟨?_, ?_, hS1⟩ hl
    · rw [← e9]; exact hP1
    · rw [← e9]; exact hD1
  · refine va_putN hx hb hts g3 ty0 g7 g8 hown hK w.1 w.2.1 w.2.2 q (wc_at hq) g1 j g2 (va_Nw.use rfl (hN _ g4)) (fun _ z => z) g5 g6 hn9 hf9 hj9 hd (fun H1 locs1 hP1 hD1 hS1 => ?_)
    refine k p l e R s m args below meth c cells slots Z ad D cs A H1 locs1 ls C ⟨?_, ?_, hS1⟩ hl
    · rw [← e9]; exact hP1
    · rw [← e9]; exact hD1

theorem r_heq {X : SX} {d : Nat} {M : Mt} {pc : Nat} {lv : List (Option Value)} {st : List Value} {h : AH} {rv : Option Value} {Q : AH → Prop} {h' : AH} (hh : HE h h') (k : RunQ X d M (pc) lv (st) h' rv Q) : RunQ X d M (pc) lv (st) h rv Q := by
  intro p l e R s m args below meth c cells slots Z ad D cs A H locs ls C w hl
  obtain ⟨hx, hb, hml, hown, hts, hN, hR, hcs, hK, hE, hA, hend⟩ := id C
  exact k p l e R s m args below meth c cells slots Z ad D cs A H locs ls C ⟨hh.P w.1, wc_D w.2.1 hh.len, w.2.2⟩ hl

theorem r_lv {X : SX} {d : Nat} {M : Mt} {pc : Nat} {lv : List (Option Value)} {st : List Value} {h : AH} {rv : Option Value} {Q : AH → Prop} {lv' : List (Option Value)} (hh : ∀ (i : Nat) (v : Value), lv'[i]? = some (some v) → lv[i]? = some (some v)) (k : RunQ X d M (pc) lv' (st) h rv Q) : RunQ X d M (pc) lv (st) h rv Q := by
  intro p l e R s m args below meth c cells slots Z ad D cs A H locs ls C w hl
  obtain ⟨hx, hb, hml, hown, hts, hN, hR, hcs, hK, hE, hA, hend⟩ := id C
  exact k p l e R s m args below meth c cells slots Z ad D cs A H locs ls C w ⟨hl.1, hl.2.1, fun i v hi => hl.2.2 i v (hh i v hi)⟩

theorem r_iret {X : SX} {d : Nat} {M : Mt} {pc : Nat} {lv : List (Option Value)} {h : AH} {rv : Option Value} {Q : AH → Prop} {v : Int32} {ty : FieldType} (hd : decode M.2.1 pc = .ok (.ireturn, 1)) (hty : M.2.2.2 = some ty) (hn : narrow ty (.int v) = .int v) (hrv : some (.int v) = rv) (hh : Q h) : RunQ X d M pc lv [.int v] h rv Q := by
  intro p l e R s m args below meth c cells slots Z ad D cs A H locs ls C w hl
  obtain ⟨hx, hb, hml, hown, hts, hN, hR, hcs, hK, hE, hA, hend⟩ := id C
  subst hrv
  exact hend H locs pc ls .ireturn h hh w.1 w.2.1 w.2.2 (Or.inl ⟨rfl, v, ty, rfl, hty, hn⟩) hd

theorem r_lret {X : SX} {d : Nat} {M : Mt} {pc : Nat} {lv : List (Option Value)} {h : AH} {rv : Option Value} {Q : AH → Prop} {v : Int64} (hd : decode M.2.1 pc = .ok (.lreturn, 1)) (hty : M.2.2.2 = some .long) (hrv : some (.long v) = rv) (hh : Q h) : RunQ X d M pc lv [.long v] h rv Q := by
  intro p l e R s m args below meth c cells slots Z ad D cs A H locs ls C w hl
  obtain ⟨hx, hb, hml, hown, hts, hN, hR, hcs, hK, hE, hA, hend⟩ := id C
  subst hrv
  exact hend H locs pc ls .lreturn h hh w.1 w.2.1 w.2.2 (Or.inr (Or.inl ⟨rfl, v, rfl, hty⟩)) hd

theorem r_vret {X : SX} {d : Nat} {M : Mt} {pc : Nat} {lv : List (Option Value)} {h : AH} {rv : Option Value} {Q : AH → Prop} (hd : decode M.2.1 pc = .ok (.return_, 1)) (hty : M.2.2.2 = none) (hrv : none = rv) (hh : Q h) : RunQ X d M pc lv [] h rv Q := by
  intro p l e R s m args below meth c cells slots Z ad D cs A H locs ls C w hl
  obtain ⟨hx, hb, hml, hown, hts, hN, hR, hcs, hK, hE, hA, hend⟩ := id C
  subst hrv
  exact hend H locs pc ls .return_ h hh w.1 w.2.1 w.2.2 (Or.inr (Or.inr (Or.inl ⟨rfl, rfl, hty⟩))) hd

theorem r_aret {X : SX} {d : Nat} {M : Mt} {pc : Nat} {lv : List (Option Value)} {h : AH} {rv : Option Value} {Q : AH → Prop} {a : Nat} {n : String} (hd : decode M.2.1 pc = .ok (.areturn, 1)) (hty : M.2.2.2 = some (.object n)) (hrv : some (.ref a) = rv) (hh : Q h) : RunQ X d M pc lv [.ref a] h rv Q := by
  intro p l e R s m args below meth c cells slots Z ad D cs A H locs ls C w hl
  obtain ⟨hx, hb, hml, hown, hts, hN, hR, hcs, hK, hE, hA, hend⟩ := id C
  subst hrv
  exact hend H locs pc ls .areturn h hh w.1 w.2.1 w.2.2 (Or.inr (Or.inr (Or.inr ⟨rfl, a, n, rfl, hty⟩))) hd

def LKm (own : String) (idx : Nat) (y : MethodName) : Prop := Cond.methodLink own idx y ∈ gT ∨ ∃ host, Cond.methodLinkNest own idx y host ∈ nT
def MRb (M : Mt) (n : Nat) : Prop := Cond.code M.1 M.2.1 M.2.2.1 M.2.2.2 ∈ gT ∧ Cond.initialized M.1.cls ∈ gT ∧ (M.1.cls ≠ "java/lang/invoke/MethodHandle" ∧ M.1.cls ≠ "java/lang/invoke/VarHandle" ∧ (parseMethodDescriptor M.1.desc).map (fun d => d.parameters.length) = some n) ∧ M.2.2.1 ≤ 11 ∧ plainFor M.1 = true
def MRs (M : Mt) (n : Nat) : Prop := MRb M n ∧ Cond.static M.1 ∈ gT
def MRv (M : Mt) (n : Nat) : Prop := MRb M n ∧ Cond.instanceMethod M.1 ∈ gT ∧ Cond.selects M.1.cls M.1 M.1 ∈ gT
theorem MRb.good {M : Mt} {n : Nat} (h : MRb M n) : GoodIn gT (Cond.code M.1 M.2.1 M.2.2.1 M.2.2.2 :: gT) := fun w hw => (List.mem_cons.mp hw).elim (fun z => by rw [z]; exact ⟨h.1, gT_good _ h.1⟩) (fun z => ⟨z, gT_good _ z⟩)
section CALLG
variable {p : Program} {l : Launch} {e : Env} {R : Room} {s : State} {m : MethodId} {args : Array Value} {below : List Frame} {meth : Method} {c : Code} {H : Heap} {locs : List Loc} {cells slots : Nat} {Z : State → Prop}
theorem callG {D : va_G} {cs : Nat → ClassId} {ad : Nat → Nat} {A : Nat → Prop} {pc : Nat} {ls : Array Slot} {st0 rest : List Value} {h : AH} {Q1 : AH → Prop} {rv1 : Option Value} {a : Array Value} (hr : va_Run p l e R s m args below meth c H locs cells slots 0 0 (F0 m pc ls st0) rest (PQ D cs ad h H.size rv1 Q1 a) (va_A (wc cs ad h) H.size)) (hS : va_S A s.heap H locs) (hF : ∀ q, va_A (wc cs ad h) H.size q → A q)
    (kk : ∀ (H1 : Heap) (locs1 : List Loc) (h1 : AH), Q1 h1 → va_P D vwCl (wc cs ad h1) H1 → h1.length = h.length → va_S A s.heap H1 locs1 → W p l e R s m args below meth c H1 locs1 cells slots Z (F0 m (pc + 3) ls ((rv1.map (cv ad)).toList ++ rest))) : W p l e R s m args below meth c H locs cells slots Z (F0 m pc ls st0) := by
  intro T hT X
  obtain ⟨v, st₀, t, T', L, h0, X', hL, e1, e2, ⟨hv, ⟨h9, hq9, hp, hlen⟩, hz, hk⟩, st⟩ := hr T hT X
  have hv9 : v = rv1.map (cv ad) := Outcome.returned.inj hv
  subst hv9
  rw [h0] at hz hk
  obtain ⟨t2, a1, b1⟩ := kk T'.heap (locs ++ L) h9 hq9 (by rw [e1]; exact hp) hlen
    ⟨Nat.le_trans hS.1 (by rw [e1]; exact hz), fun q h1 h2 => by rw [e1, hk q (Nat.lt_of_lt_of_le h1 hS.1) (fun z => h2 (hF q z))]; exact hS.2.1 q h1 h2, fun q hq => by
      rcases List.mem_append.mp hq with h | h
      · exact hS.2.2 q h
      · exact hF _ (hL q h)⟩ T' rfl X'
  exact ⟨t2, st t2 a1, b1⟩
end CALLG
theorem PW.blind {X : SX} {D : va_G} {cs : Nat → ClassId} {ad : Nat → Nat} {h : AH} {sz : Nat} (av : List Value) : FrameBlind (va_Pc av (PW X D cs ad h sz)) := by
  intro a U g mk q
  obtain ⟨q0, q1, q2, q3, q4, q5, q6⟩ := q
  exact ⟨q0, q1, q2, va_K.moved (u := U) (U := U.calling g mk a) (Vm.Alike.refl U.vm) q3, q4, Nst.same (s := U) (U := U.calling g mk a) rfl q5, Ev.same (s := U) (U := U.calling g mk a) q6 rfl rfl⟩
theorem wc_free {h : AH} {s : State} {ad : Nat → Nat} {D : va_G} {cs : Nat → ClassId} {A : Nat → Prop} {H : Heap} {locs : List Loc} (w : Wd h s ad D cs A H locs) (hA : ∀ q : Nat, s.heap.size ≤ q → A q) : ∀ q, va_A (wc cs ad h) H.size q → A q := by
  intro q hq
  rcases hq with ⟨k, e, hk⟩ | hq
  · exact w.2.1.2 k _ hk
  · exact hA q (Nat.le_trans w.2.2.1 hq)
theorem PW.mk {X : SX} {h : AH} {s U : State} {ad : Nat → Nat} {D : va_G} {cs : Nat → ClassId} {A : Nat → Prop} {H : Heap} {locs : List Loc} (w : Wd h s ad D cs A H locs) (hA : ∀ q : Nat, s.heap.size ≤ q → A q) (hN : Nst s) (hK : va_K D vwCl (tys cs) s) (hE : Ev X (fun k => ad (1000 + k)) A s s.heap) (hU : U.heap = H) (hW : s.WarmedH U.vm) : PW X D cs ad h H.size U :=
  ⟨by rw [hU], by rw [hU]; exact w.1, va_K.moved hW.alike hK, w.2.1.weaken (fun _ _ _ _ => trivial), hN.warm hW, hE.to hW hU w.2.2 (wc_free w hA)⟩

theorem r_callS {X : SX} {d : Nat} {M : Mt} {pc : Nat} {lv : List (Option Value)} {st : List Value} {h : AH} {rv : Option Value} {Q : AH → Prop} {d' idx : Nat} {M' : Mt} (as : List Value) {rv1 : Option Value} {Q1 : AH → Prop} (S : SpQ d' M' as h rv1 Q1) (hdd : d' + 1 ≤ d) (mr : MRs M' as.length) (lk : LKm M.1.cls idx M'.1) (hd : decode M.2.1 pc = .ok (.invokestatic idx, 3)) (hw : (st.map fun v => v.category).sum ≤ 8) (k : ∀ h1 : AH, h1.length = h.length → Q1 h1 → RunQ X d M (pc + 3) lv (rv1.toList ++ st) h1 rv Q) : RunQ X d M (pc) lv (as.reverse ++ st) h rv Q := by
  intro p l e R s m args below meth c cells slots Z ad D cs A H locs ls C w hl
  obtain ⟨hx, hb, hml, hown, hts, hN, hR, hcs, hK, hE, hA, hend⟩ := id C
  obtain ⟨⟨m1, m2, m3, m4, m5⟩, m6⟩ := mr
  have mg := MRb.good ⟨m1, m2, m3, m4, m5⟩
  have hR9 : (d' + 1 ≤ R.frames) ∧ (8 + (M'.2.2.1 + 11) + 30 * d' ≤ R.locals) := ⟨Nat.le_trans hdd hR.1, by omega⟩
  have e9 : (as.reverse ++ st).map (cv ad) = (as.map (cv ad)).reverse ++ st.map (cv ad) := by simp
  have e8 : (as.map (cv ad)).length = as.length := List.length_map _
  have hw9 : 2 * (F0 m pc ls ((as.reverse ++ st).map (cv ad))).monitorRoom + ((st.map (cv ad)).map fun v => v.category).sum ≤ 8 := lv_room (by
    rw [List.map_map, show ((fun v => Value.category v) ∘ cv ad) = (fun v => Value.category v) from funext (cv_cat ad)]; exact hw)
  rcases lk with lk | ⟨host, lk⟩
  · refine callG (va_runS (As := as.map (cv ad)) (rest := st.map (cv ad)) ⟨hx, hb, hml, hown, hts⟩ (S X l D cs ad H.size) ⟨callB_of as.length hts mg rfl rfl rfl (hts _ m2) (hts _ lk) m3 hR9, hts _ m6⟩ ⟨PW.blind _, fun U hU hW => ⟨rfl, PW.mk w hA hN hK hE hU hW⟩⟩ rfl e8 hl.1 e9 hw9 hd ⟨hcs.1, hcs.2⟩) w.2.2 (wc_free w hA) (fun H1 locs1 h1 hq1 hP1 hl1 hS1 => ?_)
    have k1 := k h1 hl1 hq1 p l e R s m args below meth c cells slots Z ad D cs A H1 locs1 ls C ⟨hP1, wc_D w.2.1 hl1, hS1⟩ hl
    have e7 : (rv1.toList ++ st).map (cv ad) = (rv1.map (cv ad)).toList ++ st.map (cv ad) := by cases rv1 <;> simp
    rw [e7] at k1
    exact k1
  · refine callG (va_runSN (As := as.map (cv ad)) (rest := st.map (cv ad)) ⟨hx, hb, hml, hown, hts⟩ (S X l D cs ad H.size) ⟨va_cnB as.length hts mg rfl rfl rfl (hN _ lk) (hts _ m2) m3 hR9, hts _ m6, trivial⟩ ⟨PW.blind _, fun U hU hW => ⟨rfl, PW.mk w hA hN hK hE hU hW⟩⟩ rfl e8 hl.1 e9 hw9 hd ⟨hcs.1, hcs.2⟩) w.2.2 (wc_free w hA) (fun H1 locs1 h1 hq1 hP1 hl1 hS1 => ?_)
    have k1 := k h1 hl1 hq1 p l e R s m args below meth c cells slots Z ad D cs A H1 locs1 ls C ⟨hP1, wc_D w.2.1 hl1, hS1⟩ hl
    have e7 : (rv1.toList ++ st).map (cv ad) = (rv1.map (cv ad)).toList ++ st.map (cv ad) := by cases rv1 <;> simp
    rw [e7] at k1
    exact k1

theorem r_callV {X : SX} {d : Nat} {M : Mt} {pc : Nat} {lv : List (Option Value)} {st : List Value} {h : AH} {rv : Option Value} {Q : AH → Prop} {d' idx q ci : Nat} {M' : Mt} {vc : vw_C} {fs : List Value} (as : List Value) {rv1 : Option Value} {Q1 : AH → Prop} (S : SpQ d' M' (.ref q :: as) h rv1 Q1) (hdd : d' + 1 ≤ d) (mr : MRv M' as.length) (lk : LKm M.1.cls idx M'.1) (hq : h[q]? = some (.inr (ci, fs))) (hvc : vwCl[ci]? = some vc) (hcc : vc.1 = M'.1.cls) (hd : decode M.2.1 pc = .ok (.invokevirtual idx, 3)) (hw : (st.map fun v => v.category).sum ≤ 8) (k : ∀ h1 : AH, h1.length = h.length → Q1 h1 → RunQ X d M (pc + 3) lv (rv1.toList ++ st) h1 rv Q) : RunQ X d M (pc) lv (as.reverse ++ .ref q :: st) h rv Q := by
  intro p l e R s m args below meth c cells slots Z ad D cs A H locs ls C w hl
  obtain ⟨hx, hb, hml, hown, hts, hN, hR, hcs, hK, hE, hA, hend⟩ := id C
  obtain ⟨⟨m1, m2, m3, m4, m5⟩, m6, m7⟩ := mr
  have mg := MRb.good ⟨m1, m2, m3, m4, m5⟩
  have hR9 : (d' + 1 ≤ R.frames) ∧ (8 + (M'.2.2.1 + 11) + 30 * d' ≤ R.locals) := ⟨Nat.le_trans hdd hR.1, by omega⟩
  have e9 : (as.reverse ++ .ref q :: st).map (cv ad) = (as.map (cv ad)).reverse ++ .ref (ad q) :: st.map (cv ad) := by simp [cv]
  have e8 : (as.map (cv ad)).length = as.length := List.length_map _
  have hw9 : 2 * (F0 m pc ls ((as.reverse ++ .ref q :: st).map (cv ad))).monitorRoom + ((st.map (cv ad)).map fun v => v.category).sum ≤ 8 := lv_room (by
    rw [List.map_map, show ((fun v => Value.category v) ∘ cv ad) = (fun v => Value.category v) from funext (cv_cat ad)]; exact hw)
  have hrc := va_recv hK w.1 hvc (wc_at hq)
  rw [hcc] at hrc
  rcases lk with lk | ⟨host, lk⟩
  · refine callG (va_runV (As := as.map (cv ad)) (rest := st.map (cv ad)) ⟨hx, hb, hml, hown, hts⟩ (S X l D cs ad H.size) ⟨callB_of as.length hts mg rfl rfl rfl (hts _ m2) (hts _ lk) m3 hR9, hts _ m6, hts _ m7⟩ ⟨PW.blind _, hrc, fun U hU hW => ⟨rfl, PW.mk w hA hN hK hE hU hW⟩⟩ rfl e8 hl.1 e9 hw9 hd ⟨hcs.1, hcs.2⟩) w.2.2 (wc_free w hA) (fun H1 locs1 h1 hq1 hP1 hl1 hS1 => ?_)
    have k1 := k h1 hl1 hq1 p l e R s m args below meth c cells slots Z ad D cs A H1 locs1 ls C ⟨hP1, wc_D w.2.1 hl1, hS1⟩ hl
    have e7 : (rv1.toList ++ st).map (cv ad) = (rv1.map (cv ad)).toList ++ st.map (cv ad) := by cases rv1 <;> simp
    rw [e7] at k1
    exact k1
  · refine callG (va_runVN (As := as.map (cv ad)) (rest := st.map (cv ad)) ⟨hx, hb, hml, hown, hts⟩ (S X l D cs ad H.size) ⟨va_cnB as.length hts mg rfl rfl rfl (hN _ lk) (hts _ m2) m3 hR9, hts _ m6, hts _ m7⟩ ⟨PW.blind _, hrc, fun U hU hW => ⟨rfl, PW.mk w hA hN hK hE hU hW⟩⟩ rfl e8 hl.1 e9 hw9 hd ⟨hcs.1, hcs.2⟩) w.2.2 (wc_free w hA) (fun H1 locs1 h1 hq1 hP1 hl1 hS1 => ?_)
    have k1 := k h1 hl1 hq1 p l e R s m args below meth c cells slots Z ad D cs A H1 locs1 ls C ⟨hP1, wc_D w.2.1 hl1, hS1⟩ hl
    have e7 : (rv1.toList ++ st).map (cv ad) = (rv1.map (cv ad)).toList ++ st.map (cv ad) := by cases rv1 <;> simp
    rw [e7] at k1
    exact k1

theorem r_s0r {X : SX} {d : Nat} {M : Mt} {pc : Nat} {lv : List (Option Value)} {st : List Value} {h : AH} {rv : Option Value} {Q : AH → Prop} {d' idx : Nat} {M' : Mt} {v : Value} {h1 : AH} (S : Sp d' M' [] h (some v) h1) (hdd : d' + 1 ≤ d) (mr : MRs M' 0) (lk : LKm M.1.cls idx M'.1) (hd : decode M.2.1 pc = .ok (.invokestatic idx, 3)) (hw : (st.map fun v => v.category).sum ≤ 8) (k : RunQ X d M (pc + 3) lv (v :: st) h1 rv Q) : RunQ X d M (pc) lv (st) h rv Q := r_callS [] S hdd mr lk hd hw (fun h9 _ q9 => r_heq q9 k)

theorem r_s0n {X : SX} {d : Nat} {M : Mt} {pc : Nat} {lv : List (Option Value)} {st : List Value} {h : AH} {rv : Option Value} {Q : AH → Prop} {d' idx : Nat} {M' : Mt}  {h1 : AH} (S : Sp d' M' [] h none h1) (hdd : d' + 1 ≤ d) (mr : MRs M' 0) (lk : LKm M.1.cls idx M'.1) (hd : decode M.2.1 pc = .ok (.invokestatic idx, 3)) (hw : (st.map fun v => v.category).sum ≤ 8) (k : RunQ X d M (pc + 3) lv (st) h1 rv Q) : RunQ X d M (pc) lv (st) h rv Q := r_callS [] S hdd mr lk hd hw (fun h9 _ q9 => r_heq q9 k)

theorem r_v0r {X : SX} {d : Nat} {M : Mt} {pc : Nat} {lv : List (Option Value)} {st : List Value} {h : AH} {rv : Option Value} {Q : AH → Prop} {d' idx q ci : Nat} {M' : Mt} {vc : vw_C} {fs : List Value} {v : Value} {h1 : AH} (S : Sp d' M' [.ref q] h (some v) h1) (hdd : d' + 1 ≤ d) (mr : MRv M' 0) (lk : LKm M.1.cls idx M'.1) (hq : h[q]? = some (.inr (ci, fs))) (hvc : vwCl[ci]? = some vc) (hcc : vc.1 = M'.1.cls) (hd : decode M.2.1 pc = .ok (.invokevirtual idx, 3)) (hw : (st.map fun v => v.category).sum ≤ 8) (k : RunQ X d M (pc + 3) lv (v :: st) h1 rv Q) : RunQ X d M (pc) lv (.ref q :: st) h rv Q := r_callV [] S hdd mr lk hq hvc hcc hd hw (fun h9 _ q9 => r_heq q9 k)

theorem r_v0n {X : SX} {d : Nat} {M : Mt} {pc : Nat} {lv : List (Option Value)} {st : List Value} {h : AH} {rv : Option Value} {Q : AH → Prop} {d' idx q ci : Nat} {M' : Mt} {vc : vw_C} {fs : List Value}  {h1 : AH} (S : Sp d' M' [.ref q] h none h1) (hdd : d' + 1 ≤ d) (mr : MRv M' 0) (lk : LKm M.1.cls idx M'.1) (hq : h[q]? = some (.inr (ci, fs))) (hvc : vwCl[ci]? = some vc) (hcc : vc.1 = M'.1.cls) (hd : decode M.2.1 pc = .ok (.invokevirtual idx, 3)) (hw : (st.map fun v => v.category).sum ≤ 8) (k : RunQ X d M (pc + 3) lv (st) h1 rv Q) : RunQ X d M (pc) lv (.ref q :: st) h rv Q := r_callV [] S hdd mr lk hq hvc hcc hd hw (fun h9 _ q9 => r_heq q9 k)

theorem r_s1r {X : SX} {d : Nat} {M : Mt} {pc : Nat} {lv : List (Option Value)} {st : List Value} {h : AH} {rv : Option Value} {Q : AH → Prop} {d' idx : Nat} {M' : Mt} {a1 v : Value} {h1 : AH} (S : Sp d' M' [a1] h (some v) h1) (hdd : d' + 1 ≤ d) (mr : MRs M' 1) (lk : LKm M.1.cls idx M'.1) (hd : decode M.2.1 pc = .ok (.invokestatic idx, 3)) (hw : (st.map fun v => v.category).sum ≤ 8) (k : RunQ X d M (pc + 3) lv (v :: st) h1 rv Q) : RunQ X d M (pc) lv (a1 :: st) h rv Q := r_callS [a1] S hdd mr lk hd hw (fun h9 _ q9 => r_heq q9 k)

theorem r_s1n {X : SX} {d : Nat} {M : Mt} {pc : Nat} {lv : List (Option Value)} {st : List Value} {h : AH} {rv : Option Value} {Q : AH → Prop} {d' idx : Nat} {M' : Mt} {a1 : Value} {h1 : AH} (S : Sp d' M' [a1] h none h1) (hdd : d' + 1 ≤ d) (mr : MRs M' 1) (lk : LKm M.1.cls idx M'.1) (hd : decode M.2.1 pc = .ok (.invokestatic idx, 3)) (hw : (st.map fun v => v.category).sum ≤ 8) (k : RunQ X d M (pc + 3) lv (st) h1 rv Q) : RunQ X d M (pc) lv (a1 :: st) h rv Q := r_callS [a1] S hdd mr lk hd hw (fun h9 _ q9 => r_heq q9 k)

theorem r_v1r {X : SX} {d : Nat} {M : Mt} {pc : Nat} {lv : List (Option Value)} {st : List Value} {h : AH} {rv : Option Value} {Q : AH → Prop} {d' idx q ci : Nat} {M' : Mt} {vc : vw_C} {fs : List Value} {a1 v : Value} {h1 : AH} (S : Sp d' M' [.ref q, a1] h (some v) h1) (hdd : d' + 1 ≤ d) (mr : MRv M' 1) (lk : LKm M.1.cls idx M'.1) (hq : h[q]? = some (.inr (ci, fs))) (hvc : vwCl[ci]? = some vc) (hcc : vc.1 = M'.1.cls) (hd : decode M.2.1 pc = .ok (.invokevirtual idx, 3)) (hw : (st.map fun v => v.category).sum ≤ 8) (k : RunQ X d M (pc + 3) lv (v :: st) h1 rv Q) : RunQ X d M (pc) lv (a1 :: .ref q :: st) h rv Q := r_callV [a1] S hdd mr lk hq hvc hcc hd hw (fun h9 _ q9 => r_heq q9 k)

theorem r_v1n {X : SX} {d : Nat} {M : Mt} {pc : Nat} {lv : List (Option Value)} {st : List Value} {h : AH} {rv : Option Value} {Q : AH → Prop} {d' idx q ci : Nat} {M' : Mt} {vc : vw_C} {fs : List Value} {a1 : Value} {h1 : AH} (S : Sp d' M' [.ref q, a1] h none h1) (hdd : d' + 1 ≤ d) (mr : MRv M' 1) (lk : LKm M.1.cls idx M'.1) (hq : h[q]? = some (.inr (ci, fs))) (hvc : vwCl[ci]? = some vc) (hcc : vc.1 = M'.1.cls) (hd : decode M.2.1 pc = .ok (.invokevirtual idx, 3)) (hw : (st.map fun v => v.category).sum ≤ 8) (k : RunQ X d M (pc + 3) lv (st) h1 rv Q) : RunQ X d M (pc) lv (a1 :: .ref q :: st) h rv Q := r_callV [a1] S hdd mr lk hq hvc hcc hd hw (fun h9 _ q9 => r_heq q9 k)

theorem r_s2r {X : SX} {d : Nat} {M : Mt} {pc : Nat} {lv : List (Option Value)} {st : List Value} {h : AH} {rv : Option Value} {Q : AH → Prop} {d' idx : Nat} {M' : Mt} {a1 a2 v : Value} {h1 : AH} (S : Sp d' M' [a1, a2] h (some v) h1) (hdd : d' + 1 ≤ d) (mr : MRs M' 2) (lk : LKm M.1.cls idx M'.1) (hd : decode M.2.1 pc = .ok (.invokestatic idx, 3)) (hw : (st.map fun v => v.category).sum ≤ 8) (k : RunQ X d M (pc + 3) lv (v :: st) h1 rv Q) : RunQ X d M (pc) lv (a2 :: a1 :: st) h rv Q := r_callS [a1, a2] S hdd mr lk hd hw (fun h9 _ q9 => r_heq q9 k)

theorem r_s2n {X : SX} {d : Nat} {M : Mt} {pc : Nat} {lv : List (Option Value)} {st : List Value} {h : AH} {rv : Option Value} {Q : AH → Prop} {d' idx : Nat} {M' : Mt} {a1 a2 : Value} {h1 : AH} (S : Sp d' M' [a1, a2] h none h1) (hdd : d' + 1 ≤ d) (mr : MRs M' 2) (lk : LKm M.1.cls idx M'.1) (hd : decode M.2.1 pc = .ok (.invokestatic idx, 3)) (hw : (st.map fun v => v.category).sum ≤ 8) (k : RunQ X d M (pc + 3) lv (st) h1 rv Q) : RunQ X d M (pc) lv (a2 :: a1 :: st) h rv Q := r_callS [a1, a2] S hdd mr lk hd hw (fun h9 _ q9 => r_heq q9 k)

theorem r_v2r {X : SX} {d : Nat} {M : Mt} {pc : Nat} {lv : List (Option Value)} {st : List Value} {h : AH} {rv : Option Value} {Q : AH → Prop} {d' idx q ci : Nat} {M' : Mt} {vc : vw_C} {fs : List Value} {a1 a2 v : Value} {h1 : AH} (S : Sp d' M' [.ref q, a1, a2] h (some v) h1) (hdd : d' + 1 ≤ d) (mr : MRv M' 2) (lk : LKm M.1.cls idx M'.1) (hq : h[q]? = some (.inr (ci, fs))) (hvc : vwCl[ci]? = some vc) (hcc : vc.1 = M'.1.cls) (hd : decode M.2.1 pc = .ok (.invokevirtual idx, 3)) (hw : (st.map fun v => v.category).sum ≤ 8) (k : RunQ X d M (pc + 3) lv (v :: st) h1 rv Q) : RunQ X d M (pc) lv (a2 :: a1 :: .ref q :: st) h rv Q := r_callV [a1, a2] S hdd mr lk hq hvc hcc hd hw (fun h9 _ q9 => r_heq q9 k)

theorem r_v2n {X : SX} {d : Nat} {M : Mt} {pc : Nat} {lv : List (Option Value)} {st : List Value} {h : AH} {rv : Option Value} {Q : AH → Prop} {d' idx q ci : Nat} {M' : Mt} {vc : vw_C} {fs : List Value} {a1 a2 : Value} {h1 : AH} (S : Sp d' M' [.ref q, a1, a2] h none h1) (hdd : d' + 1 ≤ d) (mr : MRv M' 2) (lk : LKm M.1.cls idx M'.1) (hq : h[q]? = some (.inr (ci, fs))) (hvc : vwCl[ci]? = some vc) (hcc : vc.1 = M'.1.cls) (hd : decode M.2.1 pc = .ok (.invokevirtual idx, 3)) (hw : (st.map fun v => v.category).sum ≤ 8) (k : RunQ X d M (pc + 3) lv (st) h1 rv Q) : RunQ X d M (pc) lv (a2 :: a1 :: .ref q :: st) h rv Q := r_callV [a1, a2] S hdd mr lk hq hvc hcc hd hw (fun h9 _ q9 => r_heq q9 k)

theorem r_s3r {X : SX} {d : Nat} {M : Mt} {pc : Nat} {lv : List (Option Value)} {st : List Value} {h : AH} {rv : Option Value} {Q : AH → Prop} {d' idx : Nat} {M' : Mt} {a1 a2 a3 v : Value} {h1 : AH} (S : Sp d' M' [a1, a2, a3] h (some v) h1) (hdd : d' + 1 ≤ d) (mr : MRs M' 3) (lk : LKm M.1.cls idx M'.1) (hd : decode M.2.1 pc = .ok (.invokestatic idx, 3)) (hw : (st.map fun v => v.category).sum ≤ 8) (k : RunQ X d M (pc + 3) lv (v :: st) h1 rv Q) : RunQ X d M (pc) lv (a3 :: a2 :: a1 :: st) h rv Q := r_callS [a1, a2, a3] S hdd mr lk hd hw (fun h9 _ q9 => r_heq q9 k)

theorem r_s3n {X : SX} {d : Nat} {M : Mt} {pc : Nat} {lv : List (Option Value)} {st : List Value} {h : AH} {rv : Option Value} {Q : AH → Prop} {d' idx : Nat} {M' : Mt} {a1 a2 a3 : Value} {h1 : AH} (S : Sp d' M' [a1, a2, a3] h none h1) (hdd : d' + 1 ≤ d) (mr : MRs M' 3) (lk : LKm M.1.cls idx M'.1) (hd : decode M.2.1 pc = .ok (.invokestatic idx, 3)) (hw : (st.map fun v => v.category).sum ≤ 8) (k : RunQ X d M (pc + 3) lv (st) h1 rv Q) : RunQ X d M (pc) lv (a3 :: a2 :: a1 :: st) h rv Q := r_callS [a1, a2, a3] S hdd mr lk hd hw (fun h9 _ q9 => r_heq q9 k)

theorem r_v3r {X : SX} {d : Nat} {M : Mt} {pc : Nat} {lv : List (Option Value)} {st : List Value} {h : AH} {rv : Option Value} {Q : AH → Prop} {d' idx q ci : Nat} {M' : Mt} {vc : vw_C} {fs : List Value} {a1 a2 a3 v : Value} {h1 : AH} (S : Sp d' M' [.ref q, a1, a2, a3] h (some v) h1) (hdd : d' + 1 ≤ d) (mr : MRv M' 3) (lk : LKm M.1.cls idx M'.1) (hq : h[q]? = some (.inr (ci, fs))) (hvc : vwCl[ci]? = some vc) (hcc : vc.1 = M'.1.cls) (hd : decode M.2.1 pc = .ok (.invokevirtual idx, 3)) (hw : (st.map fun v => v.category).sum ≤ 8) (k : RunQ X d M (pc + 3) lv (v :: st) h1 rv Q) : RunQ X d M (pc) lv (a3 :: a2 :: a1 :: .ref q :: st) h rv Q := r_callV [a1, a2, a3] S hdd mr lk hq hvc hcc hd hw (fun h9 _ q9 => r_heq q9 k)

theorem r_v3n {X : SX} {d : Nat} {M : Mt} {pc : Nat} {lv : List (Option Value)} {st : List Value} {h : AH} {rv : Option Value} {Q : AH → Prop} {d' idx q ci : Nat} {M' : Mt} {vc : vw_C} {fs : List Value} {a1 a2 a3 : Value} {h1 : AH} (S : Sp d' M' [.ref q, a1, a2, a3] h none h1) (hdd : d' + 1 ≤ d) (mr : MRv M' 3) (lk : LKm M.1.cls idx M'.1) (hq : h[q]? = some (.inr (ci, fs))) (hvc : vwCl[ci]? = some vc) (hcc : vc.1 = M'.1.cls) (hd : decode M.2.1 pc = .ok (.invokevirtual idx, 3)) (hw : (st.map fun v => v.category).sum ≤ 8) (k : RunQ X d M (pc + 3) lv (st) h1 rv Q) : RunQ X d M (pc) lv (a3 :: a2 :: a1 :: .ref q :: st) h rv Q := r_callV [a1, a2, a3] S hdd mr lk hq hvc hcc hd hw (fun h9 _ q9 => r_heq q9 k)

theorem r_s4r {X : SX} {d : Nat} {M : Mt} {pc : Nat} {lv : List (Option Value)} {st : List Value} {h : AH} {rv : Option Value} {Q : AH → Prop} {d' idx : Nat} {M' : Mt} {a1 a2 a3 a4 v : Value} {h1 : AH} (S : Sp d' M' [a1, a2, a3, a4] h (some v) h1) (hdd : d' + 1 ≤ d) (mr : MRs M' 4) (lk : LKm M.1.cls idx M'.1) (hd : decode M.2.1 pc = .ok (.invokestatic idx, 3)) (hw : (st.map fun v => v.category).sum ≤ 8) (k : RunQ X d M (pc + 3) lv (v :: st) h1 rv Q) : RunQ X d M (pc) lv (a4 :: a3 :: a2 :: a1 :: st) h rv Q := r_callS [a1, a2, a3, a4] S hdd mr lk hd hw (fun h9 _ q9 => r_heq q9 k)

theorem r_s4n {X : SX} {d : Nat} {M : Mt} {pc : Nat} {lv : List (Option Value)} {st : List Value} {h : AH} {rv : Option Value} {Q : AH → Prop} {d' idx : Nat} {M' : Mt} {a1 a2 a3 a4 : Value} {h1 : AH} (S : Sp d' M' [a1, a2, a3, a4] h none h1) (hdd : d' + 1 ≤ d) (mr : MRs M' 4) (lk : LKm M.1.cls idx M'.1) (hd : decode M.2.1 pc = .ok (.invokestatic idx, 3)) (hw : (st.map fun v => v.category).sum ≤ 8) (k : RunQ X d M (pc + 3) lv (st) h1 rv Q) : RunQ X d M (pc) lv (a4 :: a3 :: a2 :: a1 :: st) h rv Q := r_callS [a1, a2, a3, a4] S hdd mr lk hd hw (fun h9 _ q9 => r_heq q9 k)

theorem r_v4r {X : SX} {d : Nat} {M : Mt} {pc : Nat} {lv : List (Option Value)} {st : List Value} {h : AH} {rv : Option Value} {Q : AH → Prop} {d' idx q ci : Nat} {M' : Mt} {vc : vw_C} {fs : List Value} {a1 a2 a3 a4 v : Value} {h1 : AH} (S : Sp d' M' [.ref q, a1, a2, a3, a4] h (some v) h1) (hdd : d' + 1 ≤ d) (mr : MRv M' 4) (lk : LKm M.1.cls idx M'.1) (hq : h[q]? = some (.inr (ci, fs))) (hvc : vwCl[ci]? = some vc) (hcc : vc.1 = M'.1.cls) (hd : decode M.2.1 pc = .ok (.invokevirtual idx, 3)) (hw : (st.map fun v => v.category).sum ≤ 8) (k : RunQ X d M (pc + 3) lv (v :: st) h1 rv Q) : RunQ X d M (pc) lv (a4 :: a3 :: a2 :: a1 :: .ref q :: st) h rv Q := r_callV [a1, a2, a3, a4] S hdd mr lk hq hvc hcc hd hw (fun h9 _ q9 => r_heq q9 k)

theorem r_v4n {X : SX} {d : Nat} {M : Mt} {pc : Nat} {lv : List (Option Value)} {st : List Value} {h : AH} {rv : Option Value} {Q : AH → Prop} {d' idx q ci : Nat} {M' : Mt} {vc : vw_C} {fs : List Value} {a1 a2 a3 a4 : Value} {h1 : AH} (S : Sp d' M' [.ref q, a1, a2, a3, a4] h none h1) (hdd : d' + 1 ≤ d) (mr : MRv M' 4) (lk : LKm M.1.cls idx M'.1) (hq : h[q]? = some (.inr (ci, fs))) (hvc : vwCl[ci]? = some vc) (hcc : vc.1 = M'.1.cls) (hd : decode M.2.1 pc = .ok (.invokevirtual idx, 3)) (hw : (st.map fun v => v.category).sum ≤ 8) (k : RunQ X d M (pc + 3) lv (st) h1 rv Q) : RunQ X d M (pc) lv (a4 :: a3 :: a2 :: a1 :: .ref q :: st) h rv Q := r_callV [a1, a2, a3, a4] S hdd mr lk hq hvc hcc hd hw (fun h9 _ q9 => r_heq q9 k)

theorem r_s5r {X : SX} {d : Nat} {M : Mt} {pc : Nat} {lv : List (Option Value)} {st : List Value} {h : AH} {rv : Option Value} {Q : AH → Prop} {d' idx : Nat} {M' : Mt} {a1 a2 a3 a4 a5 v : Value} {h1 : AH} (S : Sp d' M' [a1, a2, a3, a4, a5] h (some v) h1) (hdd : d' + 1 ≤ d) (mr : MRs M' 5) (lk : LKm M.1.cls idx M'.1) (hd : decode M.2.1 pc = .ok (.invokestatic idx, 3)) (hw : (st.map fun v => v.category).sum ≤ 8) (k : RunQ X d M (pc + 3) lv (v :: st) h1 rv Q) : RunQ X d M (pc) lv (a5 :: a4 :: a3 :: a2 :: a1 :: st) h rv Q := r_callS [a1, a2, a3, a4, a5] S hdd mr lk hd hw (fun h9 _ q9 => r_heq q9 k)

theorem r_s5n {X : SX} {d : Nat} {M : Mt} {pc : Nat} {lv : List (Option Value)} {st : List Value} {h : AH} {rv : Option Value} {Q : AH → Prop} {d' idx : Nat} {M' : Mt} {a1 a2 a3 a4 a5 : Value} {h1 : AH} (S : Sp d' M' [a1, a2, a3, a4, a5] h none h1) (hdd : d' + 1 ≤ d) (mr : MRs M' 5) (lk : LKm M.1.cls idx M'.1) (hd : decode M.2.1 pc = .ok (.invokestatic idx, 3)) (hw : (st.map fun v => v.category).sum ≤ 8) (k : RunQ X d M (pc + 3) lv (st) h1 rv Q) : RunQ X d M (pc) lv (a5 :: a4 :: a3 :: a2 :: a1 :: st) h rv Q := r_callS [a1, a2, a3, a4, a5] S hdd mr lk hd hw (fun h9 _ q9 => r_heq q9 k)

theorem r_v5r {X : SX} {d : Nat} {M : Mt} {pc : Nat} {lv : List (Option Value)} {st : List Value} {h : AH} {rv : Option Value} {Q : AH → Prop} {d' idx q ci : Nat} {M' : Mt} {vc : vw_C} {fs : List Value} {a1 a2 a3 a4 a5 v : Value} {h1 : AH} (S : Sp d' M' [.ref q, a1, a2, a3, a4, a5] h (some v) h1) (hdd : d' + 1 ≤ d) (mr : MRv M' 5) (lk : LKm M.1.cls idx M'.1) (hq : h[q]? = some (.inr (ci, fs))) (hvc : vwCl[ci]? = some vc) (hcc : vc.1 = M'.1.cls) (hd : decode M.2.1 pc = .ok (.invokevirtual idx, 3)) (hw : (st.map fun v => v.category).sum ≤ 8) (k : RunQ X d M (pc + 3) lv (v :: st) h1 rv Q) : RunQ X d M (pc) lv (a5 :: a4 :: a3 :: a2 :: a1 :: .ref q :: st) h rv Q := r_callV [a1, a2, a3, a4, a5] S hdd mr lk hq hvc hcc hd hw (fun h9 _ q9 => r_heq q9 k)

theorem r_v5n {X : SX} {d : Nat} {M : Mt} {pc : Nat} {lv : List (Option Value)} {st : List Value} {h : AH} {rv : Option Value} {Q : AH → Prop} {d' idx q ci : Nat} {M' : Mt} {vc : vw_C} {fs : List Value} {a1 a2 a3 a4 a5 : Value} {h1 : AH} (S : Sp d' M' [.ref q, a1, a2, a3, a4, a5] h none h1) (hdd : d' + 1 ≤ d) (mr : MRv M' 5) (lk : LKm M.1.cls idx M'.1) (hq : h[q]? = some (.inr (ci, fs))) (hvc : vwCl[ci]? = some vc) (hcc : vc.1 = M'.1.cls) (hd : decode M.2.1 pc = .ok (.invokevirtual idx, 3)) (hw : (st.map fun v => v.category).sum ≤ 8) (k : RunQ X d M (pc + 3) lv (st) h1 rv Q) : RunQ X d M (pc) lv (a5 :: a4 :: a3 :: a2 :: a1 :: .ref q :: st) h rv Q := r_callV [a1, a2, a3, a4, a5] S hdd mr lk hq hvc hcc hd hw (fun h9 _ q9 => r_heq q9 k)

theorem r_v0rq {X : SX} {d : Nat} {M : Mt} {pc : Nat} {lv : List (Option Value)} {st : List Value} {h : AH} {rv : Option Value} {Q : AH → Prop} {d' idx q ci : Nat} {M' : Mt} {vc : vw_C} {fs : List Value} {v : Value} {Q1 : AH → Prop} (S : SpQ d' M' [.ref q] h (some v) Q1) (hdd : d' + 1 ≤ d) (mr : MRv M' 0) (lk : LKm M.1.cls idx M'.1) (hq : h[q]? = some (.inr (ci, fs))) (hvc : vwCl[ci]? = some vc) (hcc : vc.1 = M'.1.cls) (hd : decode M.2.1 pc = .ok (.invokevirtual idx, 3)) (hw : (st.map fun v => v.category).sum ≤ 8) (k : ∀ h1 : AH, h1.length = h.length → Q1 h1 → RunQ X d M (pc + 3) lv (v :: st) h1 rv Q) : RunQ X d M (pc) lv (.ref q :: st) h rv Q := r_callV [] S hdd mr lk hq hvc hcc hd hw k

theorem r_v0nq {X : SX} {d : Nat} {M : Mt} {pc : Nat} {lv : List (Option Value)} {st : List Value} {h : AH} {rv : Option Value} {Q : AH → Prop} {d' idx q ci : Nat} {M' : Mt} {vc : vw_C} {fs : List Value}  {Q1 : AH → Prop} (S : SpQ d' M' [.ref q] h none Q1) (hdd : d' + 1 ≤ d) (mr : MRv M' 0) (lk : LKm M.1.cls idx M'.1) (hq : h[q]? = some (.inr (ci, fs))) (hvc : vwCl[ci]? = some vc) (hcc : vc.1 = M'.1.cls) (hd : decode M.2.1 pc = .ok (.invokevirtual idx, 3)) (hw : (st.map fun v => v.category).sum ≤ 8) (k : ∀ h1 : AH, h1.length = h.length → Q1 h1 → RunQ X d M (pc + 3) lv (st) h1 rv Q) : RunQ X d M (pc) lv (.ref q :: st) h rv Q := r_callV [] S hdd mr lk hq hvc hcc hd hw k

theorem r_v1rq {X : SX} {d : Nat} {M : Mt} {pc : Nat} {lv : List (Option Value)} {st : List Value} {h : AH} {rv : Option Value} {Q : AH → Prop} {d' idx q ci : Nat} {M' : Mt} {vc : vw_C} {fs : List Value} {a1 v : Value} {Q1 : AH → Prop} (S : SpQ d' M' [.ref q, a1] h (some v) Q1) (hdd : d' + 1 ≤ d) (mr : MRv M' 1) (lk : LKm M.1.cls idx M'.1) (hq : h[q]? = some (.inr (ci, fs))) (hvc : vwCl[ci]? = some vc) (hcc : vc.1 = M'.1.cls) (hd : decode M.2.1 pc = .ok (.invokevirtual idx, 3)) (hw : (st.map fun v => v.category).sum ≤ 8) (k : ∀ h1 : AH, h1.length = h.length → Q1 h1 → RunQ X d M (pc + 3) lv (v :: st) h1 rv Q) : RunQ X d M (pc) lv (a1 :: .ref q :: st) h rv Q := r_callV [a1] S hdd mr lk hq hvc hcc hd hw k

theorem r_v1nq {X : SX} {d : Nat} {M : Mt} {pc : Nat} {lv : List (Option Value)} {st : List Value} {h : AH} {rv : Option Value} {Q : AH → Prop} {d' idx q ci : Nat} {M' : Mt} {vc : vw_C} {fs : List Value} {a1 : Value} {Q1 : AH → Prop} (S : SpQ d' M' [.ref q, a1] h none Q1) (hdd : d' + 1 ≤ d) (mr : MRv M' 1) (lk : LKm M.1.cls idx M'.1) (hq : h[q]? = some (.inr (ci, fs))) (hvc : vwCl[ci]? = some vc) (hcc : vc.1 = M'.1.cls) (hd : decode M.2.1 pc = .ok (.invokevirtual idx, 3)) (hw : (st.map fun v => v.category).sum ≤ 8) (k : ∀ h1 : AH, h1.length = h.length → Q1 h1 → RunQ X d M (pc + 3) lv (st) h1 rv Q) : RunQ X d M (pc) lv (a1 :: .ref q :: st) h rv Q := r_callV [a1] S hdd mr lk hq hvc hcc hd hw k

theorem r_v2rq {X : SX} {d : Nat} {M : Mt} {pc : Nat} {lv : List (Option Value)} {st : List Value} {h : AH} {rv : Option Value} {Q : AH → Prop} {d' idx q ci : Nat} {M' : Mt} {vc : vw_C} {fs : List Value} {a1 a2 v : Value} {Q1 : AH → Prop} (S : SpQ d' M' [.ref q, a1, a2] h (some v) Q1) (hdd : d' + 1 ≤ d) (mr : MRv M' 2) (lk : LKm M.1.cls idx M'.1) (hq : h[q]? = some (.inr (ci, fs))) (hvc : vwCl[ci]? = some vc) (hcc : vc.1 = M'.1.cls) (hd : decode M.2.1 pc = .ok (.invokevirtual idx, 3)) (hw : (st.map fun v => v.category).sum ≤ 8) (k : ∀ h1 : AH, h1.length = h.length → Q1 h1 → RunQ X d M (pc + 3) lv (v :: st) h1 rv Q) : RunQ X d M (pc) lv (a2 :: a1 :: .ref q :: st) h rv Q := r_callV [a1, a2] S hdd mr lk hq hvc hcc hd hw k

theorem r_v2nq {X : SX} {d : Nat} {M : Mt} {pc : Nat} {lv : List (Option Value)} {st : List Value} {h : AH} {rv : Option Value} {Q : AH → Prop} {d' idx q ci : Nat} {M' : Mt} {vc : vw_C} {fs : List Value} {a1 a2 : Value} {Q1 : AH → Prop} (S : SpQ d' M' [.ref q, a1, a2] h none Q1) (hdd : d' + 1 ≤ d) (mr : MRv M' 2) (lk : LKm M.1.cls idx M'.1) (hq : h[q]? = some (.inr (ci, fs))) (hvc : vwCl[ci]? = some vc) (hcc : vc.1 = M'.1.cls) (hd : decode M.2.1 pc = .ok (.invokevirtual idx, 3)) (hw : (st.map fun v => v.category).sum ≤ 8) (k : ∀ h1 : AH, h1.length = h.length → Q1 h1 → RunQ X d M (pc + 3) lv (st) h1 rv Q) : RunQ X d M (pc) lv (a2 :: a1 :: .ref q :: st) h rv Q := r_callV [a1, a2] S hdd mr lk hq hvc hcc hd hw k

theorem r_v3rq {X : SX} {d : Nat} {M : Mt} {pc : Nat} {lv : List (Option Value)} {st : List Value} {h : AH} {rv : Option Value} {Q : AH → Prop} {d' idx q ci : Nat} {M' : Mt} {vc : vw_C} {fs : List Value} {a1 a2 a3 v : Value} {Q1 : AH → Prop} (S : SpQ d' M' [.ref q, a1, a2, a3] h (some v) Q1) (hdd : d' + 1 ≤ d) (mr : MRv M' 3) (lk : LKm M.1.cls idx M'.1) (hq : h[q]? = some (.inr (ci, fs))) (hvc : vwCl[ci]? = some vc) (hcc : vc.1 = M'.1.cls) (hd : decode M.2.1 pc = .ok (.invokevirtual idx, 3)) (hw : (st.map fun v => v.category).sum ≤ 8) (k : ∀ h1 : AH, h1.length = h.length → Q1 h1 → RunQ X d M (pc + 3) lv (v :: st) h1 rv Q) : RunQ X d M (pc) lv (a3 :: a2 :: a1 :: .ref q :: st) h rv Q := r_callV [a1, a2, a3] S hdd mr lk hq hvc hcc hd hw k

theorem r_v3nq {X : SX} {d : Nat} {M : Mt} {pc : Nat} {lv : List (Option Value)} {st : List Value} {h : AH} {rv : Option Value} {Q : AH → Prop} {d' idx q ci : Nat} {M' : Mt} {vc : vw_C} {fs : List Value} {a1 a2 a3 : Value} {Q1 : AH → Prop} (S : SpQ d' M' [.ref q, a1, a2, a3] h none Q1) (hdd : d' + 1 ≤ d) (mr : MRv M' 3) (lk : LKm M.1.cls idx M'.1) (hq : h[q]? = some (.inr (ci, fs))) (hvc : vwCl[ci]? = some vc) (hcc : vc.1 = M'.1.cls) (hd : decode M.2.1 pc = .ok (.invokevirtual idx, 3)) (hw : (st.map fun v => v.category).sum ≤ 8) (k : ∀ h1 : AH, h1.length = h.length → Q1 h1 → RunQ X d M (pc + 3) lv (st) h1 rv Q) : RunQ X d M (pc) lv (a3 :: a2 :: a1 :: .ref q :: st) h rv Q := r_callV [a1, a2, a3] S hdd mr lk hq hvc hcc hd hw k

theorem r_v4rq {X : SX} {d : Nat} {M : Mt} {pc : Nat} {lv : List (Option Value)} {st : List Value} {h : AH} {rv : Option Value} {Q : AH → Prop} {d' idx q ci : Nat} {M' : Mt} {vc : vw_C} {fs : List Value} {a1 a2 a3 a4 v : Value} {Q1 : AH → Prop} (S : SpQ d' M' [.ref q, a1, a2, a3, a4] h (some v) Q1) (hdd : d' + 1 ≤ d) (mr : MRv M' 4) (lk : LKm M.1.cls idx M'.1) (hq : h[q]? = some (.inr (ci, fs))) (hvc : vwCl[ci]? = some vc) (hcc : vc.1 = M'.1.cls) (hd : decode M.2.1 pc = .ok (.invokevirtual idx, 3)) (hw : (st.map fun v => v.category).sum ≤ 8) (k : ∀ h1 : AH, h1.length = h.length → Q1 h1 → RunQ X d M (pc + 3) lv (v :: st) h1 rv Q) : RunQ X d M (pc) lv (a4 :: a3 :: a2 :: a1 :: .ref q :: st) h rv Q := r_callV [a1, a2, a3, a4] S hdd mr lk hq hvc hcc hd hw k

theorem r_v4nq {X : SX} {d : Nat} {M : Mt} {pc : Nat} {lv : List (Option Value)} {st : List Value} {h : AH} {rv : Option Value} {Q : AH → Prop} {d' idx q ci : Nat} {M' : Mt} {vc : vw_C} {fs : List Value} {a1 a2 a3 a4 : Value} {Q1 : AH → Prop} (S : SpQ d' M' [.ref q, a1, a2, a3, a4] h none Q1) (hdd : d' + 1 ≤ d) (mr : MRv M' 4) (lk : LKm M.1.cls idx M'.1) (hq : h[q]? = some (.inr (ci, fs))) (hvc : vwCl[ci]? = some vc) (hcc : vc.1 = M'.1.cls) (hd : decode M.2.1 pc = .ok (.invokevirtual idx, 3)) (hw : (st.map fun v => v.category).sum ≤ 8) (k : ∀ h1 : AH, h1.length = h.length → Q1 h1 → RunQ X d M (pc + 3) lv (st) h1 rv Q) : RunQ X d M (pc) lv (a4 :: a3 :: a2 :: a1 :: .ref q :: st) h rv Q := r_callV [a1, a2, a3, a4] S hdd mr lk hq hvc hcc hd hw k

theorem r_v5rq {X : SX} {d : Nat} {M : Mt} {pc : Nat} {lv : List (Option Value)} {st : List Value} {h : AH} {rv : Option Value} {Q : AH → Prop} {d' idx q ci : Nat} {M' : Mt} {vc : vw_C} {fs : List Value} {a1 a2 a3 a4 a5 v : Value} {Q1 : AH → Prop} (S : SpQ d' M' [.ref q, a1, a2, a3, a4, a5] h (some v) Q1) (hdd : d' + 1 ≤ d) (mr : MRv M' 5) (lk : LKm M.1.cls idx M'.1) (hq : h[q]? = some (.inr (ci, fs))) (hvc : vwCl[ci]? = some vc) (hcc : vc.1 = M'.1.cls) (hd : decode M.2.1 pc = .ok (.invokevirtual idx, 3)) (hw : (st.map fun v => v.category).sum ≤ 8) (k : ∀ h1 : AH, h1.length = h.length → Q1 h1 → RunQ X d M (pc + 3) lv (v :: st) h1 rv Q) : RunQ X d M (pc) lv (a5 :: a4 :: a3 :: a2 :: a1 :: .ref q :: st) h rv Q := r_callV [a1, a2, a3, a4, a5] S hdd mr lk hq hvc hcc hd hw k

theorem r_v5nq {X : SX} {d : Nat} {M : Mt} {pc : Nat} {lv : List (Option Value)} {st : List Value} {h : AH} {rv : Option Value} {Q : AH → Prop} {d' idx q ci : Nat} {M' : Mt} {vc : vw_C} {fs : List Value} {a1 a2 a3 a4 a5 : Value} {Q1 : AH → Prop} (S : SpQ d' M' [.ref q, a1, a2, a3, a4, a5] h none Q1) (hdd : d' + 1 ≤ d) (mr : MRv M' 5) (lk : LKm M.1.cls idx M'.1) (hq : h[q]? = some (.inr (ci, fs))) (hvc : vwCl[ci]? = some vc) (hcc : vc.1 = M'.1.cls) (hd : decode M.2.1 pc = .ok (.invokevirtual idx, 3)) (hw : (st.map fun v => v.category).sum ≤ 8) (k : ∀ h1 : AH, h1.length = h.length → Q1 h1 → RunQ X d M (pc + 3) lv (st) h1 rv Q) : RunQ X d M (pc) lv (a5 :: a4 :: a3 :: a2 :: a1 :: .ref q :: st) h rv Q := r_callV [a1, a2, a3, a4, a5] S hdd mr lk hq hvc hcc hd hw k
end
section
/-! A contract out of a walk, and a contract in a larger heap -/
def ents : List Value → List (Option Value)
  | [] => []
  | .long x :: t => some (.long x) :: none :: ents t
  | .double x :: t => some (.double x) :: none :: ents t
  | v :: t => some v :: ents t
theorem ents_mem (ad : Nat → Nat) : ∀ (as : List Value) (j i : Nat) (v : Value), (ents as)[i]? = some (some v) → (j + i, cv ad v) ∈ lv_args j (as.map (cv ad)) := by
  intro as
  induction as with
  | nil => intro j i v h; simp [ents] at h
  | cons a t ih =>
    intro j i v h
    rw [List.map_cons, lv_args]
    have two : ∀ (hc : a.category = 2) (he : ents (a :: t) = some a :: none :: ents t), (j + i, cv ad v) ∈ (j, cv ad a) :: lv_args (if (cv ad a).category = 2 then j + 2 else j + 1) (t.map (cv ad)) := by
      intro hc he
      rw [he] at h
      rw [cv_cat, if_pos hc]
      match i, h with
      | 0, h => cases h; exact List.mem_cons_self
      | 1, h => cases h
      | i + 2, h =>
        have := ih (j + 2) i v h
        rw [show j + (i + 2) = j + 2 + i by omega]
        exact List.mem_cons_of_mem _ this
    have one : ∀ (hc : ¬ a.category = 2) (he : ents (a :: t) = some a :: ents t), (j + i, cv ad v) ∈ (j, cv ad a) :: lv_args (if (cv ad a).category = 2 then j + 2 else j + 1) (t.map (cv ad)) := by
      intro hc he
      rw [he] at h
      rw [cv_cat, if_neg hc]
      match i, h with
      | 0, h => cases h; exact List.mem_cons_self
      | i + 1, h =>
        have := ih (j + 1) i v h
        rw [show j + (i + 1) = j + 1 + i by omega]
        exact List.mem_cons_of_mem _ this
    cases a with
    | long x => exact two rfl rfl
    | double x => exact two rfl rfl
    | int x => exact one (fun z => absurd z (by simp [Value.category])) rfl
    | float x => exact one (fun z => absurd z (by simp [Value.category])) rfl
    | ref x => exact one (fun z => absurd z (by simp [Value.category])) rfl
    | null => exact one (fun z => absurd z (by simp [Value.category])) rfl
    | _ => exact one (fun z => absurd z (by simp [Value.category])) rfl
theorem ents_len (ad : Nat → Nat) : ∀ as : List Value, (lg_sl (as.map (cv ad))).length = (ents as).length := by
  intro as
  induction as with
  | nil => rfl
  | cons a t ih => cases a <;> simp [lg_sl, cv, Value.category, ents] at ih ⊢ <;> omega
theorem Met.ofWF {l : Launch} {y : MethodName} {ws ws' : List Cond} {rm : Room} {Pc : Array Value → State → Prop} {Qc : Array Value → State → Outcome → State → Prop} {mc ms : Nat} {free : Addr → Prop} {cc : ByteArray} {maxL : Nat} {ret : Option FieldType}
    (hy : plainFor y = true) (hw : ws = Cond.code y cc maxL ret :: ws')
    (body : ∀ p e s m args below meth c s₁, BodyLoose p l y (headSpec ws rm) cc maxL ret e s m args below meth c s₁ → c.maxLocals = maxL → Pc args s →
      W p l e (headSpec ws rm).room s m args below meth c s.heap [] 0 0 (MQ below Qc args s mc ms free) (entryFrame m args maxL)) : Met l y ws rm Pc Qc mc ms free := by
  refine MetFree.of_bodySF (code := cc) (maxLocals := maxL) (ret := ret) hy ?_ ?_
  · intro args s m h hn
    obtain ⟨meth, c, h1, h2, h3, h4, h5, h6, -, -⟩ := Cond.code_spec hn (atoms_spec (ws := ws) h _ (by rw [hw]; exact List.mem_cons_self))
    exact ⟨meth, c, h1, h2, h3, h4, h5, h6⟩
  · intro p e s m args below meth c s₁ B hml hP _
    have hh0 : s₁.heap = s.heap := by rw [B.state]; rfl
    obtain ⟨t, a1, o, b1, b2, b3⟩ := body p e s m args below meth c s₁ B hml hP s₁ hh0 (Stand.of_body B)
    exact ⟨t, o, a1, b1, b2, ⟨b3.1, b3.2⟩⟩
theorem SpQ.of {d : Nat} {M : Mt} {as : List Value} {h : AH} {rv : Option Value} {Q : AH → Prop} (lv : List (Option Value)) {n : Nat} (mr : MRb M n) (hlen : ∀ h', Q h' → h'.length = h.length) (hsz : (ents as).length ≤ M.2.2.1) (hlv : ents as ++ List.replicate (M.2.2.1 - (ents as).length) none = lv) (k : ∀ X, RunQ X d M 0 lv [] h rv Q) : SpQ d M as h rv Q := by
  intro X l D cs ad sz
  refine Met.ofWF (cc := M.2.1) (maxL := M.2.2.1) (ret := M.2.2.2) mr.2.2.2.2 rfl ?_
  intro p e s m args below meth c s₁ B hml hv
  obtain ⟨rfl, hz, hP, hK, hD0, hN, hE⟩ := hv
  subst hz
  have hts := atoms_spec (ws := Cond.code M.1 M.2.1 M.2.2.1 M.2.2.2 :: gT) B.pre
  have hown : s.vm.findClass M.1.cls = some m.cls := findClass_of_methodNamed B.named
  have hr := B.returns
  have hlocks := B.notSynchronized
  rw [lg_entry_eq]
  refine k X p l e _ s m _ below meth c 0 0 _ ad D cs (va_A (wc cs ad h) s.heap.size) s.heap [] _ ⟨B.exec, B.bytes, hml, hown, fun w hw => hts w (List.mem_cons_of_mem _ hw), hN, ⟨Nat.le_refl _, Nat.le_refl _⟩, ⟨Nat.le_refl _, Nat.le_refl _⟩, hK, hE, fun q hq => Or.inr hq, ?_⟩ ⟨hP, hD0.self, va_S.rf⟩ ?_
  · intro H locs pc ls ins h9 hQ9 hP2 hD2 hS2 hret hdec
    have hq : ∀ (r : Option Value), r = rv.map (cv ad) → ∀ t : State, t.heap = H → s.WarmedH t.vm → PQ D cs ad h s.heap.size rv Q ((as.map (cv ad)).toArray) s (.returned r) t := fun r er t ht _ => ⟨by rw [er], ⟨h9, hQ9, by rw [ht]; exact hP2, hlen h9 hQ9⟩, hS2.F ht⟩
    rcases hret with ⟨rfl, v, ty, rfl, hty, hn⟩ | ⟨rfl, v, rfl, hty⟩ | ⟨rfl, rfl, hty⟩ | ⟨rfl, a, nm, rfl, hty⟩
    · exact W.zret B.exec B.bytes (hr.trans hty) hn (hq _ rfl) hS2.2.2 hdec
    · exact W.lret B.exec B.bytes (hr.trans hty) (hq _ rfl) hS2.2.2 hdec
    · exact W.vret B.exec B.bytes (hr.trans hty) (hq _ rfl) hS2.2.2 hdec
    · exact W.aret B.exec B.bytes (hr.trans hty) (Or.inl ⟨nm, rfl⟩) (Or.inr ⟨_, rfl⟩) (hq _ rfl) hS2.2.2 hdec
  · have he := lv_entry (as.map (cv ad)) (n := M.2.2.1) (by rw [ents_len]; exact hsz)
    refine ⟨he.1, he.2.1, fun i v hi => ?_⟩
    rw [← hlv] at hi
    have hi2 : (ents as)[i]? = some (some v) := by
      rcases Nat.lt_or_ge i (ents as).length with q | q
      · rwa [List.getElem?_append_left q] at hi
      · rw [List.getElem?_append_right q, List.getElem?_replicate] at hi
        split at hi <;> cases hi
    have := ents_mem ad as 0 i v hi2
    rw [Nat.zero_add] at this
    exact he.2.2 _ this
theorem Sp.of {d : Nat} {M : Mt} {as : List Value} {h : AH} {rv : Option Value} {h2 : AH} (lv : List (Option Value)) {n : Nat} (mr : MRb M n) (hlen : h2.length = h.length) (hsz : (ents as).length ≤ M.2.2.1) (hlv : ents as ++ List.replicate (M.2.2.1 - (ents as).length) none = lv) (k : ∀ X, Run X d M 0 lv [] h rv h2) : Sp d M as h rv h2 := SpQ.of lv mr (fun h' q => q.len.symm.trans hlen) hsz hlv k
/-! the frame: a method that needs few cells, in a heap of more -/
def rh (is : List Nat) (k : Nat) : Nat := match is[k]? with
  | some j => j
  | none => k
def rE (ρ : Nat → Nat) : AE → AE
  | .inl (τ, a) => .inl (τ, cA ρ a)
  | .inr (ci, fs) => .inr (ci, fs.map (cv ρ))
theorem cv_comp (ad ρ : Nat → Nat) (v : Value) : cv (fun k => ad (ρ k)) v = cv ad (cv ρ v) := by cases v <;> rfl
theorem cE_comp (cs : Nat → ClassId) (ad ρ : Nat → Nat) (e : AE) : cE cs (fun k => ad (ρ k)) e = cE cs ad (rE ρ e) := by
  rcases e with ⟨τ, n, f | f | f | f | f⟩ | ⟨ci, fs⟩
  · rfl
  · rfl
  · rfl
  · rfl
  · show Sum.inl (cs τ, n, Sum.inr (Sum.inr (Sum.inr (Sum.inr _)))) = Sum.inl (cs τ, n, Sum.inr (Sum.inr (Sum.inr (Sum.inr _))))
    congr 7
    funext i
    show Option.map (fun k => ad (ρ k)) (f i) = Option.map ad (Option.map ρ (f i))
    cases f i <;> rfl
  · show Sum.inr (ci, _) = Sum.inr (ci, (fs.map (cv ρ)).map (cv ad))
    rw [List.map_map]
    congr 2
    apply List.map_congr_left
    intro v _
    exact cv_comp ad ρ v
/-- the cells of a part, put back at their places -/
def putL (ρ : Nat → Nat) : AH → List Nat → AH → AH
  | h, k :: is, e :: es => putL ρ (h.set k (rE ρ e)) is es
  | h, _, _ => h
theorem putL_len (ρ : Nat → Nat) : ∀ (is : List Nat) (h es : AH), (putL ρ h is es).length = h.length
  | [], h, [] => rfl
  | [], h, _ :: _ => rfl
  | _ :: _, h, [] => rfl
  | k :: is, h, e :: es => by rw [putL, putL_len, List.length_set]
theorem putL_out (ρ : Nat → Nat) : ∀ (is : List Nat) (h es : AH) (k : Nat), k ∉ is → (putL ρ h is es)[k]? = h[k]?
  | [], h, [], k, _ => rfl
  | [], h, _ :: _, k, _ => rfl
  | _ :: _, h, [], k, _ => rfl
  | j :: is, h, e :: es, k, hk => by
    rw [putL, putL_out ρ is _ es k (fun z => hk (List.mem_cons_of_mem _ z)), List.getElem?_set_ne (fun z => hk (by rw [← z]; exact List.mem_cons_self))]
theorem putL_in (ρ : Nat → Nat) : ∀ (is : List Nat) (h es : AH) (j k : Nat) (e : AE), va_nd is = true → is[j]? = some k → es[j]? = some e → k < h.length → (putL ρ h is es)[k]? = some (rE ρ e)
  | [], h, es, j, k, e, _, hj, _, _ => by simp at hj
  | _ :: _, h, [], j, k, e, _, _, he, _ => by simp at he
  | i :: is, h, x :: es, 0, k, e, hn, hj, he, hl => by
    cases hj
    cases he
    simp only [va_nd, Bool.and_eq_true, decide_eq_true_eq] at hn
    rw [putL, putL_out ρ is _ es _ hn.1, List.getElem?_set_self hl]
  | i :: is, h, x :: es, j + 1, k, e, hn, hj, he, hl => by
    simp only [va_nd, Bool.and_eq_true, decide_eq_true_eq] at hn
    rw [putL]
    exact putL_in ρ is _ es j k e hn.2 hj he (by rw [List.length_set]; exact hl)
/-- a contract over a part of the heap (its cell j is the heap's cell is[j]) is one over the heap -/
theorem SpQ.frame {d : Nat} {M : Mt} {asL as : List Value} {hL h : AH} {rvL rv : Option Value} {QL Q : AH → Prop} (S : SpQ d M asL hL rvL QL) (is : List Nat) (hn : va_nd is = true) (hsm : is.length ≤ 1000) (hsub : is.map (fun i => h[i]?) = hL.map (fun e => some (rE (rh is) e))) (has : asL.map (cv (rh is)) = as) (hrv : rvL.map (cv (rh is)) = rv) (hQ : ∀ hL2 : AH, hL2.length = hL.length → QL hL2 → Q (putL (rh is) h is hL2)) : SpQ d M as h rv Q := by
  intro X l D cs ad sz
  subst has
  subst hrv
  have hlenI : is.length = hL.length := by
    have := congrArg List.length hsub
    rwa [List.length_map, List.length_map] at this
  have hae : (fun k => ad (rh is (1000 + k))) = (fun k => ad (1000 + k)) := by
    funext k
    unfold rh
    rw [List.getElem?_eq_none (by omega)]
  have hat : ∀ (j : Nat) (e : AE), hL[j]? = some e → ∃ i, is[j]? = some i ∧ h[i]? = some (rE (rh is) e) := by
    intro j e hj
    have h1 : (is.map (fun i => h[i]?))[j]? = some (some (rE (rh is) e)) := by rw [hsub, List.getElem?_map, hj]; rfl
    rw [List.getElem?_map] at h1
    cases h3 : is[j]? with
    | none => rw [h3] at h1; cases h1
    | some i => rw [h3] at h1; exact ⟨i, rfl, Option.some.inj h1⟩
  have hrhA : ∀ (j i : Nat), is[j]? = some i → rh is j = i := fun j i hj => by unfold rh; rw [hj]
  have hMet := S X l D cs (fun k => ad (rh is k)) sz
  have hargs : asL.map (cv (fun k => ad (rh is k))) = (asL.map (cv (rh is))).map (cv ad) := by
    rw [List.map_map]
    apply List.map_congr_left
    intro v _
    exact cv_comp ad (rh is) v
  have hsubset : ∀ (U : State), va_P D vwCl (wc cs ad h) U.heap → va_P D vwCl (wc cs (fun k => ad (rh is k)) hL) U.heap := by
    intro U hP k q hq
    rw [wc_get] at hq
    cases h3 : hL[k]? with
    | none => rw [h3] at hq; cases hq
    | some e =>
      rw [h3] at hq
      cases hq
      obtain ⟨i, h4, h5⟩ := hat k e h3
      dsimp only
      rw [hrhA k i h4, cE_comp]
      exact hP i _ (wc_at h5)
  have hfree : ∀ q, va_A (wc cs (fun k => ad (rh is k)) hL) sz q → va_A (wc cs ad h) sz q := by
    intro q hq
    rcases hq with ⟨k, e, hk⟩ | hq
    · rw [wc_get] at hk
      cases h3 : hL[k]? with
      | none => rw [h3] at hk; cases hk
      | some e0 =>
        rw [h3] at hk
        cases hk
        obtain ⟨i, h4, h5⟩ := hat k e0 h3
        refine Or.inl ⟨i, cE cs ad (rE (rh is) e0), ?_⟩
        rw [hrhA k i h4]
        exact wc_at h5
    · exact Or.inr hq
  have hnL : va_D (fun _ => True) (wc cs ad h) → va_D (fun _ => True) (wc cs (fun k => ad (rh is k)) hL) := by
    intro hD
    refine ⟨fun i j x y hi hj hxy => ?_, fun _ _ _ => trivial⟩
    rw [wc_get] at hi hj
    cases h3 : hL[i]? with
    | none => rw [h3] at hi; cases hi
    | some e1 =>
      cases h4 : hL[j]? with
      | none => rw [h4] at hj; cases hj
      | some e2 =>
        rw [h3] at hi
        rw [h4] at hj
        cases hi
        cases hj
        obtain ⟨a, h5, h6⟩ := hat i e1 h3
        obtain ⟨b, h7, h8⟩ := hat j e2 h4
        dsimp only at hxy
        rw [hrhA i a h5, hrhA j b h7] at hxy
        have hab := hD.1 a b _ _ (wc_at h6) (wc_at h8) hxy
        subst hab
        exact va_nd_inj is hn i j a h5 h7
  intro p e ha hc hk s m args below hf happ hP hKK
  obtain ⟨ea, q1, q2, q3, q4, q5, q6⟩ := hP
  obtain ⟨n, o, g1, g2, g3, ⟨r1, ⟨hL2, r0, r2, r3⟩, r4⟩, L, r5, r6⟩ := hMet p e ha hc hk s m args below hf happ ⟨by rw [ea, hargs], q1, hsubset s q2, q3, hnL q4, q5, by
    rw [hae]
    obtain ⟨e1, e2, e3, e4, e5, e6, e7⟩ := q6
    exact ⟨e1.narrow hfree, e2.narrow hfree, e3.narrow hfree, e4.narrow hfree, e5.narrow hfree, e6, e7.narrow hfree⟩⟩ hKK
  refine ⟨n, o, g1, g2, g3, ⟨?_, ⟨putL (rh is) h is hL2, hQ hL2 r3 r0, ?_, putL_len _ _ _ _⟩, ?_, ?_⟩, L, r5, fun q hq => hfree _ (r6 q hq)⟩
  · rw [r1]
    cases rvL with
    | none => rfl
    | some v => exact congrArg (fun z => Outcome.returned (some z)) (cv_comp ad (rh is) v)
  · intro k q hq
    rw [wc_get] at hq
    cases h3 : (putL (rh is) h is hL2)[k]? with
    | none => rw [h3] at hq; cases hq
    | some e2 =>
      rw [h3] at hq
      cases hq
      have hkl : k < h.length := by
        have := (List.getElem?_eq_some_iff.mp h3).1
        rwa [putL_len] at this
      by_cases hki : k ∈ is
      · obtain ⟨j, hj⟩ := List.getElem?_of_mem hki
        have hjl : j < hL2.length := by rw [r3, ← hlenI]; exact (List.getElem?_eq_some_iff.mp hj).1
        have h5 : hL2[j]? = some hL2[j] := List.getElem?_eq_getElem hjl
        have h6 := putL_in (rh is) is h hL2 j k _ hn hj h5 hkl
        rw [h6] at h3
        cases h3
        have h7 := r2 j _ (wc_at h5)
        rw [hrhA j k hj, cE_comp] at h7
        exact h7
      · rw [putL_out (rh is) is h hL2 k hki] at h3
        have h7 := q2 k _ (wc_at h3)
        refine h7.kept (r4.2 _ h7.lt ?_)
        intro hA
        rcases hA with ⟨j, e9, hj⟩ | hA
        · rw [wc_get] at hj
          cases h8 : hL[j]? with
          | none => rw [h8] at hj; cases hj
          | some e0 =>
            rw [h8] at hj
            obtain ⟨i, h9, h10⟩ := hat j e0 h8
            have h11 : ad (rh is j) = ad k := congrArg Prod.fst (Option.some.inj hj)
            rw [hrhA j i h9] at h11
            have := q4.1 i k _ _ (wc_at h10) (wc_at h3) h11
            subst this
            exact hki (List.mem_of_getElem? h9)
        · have := h7.lt
          dsimp only at this hA
          omega
  · exact r4.1
  · intro q h1 h2
    exact r4.2 q h1 (fun z => h2 (hfree q z))
theorem CE.re {ρ : Nat → Nat} {e e' : AE} (h : CE e e') : CE (rE ρ e) (rE ρ e') := by
  intro cs ad D q H
  rw [← cE_comp, ← cE_comp]
  exact h cs (fun k => ad (ρ k)) D q H
theorem HE.set {k : Nat} {e e' : AE} (he : CE e e') : ∀ {h h' : AH} (_ : HE h h') (j : Nat), HE (h.set j e) (h'.set j e')
  | [], [], _, _ => trivial
  | _ :: _, _ :: _, hh, 0 => ⟨he, hh.2⟩
  | _ :: _, _ :: _, hh, j + 1 => ⟨hh.1, HE.set (k := k) he hh.2 j⟩
theorem HE.put {ρ : Nat → Nat} : ∀ (is : List Nat) {h h' es es' : AH}, HE h h' → HE es es' → HE (putL ρ h is es) (putL ρ h' is es')
  | [], h, h', [], [], hh, _ => hh
  | [], h, h', _ :: _, _ :: _, hh, _ => hh
  | _ :: _, h, h', [], [], hh, _ => hh
  | i :: is, h, h', e :: es, e' :: es', hh, he => HE.put is (HE.set (k := 0) (CE.re he.1) hh i) he.2
theorem Sp.frame {d : Nat} {M : Mt} {asL as : List Value} {hL h : AH} {rvL rv : Option Value} {hL2 h2 : AH} (S : Sp d M asL hL rvL hL2) (is : List Nat) (hn : va_nd is = true) (hsm : is.length ≤ 1000) (hsub : is.map (fun i => h[i]?) = hL.map (fun e => some (rE (rh is) e))) (has : asL.map (cv (rh is)) = as) (hrv : rvL.map (cv (rh is)) = rv) (h2e : putL (rh is) h is hL2 = h2) : Sp d M as h rv h2 :=
  SpQ.frame S is hn hsm hsub has hrv (fun hL3 _ q => by rw [← h2e]; exact HE.put is HE.rf q)
theorem SpQ.mono {d : Nat} {M : Mt} {as : List Value} {h : AH} {rv : Option Value} {Q Q' : AH → Prop} (S : SpQ d M as h rv Q) (hQ : ∀ h', Q h' → Q' h') : SpQ d M as h rv Q' := by
  intro X l D cs ad sz p e ha hc hk s m args below hf happ hP hKK
  obtain ⟨n, o, g1, g2, g3, ⟨r1, ⟨h9, r0, r2, r3⟩, r4⟩, L⟩ := S X l D cs ad sz p e ha hc hk s m args below hf happ hP hKK
  exact ⟨n, o, g1, g2, g3, ⟨r1, ⟨h9, hQ h9 r0, r2, r3⟩, r4⟩, L⟩
end
section
theorem inGX0 : ∀ w ∈ u_ws RX0 TX0 5, w ∈ gT := by
  intro w hw
  obtain ⟨k, hk, rfl⟩ := List.mem_map.mp hw
  have hk9 := List.mem_range.mp hk
  rcases (show k = 0 ∨ k = 1 ∨ k = 2 ∨ k = 3 ∨ k = 4 by omega) with rfl | rfl | rfl | rfl | rfl
  · exact gT_mem (tb1 102 rfl) rfl
  · exact gT_mem (tb1 104 rfl) rfl
  · exact gT_mem (tb1 106 rfl) rfl
  · exact gT_mem (tb1 108 rfl) rfl
  · exact gT_mem (tb1 110 rfl) rfl
theorem inGX1 : ∀ w ∈ u_ws RX1 TX1 10, w ∈ gT := by
  intro w hw
  obtain ⟨k, hk, rfl⟩ := List.mem_map.mp hw
  have hk9 := List.mem_range.mp hk
  rcases (show k = 0 ∨ k = 1 ∨ k = 2 ∨ k = 3 ∨ k = 4 ∨ k = 5 ∨ k = 6 ∨ k = 7 ∨ k = 8 ∨ k = 9 by omega) with rfl | rfl | rfl | rfl | rfl | rfl | rfl | rfl | rfl | rfl
  · exact gT_mem (tb1 53 rfl) rfl
  · exact gT_mem (tb1 55 rfl) rfl
  · exact gT_mem (tb1 57 rfl) rfl
  · exact gT_mem (tb1 59 rfl) rfl
  · exact gT_mem (tb1 61 rfl) rfl
  · exact gT_mem (tb1 63 rfl) rfl
  · exact gT_mem (tb1 65 rfl) rfl
  · exact gT_mem (tb1 67 rfl) rfl
  · exact gT_mem (tb1 69 rfl) rfl
  · exact gT_mem (tb1 71 rfl) rfl
theorem inGX2 : ∀ w ∈ u_ws RX2 TX2 3, w ∈ gT := by
  intro w hw
  obtain ⟨k, hk, rfl⟩ := List.mem_map.mp hw
  have hk9 := List.mem_range.mp hk
  rcases (show k = 0 ∨ k = 1 ∨ k = 2 by omega) with rfl | rfl | rfl
  · exact gT_mem (tb1 126 rfl) rfl
  · exact gT_mem (tb1 128 rfl) rfl
  · exact gT_mem (tb1 130 rfl) rfl
theorem inGX3 : ∀ w ∈ u_ws RX3 TX3 2, w ∈ gT := by
  intro w hw
  obtain ⟨k, hk, rfl⟩ := List.mem_map.mp hw
  have hk9 := List.mem_range.mp hk
  rcases (show k = 0 ∨ k = 1 by omega) with rfl | rfl
  · exact gT_mem (tb1 85 rfl) rfl
  · exact gT_mem (tb1 87 rfl) rfl
theorem inGX4 : ∀ w ∈ u_ws RX4 TX4 8, w ∈ gT := by
  intro w hw
  obtain ⟨k, hk, rfl⟩ := List.mem_map.mp hw
  have hk9 := List.mem_range.mp hk
  rcases (show k = 0 ∨ k = 1 ∨ k = 2 ∨ k = 3 ∨ k = 4 ∨ k = 5 ∨ k = 6 ∨ k = 7 by omega) with rfl | rfl | rfl | rfl | rfl | rfl | rfl | rfl
  · exact gT_mem (tb1 142 rfl) rfl
  · exact gT_mem (tb1 144 rfl) rfl
  · exact gT_mem (tb1 146 rfl) rfl
  · exact gT_mem (tb1 148 rfl) rfl
  · exact gT_mem (tb1 150 rfl) rfl
  · exact gT_mem (tb1 152 rfl) rfl
  · exact gT_mem (tb1 154 rfl) rfl
  · exact gT_mem (tb1 156 rfl) rfl
theorem inGX5 : ∀ w ∈ u_ws RX5 TX5 17, w ∈ gT := by
  intro w hw
  obtain ⟨k, hk, rfl⟩ := List.mem_map.mp hw
  have hk9 := List.mem_range.mp hk
  rcases (show k = 0 ∨ k = 1 ∨ k = 2 ∨ k = 3 ∨ k = 4 ∨ k = 5 ∨ k = 6 ∨ k = 7 ∨ k = 8 ∨ k = 9 ∨ k = 10 ∨ k = 11 ∨ k = 12 ∨ k = 13 ∨ k = 14 ∨ k = 15 ∨ k = 16 by omega) with rfl | rfl | rfl | rfl | rfl | rfl | rfl | rfl | rfl | rfl | rfl | rfl | rfl | rfl | rfl | rfl | rfl
  · exact gT_mem (tb3 183 rfl) rfl
  · exact gT_mem (tb3 185 rfl) rfl
  · exact gT_mem (tb3 187 rfl) rfl
  · exact gT_mem (tb3 189 rfl) rfl
  · exact gT_mem (tb3 191 rfl) rfl
  · exact gT_mem (tb3 193 rfl) rfl
  · exact gT_mem (tb3 195 rfl) rfl
  · exact gT_mem (tb3 197 rfl) rfl
  · exact gT_mem (tb3 199 rfl) rfl
  · exact gT_mem (tb3 201 rfl) rfl
  · exact gT_mem (tb3 203 rfl) rfl
  · exact gT_mem (tb3 205 rfl) rfl
  · exact gT_mem (tb3 207 rfl) rfl
  · exact gT_mem (tb3 209 rfl) rfl
  · exact gT_mem (tb3 211 rfl) rfl
  · exact gT_mem (tb3 213 rfl) rfl
  · exact gT_mem (tb3 215 rfl) rfl
abbrev mX0_init : Mt := (yX0_init, cX0_init, 2, none)
abbrev mX0_tellTo : Mt := (yX0_tellTo, cX0_tellTo, 3, (some .int))
theorem mrX0_tellTo : MRv mX0_tellTo 1 := ⟨⟨gT_mem (tb2 176 rfl) rfl, gT_mem (tb1 4 rfl) rfl, (by decide +kernel), Nat.le_of_ble_eq_true rfl, (by decide +kernel)⟩, gT_mem (tb2 175 rfl) rfl, gT_sel (List.mem_of_getElem? (i := 26) rfl) rfl⟩
abbrev mX0_item : Mt := (yX0_item, cX0_item, 2, (some .boolean))
theorem mrX0_item : MRv mX0_item 1 := ⟨⟨gT_mem (tb3 35 rfl) rfl, gT_mem (tb1 4 rfl) rfl, (by decide +kernel), Nat.le_of_ble_eq_true rfl, (by decide +kernel)⟩, gT_mem (tb3 34 rfl) rfl, gT_sel (List.mem_of_getElem? (i := 33) rfl) rfl⟩
abbrev mX0_kindItem : Mt := (yX0_kindItem, cX0_kindItem, 2, (some .boolean))
theorem mrX0_kindItem : MRv mX0_kindItem 1 := ⟨⟨gT_mem (tb3 40 rfl) rfl, gT_mem (tb1 4 rfl) rfl, (by decide +kernel), Nat.le_of_ble_eq_true rfl, (by decide +kernel)⟩, gT_mem (tb3 39 rfl) rfl, gT_sel (List.mem_of_getElem? (i := 34) rfl) rfl⟩
abbrev mX0_rootItem : Mt := (yX0_rootItem, cX0_rootItem, 3, (some .boolean))
theorem mrX0_rootItem : MRv mX0_rootItem 2 := ⟨⟨gT_mem (tb3 50 rfl) rfl, gT_mem (tb1 4 rfl) rfl, (by decide +kernel), Nat.le_of_ble_eq_true rfl, (by decide +kernel)⟩, gT_mem (tb3 49 rfl) rfl, gT_sel (List.mem_of_getElem? (i := 36) rfl) rfl⟩
abbrev mX0_lanternItem : Mt := (yX0_lanternItem, cX0_lanternItem, 2, (some .boolean))
theorem mrX0_lanternItem : MRv mX0_lanternItem 1 := ⟨⟨gT_mem (tb3 55 rfl) rfl, gT_mem (tb1 4 rfl) rfl, (by decide +kernel), Nat.le_of_ble_eq_true rfl, (by decide +kernel)⟩, gT_mem (tb3 54 rfl) rfl, gT_sel (List.mem_of_getElem? (i := 37) rfl) rfl⟩
abbrev mX0_brightItem : Mt := (yX0_brightItem, cX0_brightItem, 2, (some .boolean))
theorem mrX0_brightItem : MRv mX0_brightItem 1 := ⟨⟨gT_mem (tb3 59 rfl) rfl, gT_mem (tb1 4 rfl) rfl, (by decide +kernel), Nat.le_of_ble_eq_true rfl, (by decide +kernel)⟩, gT_mem (tb3 58 rfl) rfl, gT_sel (List.mem_of_getElem? (i := 38) rfl) rfl⟩
abbrev mX0_swapItem : Mt := (yX0_swapItem, cX0_swapItem, 3, (some .boolean))
theorem mrX0_swapItem : MRv mX0_swapItem 1 := ⟨⟨gT_mem (tb3 63 rfl) rfl, gT_mem (tb1 4 rfl) rfl, (by decide +kernel), Nat.le_of_ble_eq_true rfl, (by decide +kernel)⟩, gT_mem (tb3 62 rfl) rfl, gT_sel (List.mem_of_getElem? (i := 39) rfl) rfl⟩
abbrev mX0_nextIsNumber : Mt := (yX0_nextIsNumber, cX0_nextIsNumber, 2, (some .boolean))
theorem mrX0_nextIsNumber : MRv mX0_nextIsNumber 1 := ⟨⟨gT_mem (tb3 46 rfl) rfl, gT_mem (tb1 4 rfl) rfl, (by decide +kernel), Nat.le_of_ble_eq_true rfl, (by decide +kernel)⟩, gT_mem (tb3 45 rfl) rfl, gT_sel (List.mem_of_getElem? (i := 35) rfl) rfl⟩
abbrev mX0_next : Mt := (yX0_next, cX0_next, 2, none)
theorem mrX0_next : MRv mX0_next 0 := ⟨⟨gT_mem (tb2 180 rfl) rfl, gT_mem (tb1 4 rfl) rfl, (by decide +kernel), Nat.le_of_ble_eq_true rfl, (by decide +kernel)⟩, gT_mem (tb2 179 rfl) rfl, gT_sel (List.mem_of_getElem? (i := 27) rfl) rfl⟩
abbrev mX0_behindBlanks : Mt := (yX0_behindBlanks, cX0_behindBlanks, 2, (some .int))
theorem mrX0_behindBlanks : MRv mX0_behindBlanks 0 := ⟨⟨gT_mem (tb2 184 rfl) rfl, gT_mem (tb1 4 rfl) rfl, (by decide +kernel), Nat.le_of_ble_eq_true rfl, (by decide +kernel)⟩, gT_mem (tb2 183 rfl) rfl, gT_sel (List.mem_of_getElem? (i := 28) rfl) rfl⟩
abbrev mX0_takeNumber : Mt := (yX0_takeNumber, cX0_takeNumber, 2, none)
theorem mrX0_takeNumber : MRv mX0_takeNumber 0 := ⟨⟨gT_mem (tb2 196 rfl) rfl, gT_mem (tb1 4 rfl) rfl, (by decide +kernel), Nat.le_of_ble_eq_true rfl, (by decide +kernel)⟩, gT_mem (tb2 195 rfl) rfl, gT_sel (List.mem_of_getElem? (i := 30) rfl) rfl⟩
abbrev mX0_takeWord : Mt := (yX0_takeWord, cX0_takeWord, 3, none)
theorem mrX0_takeWord : MRv mX0_takeWord 0 := ⟨⟨gT_mem (tb2 203 rfl) rfl, gT_mem (tb1 4 rfl) rfl, (by decide +kernel), Nat.le_of_ble_eq_true rfl, (by decide +kernel)⟩, gT_mem (tb2 202 rfl) rfl, gT_sel (List.mem_of_getElem? (i := 31) rfl) rfl⟩
abbrev mX0_isWord : Mt := (yX0_isWord, cX0_isWord, 3, (some .boolean))
theorem mrX0_isWord : MRv mX0_isWord 1 := ⟨⟨gT_mem (tb2 223 rfl) rfl, gT_mem (tb1 4 rfl) rfl, (by decide +kernel), Nat.le_of_ble_eq_true rfl, (by decide +kernel)⟩, gT_mem (tb2 222 rfl) rfl, gT_sel (List.mem_of_getElem? (i := 32) rfl) rfl⟩
abbrev mX0_textOf : Mt := (yX0_textOf, cX0_textOf, 1, (some (.object "java/lang/String")))
theorem mrX0_textOf : MRs mX0_textOf 1 := ⟨⟨gT_mem (tb2 206 rfl) rfl, gT_mem (tb1 4 rfl) rfl, (by decide +kernel), Nat.le_of_ble_eq_true rfl, (by decide +kernel)⟩, gT_mem (tb2 205 rfl) rfl⟩
abbrev mX0_isDigit : Mt := (yX0_isDigit, cX0_isDigit, 1, (some .boolean))
theorem mrX0_isDigit : MRs mX0_isDigit 1 := ⟨⟨gT_mem (tb2 192 rfl) rfl, gT_mem (tb1 4 rfl) rfl, (by decide +kernel), Nat.le_of_ble_eq_true rfl, (by decide +kernel)⟩, gT_mem (tb2 191 rfl) rfl⟩
abbrev mX0_isLetter : Mt := (yX0_isLetter, cX0_isLetter, 1, (some .boolean))
theorem mrX0_isLetter : MRs mX0_isLetter 1 := ⟨⟨gT_mem (tb2 199 rfl) rfl, gT_mem (tb1 4 rfl) rfl, (by decide +kernel), Nat.le_of_ble_eq_true rfl, (by decide +kernel)⟩, gT_mem (tb2 198 rfl) rfl⟩
abbrev mX1_init : Mt := (yX1_init, cX1_init, 1, none)
abbrev mX1_takeFrom : Mt := (yX1_takeFrom, cX1_takeFrom, 3, none)
theorem mrX1_takeFrom : MRv mX1_takeFrom 1 := ⟨⟨gT_mem (tb2 101 rfl) rfl, gT_mem (tb1 2 rfl) rfl, (by decide +kernel), Nat.le_of_ble_eq_true rfl, (by decide +kernel)⟩, gT_mem (tb2 100 rfl) rfl, gT_sel (List.mem_of_getElem? (i := 21) rfl) rfl⟩
abbrev mX1_has : Mt := (yX1_has, cX1_has, 2, (some .boolean))
theorem mrX1_has : MRv mX1_has 1 := ⟨⟨gT_mem (tb1 179 rfl) rfl, gT_mem (tb1 2 rfl) rfl, (by decide +kernel), Nat.le_of_ble_eq_true rfl, (by decide +kernel)⟩, gT_mem (tb1 178 rfl) rfl, gT_sel (List.mem_of_getElem? (i := 1) rfl) rfl⟩
abbrev mX1_isFull : Mt := (yX1_isFull, cX1_isFull, 1, (some .boolean))
theorem mrX1_isFull : MRv mX1_isFull 0 := ⟨⟨gT_mem (tb1 228 rfl) rfl, gT_mem (tb1 2 rfl) rfl, (by decide +kernel), Nat.le_of_ble_eq_true rfl, (by decide +kernel)⟩, gT_mem (tb1 227 rfl) rfl, gT_sel (List.mem_of_getElem? (i := 7) rfl) rfl⟩
abbrev mX1_add : Mt := (yX1_add, cX1_add, 2, none)
theorem mrX1_add : MRv mX1_add 1 := ⟨⟨gT_mem (tb1 233 rfl) rfl, gT_mem (tb1 2 rfl) rfl, (by decide +kernel), Nat.le_of_ble_eq_true rfl, (by decide +kernel)⟩, gT_mem (tb1 232 rfl) rfl, gT_sel (List.mem_of_getElem? (i := 8) rfl) rfl⟩
abbrev mX1_exchange : Mt := (yX1_exchange, cX1_exchange, 3, none)
theorem mrX1_exchange : MRv mX1_exchange 2 := ⟨⟨gT_mem (tb2 33 rfl) rfl, gT_mem (tb1 2 rfl) rfl, (by decide +kernel), Nat.le_of_ble_eq_true rfl, (by decide +kernel)⟩, gT_mem (tb2 32 rfl) rfl, gT_sel (List.mem_of_getElem? (i := 13) rfl) rfl⟩
abbrev mX1_exchangeIn : Mt := (yX1_exchangeIn, cX1_exchangeIn, 4, none)
theorem mrX1_exchangeIn : MRs mX1_exchangeIn 3 := ⟨⟨gT_mem (tb2 36 rfl) rfl, gT_mem (tb1 2 rfl) rfl, (by decide +kernel), Nat.le_of_ble_eq_true rfl, (by decide +kernel)⟩, gT_mem (tb2 35 rfl) rfl⟩
abbrev mX1_setRoot : Mt := (yX1_setRoot, cX1_setRoot, 3, none)
theorem mrX1_setRoot : MRv mX1_setRoot 2 := ⟨⟨gT_mem (tb2 144 rfl) rfl, gT_mem (tb1 2 rfl) rfl, (by decide +kernel), Nat.le_of_ble_eq_true rfl, (by decide +kernel)⟩, gT_mem (tb2 143 rfl) rfl, gT_sel (List.mem_of_getElem? (i := 23) rfl) rfl⟩
abbrev mX1_paceOf : Mt := (yX1_paceOf, cX1_paceOf, 2, (some .int))
theorem mrX1_paceOf : MRv mX1_paceOf 1 := ⟨⟨gT_mem (tb1 203 rfl) rfl, gT_mem (tb1 2 rfl) rfl, (by decide +kernel), Nat.le_of_ble_eq_true rfl, (by decide +kernel)⟩, gT_mem (tb1 202 rfl) rfl, gT_sel (List.mem_of_getElem? (i := 4) rfl) rfl⟩
abbrev mX1_litSet : Mt := (yX1_litSet, cX1_litSet, 4, (some .int))
theorem mrX1_litSet : MRv mX1_litSet 0 := ⟨⟨gT_mem (tb1 191 rfl) rfl, gT_mem (tb1 2 rfl) rfl, (by decide +kernel), Nat.le_of_ble_eq_true rfl, (by decide +kernel)⟩, gT_mem (tb1 190 rfl) rfl, gT_sel (List.mem_of_getElem? (i := 2) rfl) rfl⟩
abbrev mX1_atRootSet : Mt := (yX1_atRootSet, cX1_atRootSet, 3, (some .int))
theorem mrX1_atRootSet : MRv mX1_atRootSet 0 := ⟨⟨gT_mem (tb1 199 rfl) rfl, gT_mem (tb1 2 rfl) rfl, (by decide +kernel), Nat.le_of_ble_eq_true rfl, (by decide +kernel)⟩, gT_mem (tb1 198 rfl) rfl, gT_sel (List.mem_of_getElem? (i := 3) rfl) rfl⟩
abbrev mX1_heardSet : Mt := (yX1_heardSet, cX1_heardSet, 3, (some .int))
theorem mrX1_heardSet : MRv mX1_heardSet 0 := ⟨⟨gT_mem (tb1 213 rfl) rfl, gT_mem (tb1 2 rfl) rfl, (by decide +kernel), Nat.le_of_ble_eq_true rfl, (by decide +kernel)⟩, gT_mem (tb1 212 rfl) rfl, gT_sel (List.mem_of_getElem? (i := 5) rfl) rfl⟩
abbrev mX1_allStumbled : Mt := (yX1_allStumbled, cX1_allStumbled, 3, (some .int))
theorem mrX1_allStumbled : MRv mX1_allStumbled 0 := ⟨⟨gT_mem (tb1 217 rfl) rfl, gT_mem (tb1 2 rfl) rfl, (by decide +kernel), Nat.le_of_ble_eq_true rfl, (by decide +kernel)⟩, gT_mem (tb1 216 rfl) rfl, gT_sel (List.mem_of_getElem? (i := 6) rfl) rfl⟩
abbrev mX1_allNerve : Mt := (yX1_allNerve, cX1_allNerve, 3, (some .int))
theorem mrX1_allNerve : MRv mX1_allNerve 0 := ⟨⟨gT_mem (tb3 155 rfl) rfl, gT_mem (tb1 2 rfl) rfl, (by decide +kernel), Nat.le_of_ble_eq_true rfl, (by decide +kernel)⟩, gT_mem (tb3 154 rfl) rfl, gT_sel (List.mem_of_getElem? (i := 47) rfl) rfl⟩
abbrev mX1_seeingSet : Mt := (yX1_seeingSet, cX1_seeingSet, 4, (some .int))
theorem mrX1_seeingSet : MRv mX1_seeingSet 0 := ⟨⟨gT_mem (tb2 4 rfl) rfl, gT_mem (tb1 2 rfl) rfl, (by decide +kernel), Nat.le_of_ble_eq_true rfl, (by decide +kernel)⟩, gT_mem (tb2 3 rfl) rfl, gT_sel (List.mem_of_getElem? (i := 9) rfl) rfl⟩
abbrev mX1_sees : Mt := (yX1_sees, cX1_sees, 4, (some .boolean))
theorem mrX1_sees : MRv mX1_sees 2 := ⟨⟨gT_mem (tb2 9 rfl) rfl, gT_mem (tb1 2 rfl) rfl, (by decide +kernel), Nat.le_of_ble_eq_true rfl, (by decide +kernel)⟩, gT_mem (tb2 8 rfl) rfl, gT_sel (List.mem_of_getElem? (i := 10) rfl) rfl⟩
abbrev mX1_heeds : Mt := (yX1_heeds, cX1_heeds, 2, (some .boolean))
theorem mrX1_heeds : MRv mX1_heeds 1 := ⟨⟨gT_mem (tb2 17 rfl) rfl, gT_mem (tb1 2 rfl) rfl, (by decide +kernel), Nat.le_of_ble_eq_true rfl, (by decide +kernel)⟩, gT_mem (tb2 16 rfl) rfl, gT_sel (List.mem_of_getElem? (i := 11) rfl) rfl⟩
abbrev mX1_says : Mt := (yX1_says, cX1_says, 6, (some .boolean))
theorem mrX1_says : MRv mX1_says 2 := ⟨⟨gT_mem (tb2 89 rfl) rfl, gT_mem (tb1 2 rfl) rfl, (by decide +kernel), Nat.le_of_ble_eq_true rfl, (by decide +kernel)⟩, gT_mem (tb2 88 rfl) rfl, gT_sel (List.mem_of_getElem? (i := 19) rfl) rfl⟩
abbrev mX1_isWarned : Mt := (yX1_isWarned, cX1_isWarned, 2, (some .boolean))
theorem mrX1_isWarned : MRv mX1_isWarned 1 := ⟨⟨gT_mem (tb2 74 rfl) rfl, gT_mem (tb1 2 rfl) rfl, (by decide +kernel), Nat.le_of_ble_eq_true rfl, (by decide +kernel)⟩, gT_mem (tb2 73 rfl) rfl, gT_sel (List.mem_of_getElem? (i := 17) rfl) rfl⟩
abbrev mX1_goSteps : Mt := (yX1_goSteps, cX1_goSteps, 3, none)
theorem mrX1_goSteps : MRv mX1_goSteps 1 := ⟨⟨gT_mem (tb2 60 rfl) rfl, gT_mem (tb1 2 rfl) rfl, (by decide +kernel), Nat.le_of_ble_eq_true rfl, (by decide +kernel)⟩, gT_mem (tb2 59 rfl) rfl, gT_sel (List.mem_of_getElem? (i := 14) rfl) rfl⟩
abbrev mX1_goStep : Mt := (yX1_goStep, cX1_goStep, 3, none)
theorem mrX1_goStep : MRv mX1_goStep 0 := ⟨⟨gT_mem (tb2 64 rfl) rfl, gT_mem (tb1 2 rfl) rfl, (by decide +kernel), Nat.le_of_ble_eq_true rfl, (by decide +kernel)⟩, gT_mem (tb2 63 rfl) rfl, gT_sel (List.mem_of_getElem? (i := 15) rfl) rfl⟩
abbrev mX1_walk : Mt := (yX1_walk, cX1_walk, 3, none)
theorem mrX1_walk : MRv mX1_walk 1 := ⟨⟨gT_mem (tb2 70 rfl) rfl, gT_mem (tb1 2 rfl) rfl, (by decide +kernel), Nat.le_of_ble_eq_true rfl, (by decide +kernel)⟩, gT_mem (tb2 69 rfl) rfl, gT_sel (List.mem_of_getElem? (i := 16) rfl) rfl⟩
abbrev mX1_sayOn : Mt := (yX1_sayOn, cX1_sayOn, 4, none)
theorem mrX1_sayOn : MRv mX1_sayOn 1 := ⟨⟨gT_mem (tb2 85 rfl) rfl, gT_mem (tb1 2 rfl) rfl, (by decide +kernel), Nat.le_of_ble_eq_true rfl, (by decide +kernel)⟩, gT_mem (tb2 84 rfl) rfl, gT_sel (List.mem_of_getElem? (i := 18) rfl) rfl⟩
abbrev mX2_init : Mt := (yX2_init, cX2_init, 1, none)
abbrev mX2_isMissing : Mt := (yX2_isMissing, cX2_isMissing, 1, (some .boolean))
theorem mrX2_isMissing : MRv mX2_isMissing 0 := ⟨⟨gT_mem (tb3 87 rfl) rfl, gT_mem (tb1 5 rfl) rfl, (by decide +kernel), Nat.le_of_ble_eq_true rfl, (by decide +kernel)⟩, gT_mem (tb3 86 rfl) rfl, gT_sel (List.mem_of_getElem? (i := 41) rfl) rfl⟩
abbrev mX2_renew : Mt := (yX2_renew, cX2_renew, 4, none)
theorem mrX2_renew : MRv mX2_renew 2 := ⟨⟨gT_mem (tb3 79 rfl) rfl, gT_mem (tb1 5 rfl) rfl, (by decide +kernel), Nat.le_of_ble_eq_true rfl, (by decide +kernel)⟩, gT_mem (tb3 78 rfl) rfl, gT_sel (List.mem_of_getElem? (i := 40) rfl) rfl⟩
abbrev mX2_spans : Mt := (yX2_spans, cX2_spans, 3, (some .boolean))
theorem mrX2_spans : MRv mX2_spans 2 := ⟨⟨gT_mem (tb3 104 rfl) rfl, gT_mem (tb1 5 rfl) rfl, (by decide +kernel), Nat.le_of_ble_eq_true rfl, (by decide +kernel)⟩, gT_mem (tb3 103 rfl) rfl, gT_sel (List.mem_of_getElem? (i := 44) rfl) rfl⟩
abbrev mX2_put : Mt := (yX2_put, cX2_put, 4, none)
theorem mrX2_put : MRv mX2_put 2 := ⟨⟨gT_mem (tb3 92 rfl) rfl, gT_mem (tb1 5 rfl) rfl, (by decide +kernel), Nat.le_of_ble_eq_true rfl, (by decide +kernel)⟩, gT_mem (tb3 91 rfl) rfl, gT_sel (List.mem_of_getElem? (i := 42) rfl) rfl⟩
abbrev mX2_cut : Mt := (yX2_cut, cX2_cut, 3, (some .long))
theorem mrX2_cut : MRv mX2_cut 1 := ⟨⟨gT_mem (tb3 96 rfl) rfl, gT_mem (tb1 5 rfl) rfl, (by decide +kernel), Nat.le_of_ble_eq_true rfl, (by decide +kernel)⟩, gT_mem (tb3 95 rfl) rfl, gT_sel (List.mem_of_getElem? (i := 43) rfl) rfl⟩
abbrev mX3_init : Mt := (yX3_init, cX3_init, 1, none)
abbrev mX3_add : Mt := (yX3_add, cX3_add, 2, none)
theorem mrX3_add : MRv mX3_add 1 := ⟨⟨gT_mem (tb2 164 rfl) rfl, gT_mem (tb1 3 rfl) rfl, (by decide +kernel), Nat.le_of_ble_eq_true rfl, (by decide +kernel)⟩, gT_mem (tb2 163 rfl) rfl, gT_sel (List.mem_of_getElem? (i := 25) rfl) rfl⟩
abbrev mX3_at : Mt := (yX3_at, cX3_at, 2, (some .int))
theorem mrX3_at : MRv mX3_at 1 := ⟨⟨gT_mem (tb2 188 rfl) rfl, gT_mem (tb1 3 rfl) rfl, (by decide +kernel), Nat.le_of_ble_eq_true rfl, (by decide +kernel)⟩, gT_mem (tb2 187 rfl) rfl, gT_sel (List.mem_of_getElem? (i := 29) rfl) rfl⟩
abbrev mX4_init : Mt := (yX4_init, cX4_init, 2, none)
abbrev mX4_roots : Mt := (yX4_roots, cX4_roots, 3, (some .int))
theorem mrX4_roots : MRv mX4_roots 1 := ⟨⟨gT_mem (tb1 162 rfl) rfl, gT_mem (tb1 1 rfl) rfl, (by decide +kernel), Nat.le_of_ble_eq_true rfl, (by decide +kernel)⟩, gT_mem (tb1 160 rfl) rfl, gT_mem (tb1 161 rfl) rfl⟩
abbrev mX4_lantern : Mt := (yX4_lantern, cX4_lantern, 3, (some .int))
theorem mrX4_lantern : MRv mX4_lantern 1 := ⟨⟨gT_mem (tb1 175 rfl) rfl, gT_mem (tb1 1 rfl) rfl, (by decide +kernel), Nat.le_of_ble_eq_true rfl, (by decide +kernel)⟩, gT_mem (tb1 173 rfl) rfl, gT_mem (tb1 174 rfl) rfl⟩
abbrev mX4_bright : Mt := (yX4_bright, cX4_bright, 3, (some .int))
theorem mrX4_bright : MRv mX4_bright 1 := ⟨⟨gT_mem (tb1 183 rfl) rfl, gT_mem (tb1 1 rfl) rfl, (by decide +kernel), Nat.le_of_ble_eq_true rfl, (by decide +kernel)⟩, gT_mem (tb1 181 rfl) rfl, gT_mem (tb1 182 rfl) rfl⟩
abbrev mX4_now : Mt := (yX4_now, cX4_now, 2, (some .int))
theorem mrX4_now : MRv mX4_now 1 := ⟨⟨gT_mem (tb1 187 rfl) rfl, gT_mem (tb1 1 rfl) rfl, (by decide +kernel), Nat.le_of_ble_eq_true rfl, (by decide +kernel)⟩, gT_mem (tb1 185 rfl) rfl, gT_mem (tb1 186 rfl) rfl⟩
abbrev mX4_walker : Mt := (yX4_walker, cX4_walker, 2, (some .int))
theorem mrX4_walker : MRv mX4_walker 1 := ⟨⟨gT_mem (tb1 221 rfl) rfl, gT_mem (tb1 1 rfl) rfl, (by decide +kernel), Nat.le_of_ble_eq_true rfl, (by decide +kernel)⟩, gT_mem (tb1 219 rfl) rfl, gT_mem (tb1 220 rfl) rfl⟩
abbrev mX4_of : Mt := (yX4_of, cX4_of, 3, (some .int))
theorem mrX4_of : MRv mX4_of 2 := ⟨⟨gT_mem (tb1 238 rfl) rfl, gT_mem (tb1 1 rfl) rfl, (by decide +kernel), Nat.le_of_ble_eq_true rfl, (by decide +kernel)⟩, gT_mem (tb1 236 rfl) rfl, gT_mem (tb1 237 rfl) rfl⟩
abbrev mX4_set : Mt := (yX4_set, cX4_set, 4, (some .int))
theorem mrX4_set : MRv mX4_set 3 := ⟨⟨gT_mem (tb2 21 rfl) rfl, gT_mem (tb1 1 rfl) rfl, (by decide +kernel), Nat.le_of_ble_eq_true rfl, (by decide +kernel)⟩, gT_mem (tb2 19 rfl) rfl, gT_mem (tb2 20 rfl) rfl⟩
abbrev mX4_swap : Mt := (yX4_swap, cX4_swap, 3, (some .int))
theorem mrX4_swap : MRv mX4_swap 2 := ⟨⟨gT_mem (tb2 29 rfl) rfl, gT_mem (tb1 1 rfl) rfl, (by decide +kernel), Nat.le_of_ble_eq_true rfl, (by decide +kernel)⟩, gT_mem (tb2 27 rfl) rfl, gT_mem (tb2 28 rfl) rfl⟩
abbrev mX4_turn : Mt := (yX4_turn, cX4_turn, 4, (some .int))
theorem mrX4_turn : MRv mX4_turn 2 := ⟨⟨gT_mem (tb2 40 rfl) rfl, gT_mem (tb1 1 rfl) rfl, (by decide +kernel), Nat.le_of_ble_eq_true rfl, (by decide +kernel)⟩, gT_mem (tb2 38 rfl) rfl, gT_mem (tb2 39 rfl) rfl⟩
abbrev mX4_as : Mt := (yX4_as, cX4_as, 3, (some .int))
theorem mrX4_as : MRv mX4_as 2 := ⟨⟨gT_mem (tb2 44 rfl) rfl, gT_mem (tb1 1 rfl) rfl, (by decide +kernel), Nat.le_of_ble_eq_true rfl, (by decide +kernel)⟩, gT_mem (tb2 42 rfl) rfl, gT_mem (tb2 43 rfl) rfl⟩
abbrev mX4_steps : Mt := (yX4_steps, cX4_steps, 2, (some .int))
theorem mrX4_steps : MRv mX4_steps 1 := ⟨⟨gT_mem (tb2 54 rfl) rfl, gT_mem (tb1 1 rfl) rfl, (by decide +kernel), Nat.le_of_ble_eq_true rfl, (by decide +kernel)⟩, gT_mem (tb2 52 rfl) rfl, gT_mem (tb2 53 rfl) rfl⟩
abbrev mX4_on : Mt := (yX4_on, cX4_on, 4, (some .int))
theorem mrX4_on : MRv mX4_on 3 := ⟨⟨gT_mem (tb2 93 rfl) rfl, gT_mem (tb1 1 rfl) rfl, (by decide +kernel), Nat.le_of_ble_eq_true rfl, (by decide +kernel)⟩, gT_mem (tb2 91 rfl) rfl, gT_mem (tb2 92 rfl) rfl⟩
abbrev mX4_falls : Mt := (yX4_falls, cX4_falls, 2, (some .int))
theorem mrX4_falls : MRv mX4_falls 1 := ⟨⟨gT_mem (tb2 105 rfl) rfl, gT_mem (tb1 1 rfl) rfl, (by decide +kernel), Nat.le_of_ble_eq_true rfl, (by decide +kernel)⟩, gT_mem (tb2 103 rfl) rfl, gT_mem (tb2 104 rfl) rfl⟩
abbrev mX4_trips : Mt := (yX4_trips, cX4_trips, 3, (some .int))
theorem mrX4_trips : MRv mX4_trips 1 := ⟨⟨gT_mem (tb2 113 rfl) rfl, gT_mem (tb1 1 rfl) rfl, (by decide +kernel), Nat.le_of_ble_eq_true rfl, (by decide +kernel)⟩, gT_mem (tb2 111 rfl) rfl, gT_mem (tb2 112 rfl) rfl⟩
abbrev mX4_hears : Mt := (yX4_hears, cX4_hears, 3, (some .int))
theorem mrX4_hears : MRv mX4_hears 1 := ⟨⟨gT_mem (tb2 119 rfl) rfl, gT_mem (tb1 1 rfl) rfl, (by decide +kernel), Nat.le_of_ble_eq_true rfl, (by decide +kernel)⟩, gT_mem (tb2 117 rfl) rfl, gT_mem (tb2 118 rfl) rfl⟩
abbrev mX4_carry : Mt := (yX4_carry, cX4_carry, 6, (some .int))
theorem mrX4_carry : MRv mX4_carry 1 := ⟨⟨gT_mem (tb2 123 rfl) rfl, gT_mem (tb1 1 rfl) rfl, (by decide +kernel), Nat.le_of_ble_eq_true rfl, (by decide +kernel)⟩, gT_mem (tb2 121 rfl) rfl, gT_mem (tb2 122 rfl) rfl⟩
abbrev mX4_order : Mt := (yX4_order, cX4_order, 7, (some .int))
theorem mrX4_order : MRv mX4_order 1 := ⟨⟨gT_mem (tb2 128 rfl) rfl, gT_mem (tb1 1 rfl) rfl, (by decide +kernel), Nat.le_of_ble_eq_true rfl, (by decide +kernel)⟩, gT_mem (tb2 126 rfl) rfl, gT_mem (tb2 127 rfl) rfl⟩
abbrev mX4_kind : Mt := (yX4_kind, cX4_kind, 6, (some .int))
theorem mrX4_kind : MRv mX4_kind 2 := ⟨⟨gT_mem (tb2 132 rfl) rfl, gT_mem (tb1 1 rfl) rfl, (by decide +kernel), Nat.le_of_ble_eq_true rfl, (by decide +kernel)⟩, gT_mem (tb2 130 rfl) rfl, gT_mem (tb2 131 rfl) rfl⟩
abbrev mX4_least : Mt := (yX4_least, cX4_least, 4, (some .int))
theorem mrX4_least : MRv mX4_least 2 := ⟨⟨gT_mem (tb2 136 rfl) rfl, gT_mem (tb1 1 rfl) rfl, (by decide +kernel), Nat.le_of_ble_eq_true rfl, (by decide +kernel)⟩, gT_mem (tb2 134 rfl) rfl, gT_mem (tb2 135 rfl) rfl⟩
abbrev mX4_clear : Mt := (yX4_clear, cX4_clear, 6, (some .int))
theorem mrX4_clear : MRv mX4_clear 1 := ⟨⟨gT_mem (tb2 140 rfl) rfl, gT_mem (tb1 1 rfl) rfl, (by decide +kernel), Nat.le_of_ble_eq_true rfl, (by decide +kernel)⟩, gT_mem (tb2 138 rfl) rfl, gT_mem (tb2 139 rfl) rfl⟩
abbrev mX4_nerve : Mt := (yX4_nerve, cX4_nerve, 4, (some .int))
theorem mrX4_nerve : MRv mX4_nerve 2 := ⟨⟨gT_mem (tb2 148 rfl) rfl, gT_mem (tb1 1 rfl) rfl, (by decide +kernel), Nat.le_of_ble_eq_true rfl, (by decide +kernel)⟩, gT_mem (tb2 146 rfl) rfl, gT_mem (tb2 147 rfl) rfl⟩
abbrev mX4_worst : Mt := (yX4_worst, cX4_worst, 4, (some .int))
theorem mrX4_worst : MRv mX4_worst 1 := ⟨⟨gT_mem (tb2 156 rfl) rfl, gT_mem (tb1 1 rfl) rfl, (by decide +kernel), Nat.le_of_ble_eq_true rfl, (by decide +kernel)⟩, gT_mem (tb2 154 rfl) rfl, gT_mem (tb2 155 rfl) rfl⟩
abbrev mX4_feed : Mt := (yX4_feed, cX4_feed, 4, (some .int))
theorem mrX4_feed : MRv mX4_feed 2 := ⟨⟨gT_mem (tb2 160 rfl) rfl, gT_mem (tb1 1 rfl) rfl, (by decide +kernel), Nat.le_of_ble_eq_true rfl, (by decide +kernel)⟩, gT_mem (tb2 158 rfl) rfl, gT_mem (tb2 159 rfl) rfl⟩
abbrev mX4_wipe : Mt := (yX4_wipe, cX4_wipe, 2, (some .int))
theorem mrX4_wipe : MRv mX4_wipe 0 := ⟨⟨gT_mem (tb2 168 rfl) rfl, gT_mem (tb1 1 rfl) rfl, (by decide +kernel), Nat.le_of_ble_eq_true rfl, (by decide +kernel)⟩, gT_mem (tb2 166 rfl) rfl, gT_mem (tb2 167 rfl) rfl⟩
abbrev mX4_night : Mt := (yX4_night, cX4_night, 2, (some .int))
theorem mrX4_night : MRv mX4_night 0 := ⟨⟨gT_mem (tb2 172 rfl) rfl, gT_mem (tb1 1 rfl) rfl, (by decide +kernel), Nat.le_of_ble_eq_true rfl, (by decide +kernel)⟩, gT_mem (tb2 170 rfl) rfl, gT_mem (tb2 171 rfl) rfl⟩
abbrev mX4_sheet : Mt := (yX4_sheet, cX4_sheet, 4, (some .int))
theorem mrX4_sheet : MRv mX4_sheet 3 := ⟨⟨gT_mem (tb3 68 rfl) rfl, gT_mem (tb1 1 rfl) rfl, (by decide +kernel), Nat.le_of_ble_eq_true rfl, (by decide +kernel)⟩, gT_mem (tb3 66 rfl) rfl, gT_mem (tb3 67 rfl) rfl⟩
abbrev mX4_write : Mt := (yX4_write, cX4_write, 8, (some .long))
theorem mrX4_write : MRv mX4_write 3 := ⟨⟨gT_mem (tb3 83 rfl) rfl, gT_mem (tb1 1 rfl) rfl, (by decide +kernel), Nat.le_of_ble_eq_true rfl, (by decide +kernel)⟩, gT_mem (tb3 81 rfl) rfl, gT_mem (tb3 82 rfl) rfl⟩
abbrev mX4_copy : Mt := (yX4_copy, cX4_copy, 8, (some .int))
theorem mrX4_copy : MRv mX4_copy 5 := ⟨⟨gT_mem (tb3 100 rfl) rfl, gT_mem (tb1 1 rfl) rfl, (by decide +kernel), Nat.le_of_ble_eq_true rfl, (by decide +kernel)⟩, gT_mem (tb3 98 rfl) rfl, gT_mem (tb3 99 rfl) rfl⟩
abbrev mX4_lays : Mt := (yX4_lays, cX4_lays, 8, (some .int))
theorem mrX4_lays : MRv mX4_lays 1 := ⟨⟨gT_mem (tb3 111 rfl) rfl, gT_mem (tb1 1 rfl) rfl, (by decide +kernel), Nat.le_of_ble_eq_true rfl, (by decide +kernel)⟩, gT_mem (tb3 109 rfl) rfl, gT_mem (tb3 110 rfl) rfl⟩
abbrev mX4_book : Mt := (yX4_book, cX4_book, 6, (some .int))
theorem mrX4_book : MRv mX4_book 2 := ⟨⟨gT_mem (tb3 117 rfl) rfl, gT_mem (tb1 1 rfl) rfl, (by decide +kernel), Nat.le_of_ble_eq_true rfl, (by decide +kernel)⟩, gT_mem (tb3 115 rfl) rfl, gT_mem (tb3 116 rfl) rfl⟩
abbrev mX4_read : Mt := (yX4_read, cX4_read, 7, (some .int))
theorem mrX4_read : MRv mX4_read 2 := ⟨⟨gT_mem (tb3 125 rfl) rfl, gT_mem (tb1 1 rfl) rfl, (by decide +kernel), Nat.le_of_ble_eq_true rfl, (by decide +kernel)⟩, gT_mem (tb3 123 rfl) rfl, gT_mem (tb3 124 rfl) rfl⟩
abbrev mX4_image : Mt := (yX4_image, cX4_image, 1, (some .int))
theorem mrX4_image : MRv mX4_image 0 := ⟨⟨gT_mem (tb3 133 rfl) rfl, gT_mem (tb1 1 rfl) rfl, (by decide +kernel), Nat.le_of_ble_eq_true rfl, (by decide +kernel)⟩, gT_mem (tb3 131 rfl) rfl, gT_mem (tb3 132 rfl) rfl⟩
abbrev mX4_undo : Mt := (yX4_undo, cX4_undo, 1, (some .int))
theorem mrX4_undo : MRv mX4_undo 0 := ⟨⟨gT_mem (tb3 137 rfl) rfl, gT_mem (tb1 1 rfl) rfl, (by decide +kernel), Nat.le_of_ble_eq_true rfl, (by decide +kernel)⟩, gT_mem (tb3 135 rfl) rfl, gT_mem (tb3 136 rfl) rfl⟩
abbrev mX4_tear : Mt := (yX4_tear, cX4_tear, 2, (some .int))
theorem mrX4_tear : MRv mX4_tear 0 := ⟨⟨gT_mem (tb3 141 rfl) rfl, gT_mem (tb1 1 rfl) rfl, (by decide +kernel), Nat.le_of_ble_eq_true rfl, (by decide +kernel)⟩, gT_mem (tb3 139 rfl) rfl, gT_mem (tb3 140 rfl) rfl⟩
abbrev mX4_count : Mt := (yX4_count, cX4_count, 2, (some .int))
theorem mrX4_count : MRv mX4_count 1 := ⟨⟨gT_mem (tb3 145 rfl) rfl, gT_mem (tb1 1 rfl) rfl, (by decide +kernel), Nat.le_of_ble_eq_true rfl, (by decide +kernel)⟩, gT_mem (tb3 143 rfl) rfl, gT_mem (tb3 144 rfl) rfl⟩
abbrev mX4_status : Mt := (yX4_status, cX4_status, 4, (some .int))
theorem mrX4_status : MRv mX4_status 1 := ⟨⟨gT_mem (tb3 159 rfl) rfl, gT_mem (tb1 1 rfl) rfl, (by decide +kernel), Nat.le_of_ble_eq_true rfl, (by decide +kernel)⟩, gT_mem (tb3 157 rfl) rfl, gT_mem (tb3 158 rfl) rfl⟩
abbrev mX4_tell : Mt := (yX4_tell, cX4_tell, 3, (some .int))
theorem mrX4_tell : MRv mX4_tell 1 := ⟨⟨gT_mem (tb1 171 rfl) rfl, gT_mem (tb1 1 rfl) rfl, (by decide +kernel), Nat.le_of_ble_eq_true rfl, (by decide +kernel)⟩, gT_mem (tb1 170 rfl) rfl, gT_sel (List.mem_of_getElem? (i := 0) rfl) rfl⟩
abbrev mX4_put : Mt := (yX4_put, cX4_put, 6, (some .int))
theorem mrX4_put : MRv mX4_put 4 := ⟨⟨gT_mem (tb2 25 rfl) rfl, gT_mem (tb1 1 rfl) rfl, (by decide +kernel), Nat.le_of_ble_eq_true rfl, (by decide +kernel)⟩, gT_mem (tb2 24 rfl) rfl, gT_sel (List.mem_of_getElem? (i := 12) rfl) rfl⟩
abbrev mX4_lookAhead : Mt := (yX4_lookAhead, cX4_lookAhead, 1, none)
theorem mrX4_lookAhead : MRv mX4_lookAhead 0 := ⟨⟨gT_mem (tb2 97 rfl) rfl, gT_mem (tb1 1 rfl) rfl, (by decide +kernel), Nat.le_of_ble_eq_true rfl, (by decide +kernel)⟩, gT_mem (tb2 96 rfl) rfl, gT_sel (List.mem_of_getElem? (i := 20) rfl) rfl⟩
abbrev mX4_stumbledIn : Mt := (yX4_stumbledIn, cX4_stumbledIn, 2, (some .int))
theorem mrX4_stumbledIn : MRv mX4_stumbledIn 1 := ⟨⟨gT_mem (tb2 109 rfl) rfl, gT_mem (tb1 1 rfl) rfl, (by decide +kernel), Nat.le_of_ble_eq_true rfl, (by decide +kernel)⟩, gT_mem (tb2 108 rfl) rfl, gT_sel (List.mem_of_getElem? (i := 22) rfl) rfl⟩
abbrev mX4_findingOfBook : Mt := (yX4_findingOfBook, cX4_findingOfBook, 3, (some .int))
theorem mrX4_findingOfBook : MRv mX4_findingOfBook 2 := ⟨⟨gT_mem (tb3 121 rfl) rfl, gT_mem (tb1 1 rfl) rfl, (by decide +kernel), Nat.le_of_ble_eq_true rfl, (by decide +kernel)⟩, gT_mem (tb3 120 rfl) rfl, gT_sel (List.mem_of_getElem? (i := 45) rfl) rfl⟩
abbrev mX4_stumblesNoMore : Mt := (yX4_stumblesNoMore, cX4_stumblesNoMore, 4, (some .boolean))
theorem mrX4_stumblesNoMore : MRv mX4_stumblesNoMore 2 := ⟨⟨gT_mem (tb2 152 rfl) rfl, gT_mem (tb1 1 rfl) rfl, (by decide +kernel), Nat.le_of_ble_eq_true rfl, (by decide +kernel)⟩, gT_mem (tb2 151 rfl) rfl, gT_sel (List.mem_of_getElem? (i := 24) rfl) rfl⟩
abbrev mX4_stumblesJustAs : Mt := (yX4_stumblesJustAs, cX4_stumblesJustAs, 4, (some .boolean))
theorem mrX4_stumblesJustAs : MRv mX4_stumblesJustAs 2 := ⟨⟨gT_mem (tb3 129 rfl) rfl, gT_mem (tb1 1 rfl) rfl, (by decide +kernel), Nat.le_of_ble_eq_true rfl, (by decide +kernel)⟩, gT_mem (tb3 128 rfl) rfl, gT_sel (List.mem_of_getElem? (i := 46) rfl) rfl⟩
abbrev mX4_within : Mt := (yX4_within, cX4_within, 3, (some .boolean))
theorem mrX4_within : MRs mX4_within 3 := ⟨⟨gT_mem (tb1 166 rfl) rfl, gT_mem (tb1 1 rfl) rfl, (by decide +kernel), Nat.le_of_ble_eq_true rfl, (by decide +kernel)⟩, gT_mem (tb1 165 rfl) rfl⟩
abbrev mX4_isIn : Mt := (yX4_isIn, cX4_isIn, 2, (some .boolean))
theorem mrX4_isIn : MRs mX4_isIn 2 := ⟨⟨gT_mem (tb1 209 rfl) rfl, gT_mem (tb1 1 rfl) rfl, (by decide +kernel), Nat.le_of_ble_eq_true rfl, (by decide +kernel)⟩, gT_mem (tb1 208 rfl) rfl⟩
abbrev mX4_isKind : Mt := (yX4_isKind, cX4_isKind, 1, (some .boolean))
theorem mrX4_isKind : MRs mX4_isKind 1 := ⟨⟨gT_mem (tb1 224 rfl) rfl, gT_mem (tb1 1 rfl) rfl, (by decide +kernel), Nat.le_of_ble_eq_true rfl, (by decide +kernel)⟩, gT_mem (tb1 223 rfl) rfl⟩
abbrev mX4_isSheet : Mt := (yX4_isSheet, cX4_isSheet, 1, (some .boolean))
theorem mrX4_isSheet : MRs mX4_isSheet 1 := ⟨⟨gT_mem (tb3 71 rfl) rfl, gT_mem (tb1 1 rfl) rfl, (by decide +kernel), Nat.le_of_ble_eq_true rfl, (by decide +kernel)⟩, gT_mem (tb3 70 rfl) rfl⟩
abbrev mX4_isWidth : Mt := (yX4_isWidth, cX4_isWidth, 1, (some .boolean))
theorem mrX4_isWidth : MRs mX4_isWidth 1 := ⟨⟨gT_mem (tb3 74 rfl) rfl, gT_mem (tb1 1 rfl) rfl, (by decide +kernel), Nat.le_of_ble_eq_true rfl, (by decide +kernel)⟩, gT_mem (tb3 73 rfl) rfl⟩
abbrev mX4_isUnder : Mt := (yX4_isUnder, cX4_isUnder, 4, (some .boolean))
theorem mrX4_isUnder : MRs mX4_isUnder 2 := ⟨⟨gT_mem (tb2 47 rfl) rfl, gT_mem (tb1 1 rfl) rfl, (by decide +kernel), Nat.le_of_ble_eq_true rfl, (by decide +kernel)⟩, gT_mem (tb2 46 rfl) rfl⟩
abbrev mX4_shadeOf : Mt := (yX4_shadeOf, cX4_shadeOf, 1, (some .int))
theorem mrX4_shadeOf : MRs mX4_shadeOf 1 := ⟨⟨gT_mem (tb1 195 rfl) rfl, gT_mem (tb1 1 rfl) rfl, (by decide +kernel), Nat.le_of_ble_eq_true rfl, (by decide +kernel)⟩, gT_mem (tb1 194 rfl) rfl⟩
abbrev mX5_init : Mt := (yX5_init, cX5_init, 2, none)
abbrev mX5_in : Mt := (yX5_in, cX5_in, 6, (some .boolean))
theorem mrX5_in : MRs mX5_in 3 := ⟨⟨gT_mem (tb3 225 rfl) rfl, gT_mem (tb1 6 rfl) rfl, (by decide +kernel), Nat.le_of_ble_eq_true rfl, (by decide +kernel)⟩, gT_mem (tb3 224 rfl) rfl⟩
abbrev mX5_finds : Mt := (yX5_finds, cX5_finds, 2, (some .int))
theorem mrX5_finds : MRv mX5_finds 1 := ⟨⟨gT_mem (tb3 234 rfl) rfl, gT_mem (tb1 6 rfl) rfl, (by decide +kernel), Nat.le_of_ble_eq_true rfl, (by decide +kernel)⟩, gT_mem (tb3 233 rfl) rfl, gT_sel (List.mem_of_getElem? (i := 49) rfl) rfl⟩
abbrev mX5_saves : Mt := (yX5_saves, cX5_saves, 2, none)
theorem mrX5_saves : MRv mX5_saves 0 := ⟨⟨gT_mem (tb4 222 rfl) rfl, gT_mem (tb1 6 rfl) rfl, (by decide +kernel), Nat.le_of_ble_eq_true rfl, (by decide +kernel)⟩, gT_mem (tb4 221 rfl) rfl, gT_sel (List.mem_of_getElem? (i := 74) rfl) rfl⟩
abbrev mX5_putsBack : Mt := (yX5_putsBack, cX5_putsBack, 2, none)
theorem mrX5_putsBack : MRv mX5_putsBack 0 := ⟨⟨gT_mem (tb5 58 rfl) rfl, gT_mem (tb1 6 rfl) rfl, (by decide +kernel), Nat.le_of_ble_eq_true rfl, (by decide +kernel)⟩, gT_mem (tb5 57 rfl) rfl, gT_sel (List.mem_of_getElem? (i := 87) rfl) rfl⟩
abbrev mX5_laysAside : Mt := (yX5_laysAside, cX5_laysAside, 2, none)
theorem mrX5_laysAside : MRv mX5_laysAside 0 := ⟨⟨gT_mem (tb4 146 rfl) rfl, gT_mem (tb1 6 rfl) rfl, (by decide +kernel), Nat.le_of_ble_eq_true rfl, (by decide +kernel)⟩, gT_mem (tb4 145 rfl) rfl, gT_sel (List.mem_of_getElem? (i := 70) rfl) rfl⟩
abbrev mX5_takesBack : Mt := (yX5_takesBack, cX5_takesBack, 3, (some .int))
theorem mrX5_takesBack : MRv mX5_takesBack 1 := ⟨⟨gT_mem (tb4 150 rfl) rfl, gT_mem (tb1 6 rfl) rfl, (by decide +kernel), Nat.le_of_ble_eq_true rfl, (by decide +kernel)⟩, gT_mem (tb4 149 rfl) rfl, gT_sel (List.mem_of_getElem? (i := 71) rfl) rfl⟩
abbrev mX5_becomes : Mt := (yX5_becomes, cX5_becomes, 4, (some .int))
theorem mrX5_becomes : MRv mX5_becomes 2 := ⟨⟨gT_mem (tb3 229 rfl) rfl, gT_mem (tb1 6 rfl) rfl, (by decide +kernel), Nat.le_of_ble_eq_true rfl, (by decide +kernel)⟩, gT_mem (tb3 228 rfl) rfl, gT_sel (List.mem_of_getElem? (i := 48) rfl) rfl⟩
abbrev mX5_spot : Mt := (yX5_spot, cX5_spot, 2, (some .int))
theorem mrX5_spot : MRs mX5_spot 2 := ⟨⟨gT_mem (tb4 30 rfl) rfl, gT_mem (tb1 6 rfl) rfl, (by decide +kernel), Nat.le_of_ble_eq_true rfl, (by decide +kernel)⟩, gT_mem (tb4 29 rfl) rfl⟩
abbrev mX5_its : Mt := (yX5_its, cX5_its, 3, (some .int))
theorem mrX5_its : MRv mX5_its 2 := ⟨⟨gT_mem (tb4 27 rfl) rfl, gT_mem (tb1 6 rfl) rfl, (by decide +kernel), Nat.le_of_ble_eq_true rfl, (by decide +kernel)⟩, gT_mem (tb4 26 rfl) rfl, gT_sel (List.mem_of_getElem? (i := 54) rfl) rfl⟩
abbrev mX5_isPlace : Mt := (yX5_isPlace, cX5_isPlace, 2, (some .boolean))
theorem mrX5_isPlace : MRv mX5_isPlace 1 := ⟨⟨gT_mem (tb4 2 rfl) rfl, gT_mem (tb1 6 rfl) rfl, (by decide +kernel), Nat.le_of_ble_eq_true rfl, (by decide +kernel)⟩, gT_mem (tb4 1 rfl) rfl, gT_sel (List.mem_of_getElem? (i := 50) rfl) rfl⟩
abbrev mX5_isKind : Mt := (yX5_isKind, cX5_isKind, 1, (some .boolean))
theorem mrX5_isKind : MRs mX5_isKind 1 := ⟨⟨gT_mem (tb4 61 rfl) rfl, gT_mem (tb1 6 rfl) rfl, (by decide +kernel), Nat.le_of_ble_eq_true rfl, (by decide +kernel)⟩, gT_mem (tb4 60 rfl) rfl⟩
abbrev mX5_together : Mt := (yX5_together, cX5_together, 4, (some .int))
theorem mrX5_together : MRv mX5_together 1 := ⟨⟨gT_mem (tb4 54 rfl) rfl, gT_mem (tb1 6 rfl) rfl, (by decide +kernel), Nat.le_of_ble_eq_true rfl, (by decide +kernel)⟩, gT_mem (tb4 53 rfl) rfl, gT_sel (List.mem_of_getElem? (i := 60) rfl) rfl⟩
abbrev mX5_paceOf : Mt := (yX5_paceOf, cX5_paceOf, 3, (some .int))
theorem mrX5_paceOf : MRv mX5_paceOf 1 := ⟨⟨gT_mem (tb4 46 rfl) rfl, gT_mem (tb1 6 rfl) rfl, (by decide +kernel), Nat.le_of_ble_eq_true rfl, (by decide +kernel)⟩, gT_mem (tb4 45 rfl) rfl, gT_sel (List.mem_of_getElem? (i := 58) rfl) rfl⟩
abbrev mX5_isAtRoot : Mt := (yX5_isAtRoot, cX5_isAtRoot, 2, (some .boolean))
theorem mrX5_isAtRoot : MRv mX5_isAtRoot 1 := ⟨⟨gT_mem (tb4 42 rfl) rfl, gT_mem (tb1 6 rfl) rfl, (by decide +kernel), Nat.le_of_ble_eq_true rfl, (by decide +kernel)⟩, gT_mem (tb4 41 rfl) rfl, gT_sel (List.mem_of_getElem? (i := 57) rfl) rfl⟩
abbrev mX5_roots : Mt := (yX5_roots, cX5_roots, 2, (some .int))
theorem mrX5_roots : MRv mX5_roots 1 := ⟨⟨gT_mem (tb3 221 rfl) rfl, gT_mem (tb1 6 rfl) rfl, (by decide +kernel), Nat.le_of_ble_eq_true rfl, (by decide +kernel)⟩, gT_mem (tb3 219 rfl) rfl, gT_mem (tb3 220 rfl) rfl⟩
abbrev mX5_lantern : Mt := (yX5_lantern, cX5_lantern, 2, (some .int))
theorem mrX5_lantern : MRv mX5_lantern 1 := ⟨⟨gT_mem (tb3 238 rfl) rfl, gT_mem (tb1 6 rfl) rfl, (by decide +kernel), Nat.le_of_ble_eq_true rfl, (by decide +kernel)⟩, gT_mem (tb3 236 rfl) rfl, gT_mem (tb3 237 rfl) rfl⟩
abbrev mX5_bright : Mt := (yX5_bright, cX5_bright, 2, (some .int))
theorem mrX5_bright : MRv mX5_bright 1 := ⟨⟨gT_mem (tb4 6 rfl) rfl, gT_mem (tb1 6 rfl) rfl, (by decide +kernel), Nat.le_of_ble_eq_true rfl, (by decide +kernel)⟩, gT_mem (tb4 4 rfl) rfl, gT_mem (tb4 5 rfl) rfl⟩
abbrev mX5_shadesOf : Mt := (yX5_shadesOf, cX5_shadesOf, 3, (some .int))
theorem mrX5_shadesOf : MRv mX5_shadesOf 1 := ⟨⟨gT_mem (tb4 23 rfl) rfl, gT_mem (tb1 6 rfl) rfl, (by decide +kernel), Nat.le_of_ble_eq_true rfl, (by decide +kernel)⟩, gT_mem (tb4 22 rfl) rfl, gT_sel (List.mem_of_getElem? (i := 53) rfl) rfl⟩
abbrev mX5_farOf : Mt := (yX5_farOf, cX5_farOf, 2, (some .int))
theorem mrX5_farOf : MRv mX5_farOf 1 := ⟨⟨gT_mem (tb4 34 rfl) rfl, gT_mem (tb1 6 rfl) rfl, (by decide +kernel), Nat.le_of_ble_eq_true rfl, (by decide +kernel)⟩, gT_mem (tb4 33 rfl) rfl, gT_sel (List.mem_of_getElem? (i := 55) rfl) rfl⟩
abbrev mX5_isLit : Mt := (yX5_isLit, cX5_isLit, 4, (some .boolean))
theorem mrX5_isLit : MRv mX5_isLit 1 := ⟨⟨gT_mem (tb4 19 rfl) rfl, gT_mem (tb1 6 rfl) rfl, (by decide +kernel), Nat.le_of_ble_eq_true rfl, (by decide +kernel)⟩, gT_mem (tb4 18 rfl) rfl, gT_sel (List.mem_of_getElem? (i := 52) rfl) rfl⟩
abbrev mX5_litOnes : Mt := (yX5_litOnes, cX5_litOnes, 3, (some .int))
theorem mrX5_litOnes : MRv mX5_litOnes 0 := ⟨⟨gT_mem (tb4 15 rfl) rfl, gT_mem (tb1 6 rfl) rfl, (by decide +kernel), Nat.le_of_ble_eq_true rfl, (by decide +kernel)⟩, gT_mem (tb4 14 rfl) rfl, gT_sel (List.mem_of_getElem? (i := 51) rfl) rfl⟩
abbrev mX5_rootedOnes : Mt := (yX5_rootedOnes, cX5_rootedOnes, 3, (some .int))
theorem mrX5_rootedOnes : MRv mX5_rootedOnes 0 := ⟨⟨gT_mem (tb4 38 rfl) rfl, gT_mem (tb1 6 rfl) rfl, (by decide +kernel), Nat.le_of_ble_eq_true rfl, (by decide +kernel)⟩, gT_mem (tb4 37 rfl) rfl, gT_sel (List.mem_of_getElem? (i := 56) rfl) rfl⟩
abbrev mX5_heardOnes : Mt := (yX5_heardOnes, cX5_heardOnes, 3, (some .int))
theorem mrX5_heardOnes : MRv mX5_heardOnes 0 := ⟨⟨gT_mem (tb4 50 rfl) rfl, gT_mem (tb1 6 rfl) rfl, (by decide +kernel), Nat.le_of_ble_eq_true rfl, (by decide +kernel)⟩, gT_mem (tb4 49 rfl) rfl, gT_sel (List.mem_of_getElem? (i := 59) rfl) rfl⟩
abbrev mX5_now : Mt := (yX5_now, cX5_now, 2, (some .int))
theorem mrX5_now : MRv mX5_now 1 := ⟨⟨gT_mem (tb4 11 rfl) rfl, gT_mem (tb1 6 rfl) rfl, (by decide +kernel), Nat.le_of_ble_eq_true rfl, (by decide +kernel)⟩, gT_mem (tb4 9 rfl) rfl, gT_mem (tb4 10 rfl) rfl⟩
abbrev mX5_isSeeing : Mt := (yX5_isSeeing, cX5_isSeeing, 3, (some .boolean))
theorem mrX5_isSeeing : MRv mX5_isSeeing 1 := ⟨⟨gT_mem (tb4 75 rfl) rfl, gT_mem (tb1 6 rfl) rfl, (by decide +kernel), Nat.le_of_ble_eq_true rfl, (by decide +kernel)⟩, gT_mem (tb4 74 rfl) rfl, gT_sel (List.mem_of_getElem? (i := 62) rfl) rfl⟩
abbrev mX5_isHeeding : Mt := (yX5_isHeeding, cX5_isHeeding, 3, (some .boolean))
theorem mrX5_isHeeding : MRv mX5_isHeeding 1 := ⟨⟨gT_mem (tb4 79 rfl) rfl, gT_mem (tb1 6 rfl) rfl, (by decide +kernel), Nat.le_of_ble_eq_true rfl, (by decide +kernel)⟩, gT_mem (tb4 78 rfl) rfl, gT_sel (List.mem_of_getElem? (i := 63) rfl) rfl⟩
abbrev mX5_isSaying : Mt := (yX5_isSaying, cX5_isSaying, 5, (some .boolean))
theorem mrX5_isSaying : MRv mX5_isSaying 1 := ⟨⟨gT_mem (tb4 130 rfl) rfl, gT_mem (tb1 6 rfl) rfl, (by decide +kernel), Nat.le_of_ble_eq_true rfl, (by decide +kernel)⟩, gT_mem (tb4 129 rfl) rfl, gT_sel (List.mem_of_getElem? (i := 68) rfl) rfl⟩
abbrev mX5_adds : Mt := (yX5_adds, cX5_adds, 3, (some .int))
theorem mrX5_adds : MRv mX5_adds 1 := ⟨⟨gT_mem (tb4 67 rfl) rfl, gT_mem (tb1 6 rfl) rfl, (by decide +kernel), Nat.le_of_ble_eq_true rfl, (by decide +kernel)⟩, gT_mem (tb4 66 rfl) rfl, gT_sel (List.mem_of_getElem? (i := 61) rfl) rfl⟩
abbrev mX5_walker : Mt := (yX5_walker, cX5_walker, 2, (some .int))
theorem mrX5_walker : MRv mX5_walker 1 := ⟨⟨gT_mem (tb4 58 rfl) rfl, gT_mem (tb1 6 rfl) rfl, (by decide +kernel), Nat.le_of_ble_eq_true rfl, (by decide +kernel)⟩, gT_mem (tb4 56 rfl) rfl, gT_mem (tb4 57 rfl) rfl⟩
abbrev mX5_of : Mt := (yX5_of, cX5_of, 3, (some .int))
theorem mrX5_of : MRv mX5_of 2 := ⟨⟨gT_mem (tb4 71 rfl) rfl, gT_mem (tb1 6 rfl) rfl, (by decide +kernel), Nat.le_of_ble_eq_true rfl, (by decide +kernel)⟩, gT_mem (tb4 69 rfl) rfl, gT_mem (tb4 70 rfl) rfl⟩
abbrev mX5_set : Mt := (yX5_set, cX5_set, 5, (some .int))
theorem mrX5_set : MRv mX5_set 3 := ⟨⟨gT_mem (tb4 83 rfl) rfl, gT_mem (tb1 6 rfl) rfl, (by decide +kernel), Nat.le_of_ble_eq_true rfl, (by decide +kernel)⟩, gT_mem (tb4 81 rfl) rfl, gT_mem (tb4 82 rfl) rfl⟩
abbrev mX5_swaps : Mt := (yX5_swaps, cX5_swaps, 5, none)
theorem mrX5_swaps : MRv mX5_swaps 2 := ⟨⟨gT_mem (tb4 95 rfl) rfl, gT_mem (tb1 6 rfl) rfl, (by decide +kernel), Nat.le_of_ble_eq_true rfl, (by decide +kernel)⟩, gT_mem (tb4 94 rfl) rfl, gT_sel (List.mem_of_getElem? (i := 64) rfl) rfl⟩
abbrev mX5_swap : Mt := (yX5_swap, cX5_swap, 3, (some .int))
theorem mrX5_swap : MRv mX5_swap 2 := ⟨⟨gT_mem (tb4 91 rfl) rfl, gT_mem (tb1 6 rfl) rfl, (by decide +kernel), Nat.le_of_ble_eq_true rfl, (by decide +kernel)⟩, gT_mem (tb4 89 rfl) rfl, gT_mem (tb4 90 rfl) rfl⟩
abbrev mX5_turn : Mt := (yX5_turn, cX5_turn, 3, (some .int))
theorem mrX5_turn : MRv mX5_turn 2 := ⟨⟨gT_mem (tb4 99 rfl) rfl, gT_mem (tb1 6 rfl) rfl, (by decide +kernel), Nat.le_of_ble_eq_true rfl, (by decide +kernel)⟩, gT_mem (tb4 97 rfl) rfl, gT_mem (tb4 98 rfl) rfl⟩
abbrev mX5_isUnder : Mt := (yX5_isUnder, cX5_isUnder, 2, (some .boolean))
theorem mrX5_isUnder : MRs mX5_isUnder 2 := ⟨⟨gT_mem (tb4 106 rfl) rfl, gT_mem (tb1 6 rfl) rfl, (by decide +kernel), Nat.le_of_ble_eq_true rfl, (by decide +kernel)⟩, gT_mem (tb4 105 rfl) rfl⟩
abbrev mX5_as : Mt := (yX5_as, cX5_as, 3, (some .int))
theorem mrX5_as : MRv mX5_as 2 := ⟨⟨gT_mem (tb4 103 rfl) rfl, gT_mem (tb1 6 rfl) rfl, (by decide +kernel), Nat.le_of_ble_eq_true rfl, (by decide +kernel)⟩, gT_mem (tb4 101 rfl) rfl, gT_mem (tb4 102 rfl) rfl⟩
abbrev mX5_treads : Mt := (yX5_treads, cX5_treads, 5, none)
theorem mrX5_treads : MRv mX5_treads 1 := ⟨⟨gT_mem (tb4 126 rfl) rfl, gT_mem (tb1 6 rfl) rfl, (by decide +kernel), Nat.le_of_ble_eq_true rfl, (by decide +kernel)⟩, gT_mem (tb4 125 rfl) rfl, gT_sel (List.mem_of_getElem? (i := 67) rfl) rfl⟩
abbrev mX5_step : Mt := (yX5_step, cX5_step, 3, none)
theorem mrX5_step : MRv mX5_step 0 := ⟨⟨gT_mem (tb4 122 rfl) rfl, gT_mem (tb1 6 rfl) rfl, (by decide +kernel), Nat.le_of_ble_eq_true rfl, (by decide +kernel)⟩, gT_mem (tb4 121 rfl) rfl, gT_sel (List.mem_of_getElem? (i := 66) rfl) rfl⟩
abbrev mX5_stepsGo : Mt := (yX5_stepsGo, cX5_stepsGo, 3, none)
theorem mrX5_stepsGo : MRv mX5_stepsGo 1 := ⟨⟨gT_mem (tb4 118 rfl) rfl, gT_mem (tb1 6 rfl) rfl, (by decide +kernel), Nat.le_of_ble_eq_true rfl, (by decide +kernel)⟩, gT_mem (tb4 117 rfl) rfl, gT_sel (List.mem_of_getElem? (i := 65) rfl) rfl⟩
abbrev mX5_steps : Mt := (yX5_steps, cX5_steps, 2, (some .int))
theorem mrX5_steps : MRv mX5_steps 1 := ⟨⟨gT_mem (tb4 111 rfl) rfl, gT_mem (tb1 6 rfl) rfl, (by decide +kernel), Nat.le_of_ble_eq_true rfl, (by decide +kernel)⟩, gT_mem (tb4 109 rfl) rfl, gT_mem (tb4 110 rfl) rfl⟩
abbrev mX5_isAhead : Mt := (yX5_isAhead, cX5_isAhead, 1, (some .boolean))
theorem mrX5_isAhead : MRs mX5_isAhead 1 := ⟨⟨gT_mem (tb4 137 rfl) rfl, gT_mem (tb1 6 rfl) rfl, (by decide +kernel), Nat.le_of_ble_eq_true rfl, (by decide +kernel)⟩, gT_mem (tb4 136 rfl) rfl⟩
abbrev mX5_behind : Mt := (yX5_behind, cX5_behind, 3, (some .int))
theorem mrX5_behind : MRv mX5_behind 2 := ⟨⟨gT_mem (tb4 142 rfl) rfl, gT_mem (tb1 6 rfl) rfl, (by decide +kernel), Nat.le_of_ble_eq_true rfl, (by decide +kernel)⟩, gT_mem (tb4 141 rfl) rfl, gT_sel (List.mem_of_getElem? (i := 69) rfl) rfl⟩
abbrev mX5_on : Mt := (yX5_on, cX5_on, 4, (some .int))
theorem mrX5_on : MRv mX5_on 3 := ⟨⟨gT_mem (tb4 134 rfl) rfl, gT_mem (tb1 6 rfl) rfl, (by decide +kernel), Nat.le_of_ble_eq_true rfl, (by decide +kernel)⟩, gT_mem (tb4 132 rfl) rfl, gT_mem (tb4 133 rfl) rfl⟩
abbrev mX5_falls : Mt := (yX5_falls, cX5_falls, 2, (some .int))
theorem mrX5_falls : MRv mX5_falls 1 := ⟨⟨gT_mem (tb4 154 rfl) rfl, gT_mem (tb1 6 rfl) rfl, (by decide +kernel), Nat.le_of_ble_eq_true rfl, (by decide +kernel)⟩, gT_mem (tb4 152 rfl) rfl, gT_mem (tb4 153 rfl) rfl⟩
abbrev mX5_toldAt : Mt := (yX5_toldAt, cX5_toldAt, 3, (some .int))
theorem mrX5_toldAt : MRv mX5_toldAt 1 := ⟨⟨gT_mem (tb4 162 rfl) rfl, gT_mem (tb1 6 rfl) rfl, (by decide +kernel), Nat.le_of_ble_eq_true rfl, (by decide +kernel)⟩, gT_mem (tb4 161 rfl) rfl, gT_sel (List.mem_of_getElem? (i := 72) rfl) rfl⟩
abbrev mX5_trips : Mt := (yX5_trips, cX5_trips, 3, (some .int))
theorem mrX5_trips : MRv mX5_trips 1 := ⟨⟨gT_mem (tb4 158 rfl) rfl, gT_mem (tb1 6 rfl) rfl, (by decide +kernel), Nat.le_of_ble_eq_true rfl, (by decide +kernel)⟩, gT_mem (tb4 156 rfl) rfl, gT_mem (tb4 157 rfl) rfl⟩
abbrev mX5_hears : Mt := (yX5_hears, cX5_hears, 3, (some .int))
theorem mrX5_hears : MRv mX5_hears 1 := ⟨⟨gT_mem (tb4 167 rfl) rfl, gT_mem (tb1 6 rfl) rfl, (by decide +kernel), Nat.le_of_ble_eq_true rfl, (by decide +kernel)⟩, gT_mem (tb4 165 rfl) rfl, gT_mem (tb4 166 rfl) rfl⟩
abbrev mX5_isSoon : Mt := (yX5_isSoon, cX5_isSoon, 1, (some .boolean))
theorem mrX5_isSoon : MRs mX5_isSoon 1 := ⟨⟨gT_mem (tb4 174 rfl) rfl, gT_mem (tb1 6 rfl) rfl, (by decide +kernel), Nat.le_of_ble_eq_true rfl, (by decide +kernel)⟩, gT_mem (tb4 173 rfl) rfl⟩
abbrev mX5_leastBy : Mt := (yX5_leastBy, cX5_leastBy, 10, (some .int))
theorem mrX5_leastBy : MRv mX5_leastBy 4 := ⟨⟨gT_mem (tb4 179 rfl) rfl, gT_mem (tb1 6 rfl) rfl, (by decide +kernel), Nat.le_of_ble_eq_true rfl, (by decide +kernel)⟩, gT_mem (tb4 178 rfl) rfl, gT_sel (List.mem_of_getElem? (i := 73) rfl) rfl⟩
abbrev mX5_carry : Mt := (yX5_carry, cX5_carry, 2, (some .int))
theorem mrX5_carry : MRv mX5_carry 1 := ⟨⟨gT_mem (tb4 171 rfl) rfl, gT_mem (tb1 6 rfl) rfl, (by decide +kernel), Nat.le_of_ble_eq_true rfl, (by decide +kernel)⟩, gT_mem (tb4 169 rfl) rfl, gT_mem (tb4 170 rfl) rfl⟩
abbrev mX5_order : Mt := (yX5_order, cX5_order, 7, (some .int))
theorem mrX5_order : MRv mX5_order 1 := ⟨⟨gT_mem (tb4 184 rfl) rfl, gT_mem (tb1 6 rfl) rfl, (by decide +kernel), Nat.le_of_ble_eq_true rfl, (by decide +kernel)⟩, gT_mem (tb4 182 rfl) rfl, gT_mem (tb4 183 rfl) rfl⟩
abbrev mX5_kind : Mt := (yX5_kind, cX5_kind, 3, (some .int))
theorem mrX5_kind : MRv mX5_kind 2 := ⟨⟨gT_mem (tb4 188 rfl) rfl, gT_mem (tb1 6 rfl) rfl, (by decide +kernel), Nat.le_of_ble_eq_true rfl, (by decide +kernel)⟩, gT_mem (tb4 186 rfl) rfl, gT_mem (tb4 187 rfl) rfl⟩
abbrev mX5_least : Mt := (yX5_least, cX5_least, 6, (some .int))
theorem mrX5_least : MRv mX5_least 2 := ⟨⟨gT_mem (tb4 192 rfl) rfl, gT_mem (tb1 6 rfl) rfl, (by decide +kernel), Nat.le_of_ble_eq_true rfl, (by decide +kernel)⟩, gT_mem (tb4 190 rfl) rfl, gT_mem (tb4 191 rfl) rfl⟩
abbrev mX5_clear : Mt := (yX5_clear, cX5_clear, 7, (some .int))
theorem mrX5_clear : MRv mX5_clear 1 := ⟨⟨gT_mem (tb4 197 rfl) rfl, gT_mem (tb1 6 rfl) rfl, (by decide +kernel), Nat.le_of_ble_eq_true rfl, (by decide +kernel)⟩, gT_mem (tb4 195 rfl) rfl, gT_mem (tb4 196 rfl) rfl⟩
abbrev mX5_nerve : Mt := (yX5_nerve, cX5_nerve, 8, (some .int))
theorem mrX5_nerve : MRv mX5_nerve 2 := ⟨⟨gT_mem (tb4 202 rfl) rfl, gT_mem (tb1 6 rfl) rfl, (by decide +kernel), Nat.le_of_ble_eq_true rfl, (by decide +kernel)⟩, gT_mem (tb4 200 rfl) rfl, gT_mem (tb4 201 rfl) rfl⟩
abbrev mX5_worst : Mt := (yX5_worst, cX5_worst, 4, (some .int))
theorem mrX5_worst : MRv mX5_worst 1 := ⟨⟨gT_mem (tb4 206 rfl) rfl, gT_mem (tb1 6 rfl) rfl, (by decide +kernel), Nat.le_of_ble_eq_true rfl, (by decide +kernel)⟩, gT_mem (tb4 204 rfl) rfl, gT_mem (tb4 205 rfl) rfl⟩
abbrev mX5_feed : Mt := (yX5_feed, cX5_feed, 4, (some .int))
theorem mrX5_feed : MRv mX5_feed 2 := ⟨⟨gT_mem (tb4 210 rfl) rfl, gT_mem (tb1 6 rfl) rfl, (by decide +kernel), Nat.le_of_ble_eq_true rfl, (by decide +kernel)⟩, gT_mem (tb4 208 rfl) rfl, gT_mem (tb4 209 rfl) rfl⟩
abbrev mX5_wipe : Mt := (yX5_wipe, cX5_wipe, 2, (some .int))
theorem mrX5_wipe : MRv mX5_wipe 0 := ⟨⟨gT_mem (tb4 214 rfl) rfl, gT_mem (tb1 6 rfl) rfl, (by decide +kernel), Nat.le_of_ble_eq_true rfl, (by decide +kernel)⟩, gT_mem (tb4 212 rfl) rfl, gT_mem (tb4 213 rfl) rfl⟩
abbrev mX5_byteAt : Mt := (yX5_byteAt, cX5_byteAt, 2, (some .int))
theorem mrX5_byteAt : MRv mX5_byteAt 1 := ⟨⟨gT_mem (tb4 230 rfl) rfl, gT_mem (tb1 6 rfl) rfl, (by decide +kernel), Nat.le_of_ble_eq_true rfl, (by decide +kernel)⟩, gT_mem (tb4 229 rfl) rfl, gT_sel (List.mem_of_getElem? (i := 76) rfl) rfl⟩
abbrev mX5_isLetter : Mt := (yX5_isLetter, cX5_isLetter, 1, (some .boolean))
theorem mrX5_isLetter : MRs mX5_isLetter 1 := ⟨⟨gT_mem (tb4 233 rfl) rfl, gT_mem (tb1 6 rfl) rfl, (by decide +kernel), Nat.le_of_ble_eq_true rfl, (by decide +kernel)⟩, gT_mem (tb4 232 rfl) rfl⟩
abbrev mX5_isDigit : Mt := (yX5_isDigit, cX5_isDigit, 1, (some .boolean))
theorem mrX5_isDigit : MRs mX5_isDigit 1 := ⟨⟨gT_mem (tb4 238 rfl) rfl, gT_mem (tb1 6 rfl) rfl, (by decide +kernel), Nat.le_of_ble_eq_true rfl, (by decide +kernel)⟩, gT_mem (tb4 237 rfl) rfl⟩
abbrev mX5_token : Mt := (yX5_token, cX5_token, 3, none)
theorem mrX5_token : MRv mX5_token 0 := ⟨⟨gT_mem (tb4 226 rfl) rfl, gT_mem (tb1 6 rfl) rfl, (by decide +kernel), Nat.le_of_ble_eq_true rfl, (by decide +kernel)⟩, gT_mem (tb4 225 rfl) rfl, gT_sel (List.mem_of_getElem? (i := 75) rfl) rfl⟩
abbrev mX5_must : Mt := (yX5_must, cX5_must, 2, none)
theorem mrX5_must : MRv mX5_must 1 := ⟨⟨gT_mem (tb5 28 rfl) rfl, gT_mem (tb1 6 rfl) rfl, (by decide +kernel), Nat.le_of_ble_eq_true rfl, (by decide +kernel)⟩, gT_mem (tb5 27 rfl) rfl, gT_sel (List.mem_of_getElem? (i := 81) rfl) rfl⟩
abbrev mX5_word : Mt := (yX5_word, cX5_word, 4, (some .long))
theorem mrX5_word : MRv mX5_word 0 := ⟨⟨gT_mem (tb5 12 rfl) rfl, gT_mem (tb1 6 rfl) rfl, (by decide +kernel), Nat.le_of_ble_eq_true rfl, (by decide +kernel)⟩, gT_mem (tb5 11 rfl) rfl, gT_sel (List.mem_of_getElem? (i := 79) rfl) rfl⟩
abbrev mX5_number : Mt := (yX5_number, cX5_number, 6, none)
theorem mrX5_number : MRv mX5_number 2 := ⟨⟨gT_mem (tb5 33 rfl) rfl, gT_mem (tb1 6 rfl) rfl, (by decide +kernel), Nat.le_of_ble_eq_true rfl, (by decide +kernel)⟩, gT_mem (tb5 32 rfl) rfl, gT_sel (List.mem_of_getElem? (i := 82) rfl) rfl⟩
abbrev mX5_kindHere : Mt := (yX5_kindHere, cX5_kindHere, 3, (some .int))
theorem mrX5_kindHere : MRv mX5_kindHere 0 := ⟨⟨gT_mem (tb5 8 rfl) rfl, gT_mem (tb1 6 rfl) rfl, (by decide +kernel), Nat.le_of_ble_eq_true rfl, (by decide +kernel)⟩, gT_mem (tb5 7 rfl) rfl, gT_sel (List.mem_of_getElem? (i := 78) rfl) rfl⟩
abbrev mX5_walkerItem : Mt := (yX5_walkerItem, cX5_walkerItem, 3, none)
theorem mrX5_walkerItem : MRv mX5_walkerItem 1 := ⟨⟨gT_mem (tb5 24 rfl) rfl, gT_mem (tb1 6 rfl) rfl, (by decide +kernel), Nat.le_of_ble_eq_true rfl, (by decide +kernel)⟩, gT_mem (tb5 23 rfl) rfl, gT_sel (List.mem_of_getElem? (i := 80) rfl) rfl⟩
abbrev mX5_rootItem : Mt := (yX5_rootItem, cX5_rootItem, 3, none)
theorem mrX5_rootItem : MRv mX5_rootItem 1 := ⟨⟨gT_mem (tb5 39 rfl) rfl, gT_mem (tb1 6 rfl) rfl, (by decide +kernel), Nat.le_of_ble_eq_true rfl, (by decide +kernel)⟩, gT_mem (tb5 38 rfl) rfl, gT_sel (List.mem_of_getElem? (i := 83) rfl) rfl⟩
abbrev mX5_toldItem : Mt := (yX5_toldItem, cX5_toldItem, 3, none)
theorem mrX5_toldItem : MRv mX5_toldItem 2 := ⟨⟨gT_mem (tb5 44 rfl) rfl, gT_mem (tb1 6 rfl) rfl, (by decide +kernel), Nat.le_of_ble_eq_true rfl, (by decide +kernel)⟩, gT_mem (tb5 43 rfl) rfl, gT_sel (List.mem_of_getElem? (i := 84) rfl) rfl⟩
abbrev mX5_numberHere : Mt := (yX5_numberHere, cX5_numberHere, 3, (some .int))
theorem mrX5_numberHere : MRv mX5_numberHere 0 := ⟨⟨gT_mem (tb5 54 rfl) rfl, gT_mem (tb1 6 rfl) rfl, (by decide +kernel), Nat.le_of_ble_eq_true rfl, (by decide +kernel)⟩, gT_mem (tb5 53 rfl) rfl, gT_sel (List.mem_of_getElem? (i := 86) rfl) rfl⟩
abbrev mX5_swapItem : Mt := (yX5_swapItem, cX5_swapItem, 3, none)
theorem mrX5_swapItem : MRv mX5_swapItem 0 := ⟨⟨gT_mem (tb5 50 rfl) rfl, gT_mem (tb1 6 rfl) rfl, (by decide +kernel), Nat.le_of_ble_eq_true rfl, (by decide +kernel)⟩, gT_mem (tb5 49 rfl) rfl, gT_sel (List.mem_of_getElem? (i := 85) rfl) rfl⟩
abbrev mX5_item : Mt := (yX5_item, cX5_item, 4, none)
theorem mrX5_item : MRv mX5_item 0 := ⟨⟨gT_mem (tb5 4 rfl) rfl, gT_mem (tb1 6 rfl) rfl, (by decide +kernel), Nat.le_of_ble_eq_true rfl, (by decide +kernel)⟩, gT_mem (tb5 3 rfl) rfl, gT_sel (List.mem_of_getElem? (i := 77) rfl) rfl⟩
abbrev mX5_night : Mt := (yX5_night, cX5_night, 2, (some .int))
theorem mrX5_night : MRv mX5_night 0 := ⟨⟨gT_mem (tb4 218 rfl) rfl, gT_mem (tb1 6 rfl) rfl, (by decide +kernel), Nat.le_of_ble_eq_true rfl, (by decide +kernel)⟩, gT_mem (tb4 216 rfl) rfl, gT_mem (tb4 217 rfl) rfl⟩
abbrev mX5_isOne : Mt := (yX5_isOne, cX5_isOne, 1, (some .boolean))
theorem mrX5_isOne : MRs mX5_isOne 1 := ⟨⟨gT_mem (tb5 65 rfl) rfl, gT_mem (tb1 6 rfl) rfl, (by decide +kernel), Nat.le_of_ble_eq_true rfl, (by decide +kernel)⟩, gT_mem (tb5 64 rfl) rfl⟩
abbrev mX5_sheet : Mt := (yX5_sheet, cX5_sheet, 5, (some .int))
theorem mrX5_sheet : MRv mX5_sheet 3 := ⟨⟨gT_mem (tb5 62 rfl) rfl, gT_mem (tb1 6 rfl) rfl, (by decide +kernel), Nat.le_of_ble_eq_true rfl, (by decide +kernel)⟩, gT_mem (tb5 60 rfl) rfl, gT_mem (tb5 61 rfl) rfl⟩
abbrev mX5_narrowed : Mt := (yX5_narrowed, cX5_narrowed, 3, (some .long))
theorem mrX5_narrowed : MRs mX5_narrowed 2 := ⟨⟨gT_mem (tb5 79 rfl) rfl, gT_mem (tb1 6 rfl) rfl, (by decide +kernel), Nat.le_of_ble_eq_true rfl, (by decide +kernel)⟩, gT_mem (tb5 78 rfl) rfl⟩
abbrev mX5_wrongSheet : Mt := (yX5_wrongSheet, cX5_wrongSheet, 2, (some .int))
theorem mrX5_wrongSheet : MRv mX5_wrongSheet 1 := ⟨⟨gT_mem (tb5 75 rfl) rfl, gT_mem (tb1 6 rfl) rfl, (by decide +kernel), Nat.le_of_ble_eq_true rfl, (by decide +kernel)⟩, gT_mem (tb5 74 rfl) rfl, gT_sel (List.mem_of_getElem? (i := 88) rfl) rfl⟩
abbrev mX5_write : Mt := (yX5_write, cX5_write, 8, (some .long))
theorem mrX5_write : MRv mX5_write 3 := ⟨⟨gT_mem (tb5 71 rfl) rfl, gT_mem (tb1 6 rfl) rfl, (by decide +kernel), Nat.le_of_ble_eq_true rfl, (by decide +kernel)⟩, gT_mem (tb5 69 rfl) rfl, gT_mem (tb5 70 rfl) rfl⟩
abbrev mX5_copy : Mt := (yX5_copy, cX5_copy, 7, (some .int))
theorem mrX5_copy : MRv mX5_copy 5 := ⟨⟨gT_mem (tb5 83 rfl) rfl, gT_mem (tb1 6 rfl) rfl, (by decide +kernel), Nat.le_of_ble_eq_true rfl, (by decide +kernel)⟩, gT_mem (tb5 81 rfl) rfl, gT_mem (tb5 82 rfl) rfl⟩
abbrev mX5_lays : Mt := (yX5_lays, cX5_lays, 6, (some .int))
theorem mrX5_lays : MRv mX5_lays 1 := ⟨⟨gT_mem (tb5 87 rfl) rfl, gT_mem (tb1 6 rfl) rfl, (by decide +kernel), Nat.le_of_ble_eq_true rfl, (by decide +kernel)⟩, gT_mem (tb5 85 rfl) rfl, gT_mem (tb5 86 rfl) rfl⟩
abbrev mX5_book : Mt := (yX5_book, cX5_book, 5, (some .int))
theorem mrX5_book : MRv mX5_book 2 := ⟨⟨gT_mem (tb5 91 rfl) rfl, gT_mem (tb1 6 rfl) rfl, (by decide +kernel), Nat.le_of_ble_eq_true rfl, (by decide +kernel)⟩, gT_mem (tb5 89 rfl) rfl, gT_mem (tb5 90 rfl) rfl⟩
abbrev mX5_isBook : Mt := (yX5_isBook, cX5_isBook, 4, (some .boolean))
theorem mrX5_isBook : MRv mX5_isBook 2 := ⟨⟨gT_mem (tb5 99 rfl) rfl, gT_mem (tb1 6 rfl) rfl, (by decide +kernel), Nat.le_of_ble_eq_true rfl, (by decide +kernel)⟩, gT_mem (tb5 98 rfl) rfl, gT_sel (List.mem_of_getElem? (i := 89) rfl) rfl⟩
abbrev mX5_read : Mt := (yX5_read, cX5_read, 6, (some .int))
theorem mrX5_read : MRv mX5_read 2 := ⟨⟨gT_mem (tb5 95 rfl) rfl, gT_mem (tb1 6 rfl) rfl, (by decide +kernel), Nat.le_of_ble_eq_true rfl, (by decide +kernel)⟩, gT_mem (tb5 93 rfl) rfl, gT_mem (tb5 94 rfl) rfl⟩
abbrev mX5_image : Mt := (yX5_image, cX5_image, 2, (some .int))
theorem mrX5_image : MRv mX5_image 0 := ⟨⟨gT_mem (tb5 103 rfl) rfl, gT_mem (tb1 6 rfl) rfl, (by decide +kernel), Nat.le_of_ble_eq_true rfl, (by decide +kernel)⟩, gT_mem (tb5 101 rfl) rfl, gT_mem (tb5 102 rfl) rfl⟩
abbrev mX5_undo : Mt := (yX5_undo, cX5_undo, 2, (some .int))
theorem mrX5_undo : MRv mX5_undo 0 := ⟨⟨gT_mem (tb5 107 rfl) rfl, gT_mem (tb1 6 rfl) rfl, (by decide +kernel), Nat.le_of_ble_eq_true rfl, (by decide +kernel)⟩, gT_mem (tb5 105 rfl) rfl, gT_mem (tb5 106 rfl) rfl⟩
abbrev mX5_tear : Mt := (yX5_tear, cX5_tear, 2, (some .int))
theorem mrX5_tear : MRv mX5_tear 0 := ⟨⟨gT_mem (tb5 111 rfl) rfl, gT_mem (tb1 6 rfl) rfl, (by decide +kernel), Nat.le_of_ble_eq_true rfl, (by decide +kernel)⟩, gT_mem (tb5 109 rfl) rfl, gT_mem (tb5 110 rfl) rfl⟩
abbrev mX5_rootsMany : Mt := (yX5_rootsMany, cX5_rootsMany, 3, (some .int))
theorem mrX5_rootsMany : MRv mX5_rootsMany 0 := ⟨⟨gT_mem (tb5 119 rfl) rfl, gT_mem (tb1 6 rfl) rfl, (by decide +kernel), Nat.le_of_ble_eq_true rfl, (by decide +kernel)⟩, gT_mem (tb5 118 rfl) rfl, gT_sel (List.mem_of_getElem? (i := 90) rfl) rfl⟩
abbrev mX5_count : Mt := (yX5_count, cX5_count, 2, (some .int))
theorem mrX5_count : MRv mX5_count 1 := ⟨⟨gT_mem (tb5 115 rfl) rfl, gT_mem (tb1 6 rfl) rfl, (by decide +kernel), Nat.le_of_ble_eq_true rfl, (by decide +kernel)⟩, gT_mem (tb5 113 rfl) rfl, gT_mem (tb5 114 rfl) rfl⟩
abbrev mX5_status : Mt := (yX5_status, cX5_status, 4, (some .int))
theorem mrX5_status : MRv mX5_status 1 := ⟨⟨gT_mem (tb5 123 rfl) rfl, gT_mem (tb1 6 rfl) rfl, (by decide +kernel), Nat.le_of_ble_eq_true rfl, (by decide +kernel)⟩, gT_mem (tb5 121 rfl) rfl, gT_mem (tb5 122 rfl) rfl⟩
abbrev mJ6_bitCount_0f7a4 : Mt := (yJ6_bitCount_0f7a4, cJ6_bitCount_0f7a4, 1, (some .int))
theorem mrJ6_bitCount_0f7a4 : MRs mJ6_bitCount_0f7a4 1 := ⟨⟨gT_mem (tb3 148 rfl) rfl, gT_mem (tb1 13 rfl) rfl, (by decide +kernel), Nat.le_of_ble_eq_true rfl, (by decide +kernel)⟩, gT_mem (tb3 147 rfl) rfl⟩
abbrev mJ9_floorMod_7cf53 : Mt := (yJ9_floorMod_7cf53, cJ9_floorMod_7cf53, 3, (some .int))
theorem mrJ9_floorMod_7cf53 : MRs mJ9_floorMod_7cf53 2 := ⟨⟨gT_mem (tb1 206 rfl) rfl, gT_mem (tb1 7 rfl) rfl, (by decide +kernel), Nat.le_of_ble_eq_true rfl, (by decide +kernel)⟩, gT_mem (tb1 205 rfl) rfl⟩
abbrev mJ9_abs_0f7a4 : Mt := (yJ9_abs_0f7a4, cJ9_abs_0f7a4, 1, (some .int))
theorem mrJ9_abs_0f7a4 : MRs mJ9_abs_0f7a4 1 := ⟨⟨gT_mem (tb2 12 rfl) rfl, gT_mem (tb1 7 rfl) rfl, (by decide +kernel), Nat.le_of_ble_eq_true rfl, (by decide +kernel)⟩, gT_mem (tb2 11 rfl) rfl⟩
abbrev mJ9_max_7cf53 : Mt := (yJ9_max_7cf53, cJ9_max_7cf53, 2, (some .int))
theorem mrJ9_max_7cf53 : MRs mJ9_max_7cf53 2 := ⟨⟨gT_mem (tb2 81 rfl) rfl, gT_mem (tb1 7 rfl) rfl, (by decide +kernel), Nat.le_of_ble_eq_true rfl, (by decide +kernel)⟩, gT_mem (tb2 80 rfl) rfl⟩
abbrev mJ9_min_7cf53 : Mt := (yJ9_min_7cf53, cJ9_min_7cf53, 2, (some .int))
theorem mrJ9_min_7cf53 : MRs mJ9_min_7cf53 2 := ⟨⟨gT_mem (tb2 78 rfl) rfl, gT_mem (tb1 7 rfl) rfl, (by decide +kernel), Nat.le_of_ble_eq_true rfl, (by decide +kernel)⟩, gT_mem (tb2 77 rfl) rfl⟩
abbrev mJ0_length_8abf5 : Mt := (yJ0_length_8abf5, cJ0_length_8abf5, 1, (some .int))
theorem mrJ0_length_8abf5 : MRv mJ0_length_8abf5 0 := ⟨⟨gT_mem (tb2 227 rfl) rfl, gT_mem (tb1 8 rfl) rfl, (by decide +kernel), Nat.le_of_ble_eq_true rfl, (by decide +kernel)⟩, gT_mem (tb2 225 rfl) rfl, gT_mem (tb2 226 rfl) rfl⟩
abbrev mJ0_charAt_5068e : Mt := (yJ0_charAt_5068e, cJ0_charAt_5068e, 2, (some .char))
theorem mrJ0_charAt_5068e : MRv mJ0_charAt_5068e 1 := ⟨⟨gT_mem (tb2 237 rfl) rfl, gT_mem (tb1 8 rfl) rfl, (by decide +kernel), Nat.le_of_ble_eq_true rfl, (by decide +kernel)⟩, gT_mem (tb2 235 rfl) rfl, gT_mem (tb2 236 rfl) rfl⟩
abbrev mJ0_coder_7d493 : Mt := (yJ0_coder_7d493, cJ0_coder_7d493, 1, (some .byte))
theorem mrJ0_coder_7d493 : MRv mJ0_coder_7d493 0 := ⟨⟨gT_mem (tb2 231 rfl) rfl, gT_mem (tb1 8 rfl) rfl, (by decide +kernel), Nat.le_of_ble_eq_true rfl, (by decide +kernel)⟩, gT_mem (tb2 229 rfl) rfl, gT_mem (tb2 230 rfl) rfl⟩
abbrev mJ0_isLatin1_aae02 : Mt := (yJ0_isLatin1_aae02, cJ0_isLatin1_aae02, 1, (some .boolean))
theorem mrJ0_isLatin1_aae02 : MRv mJ0_isLatin1_aae02 0 := ⟨⟨gT_mem (tb3 1 rfl) rfl, gT_mem (tb1 8 rfl) rfl, (by decide +kernel), Nat.le_of_ble_eq_true rfl, (by decide +kernel)⟩, gT_mem (tb2 239 rfl) rfl, gT_mem (tb3 0 rfl) rfl⟩
abbrev mJ0_checkIndex_df160 : Mt := (yJ0_checkIndex_df160, cJ0_checkIndex_df160, 2, none)
theorem mrJ0_checkIndex_df160 : MRs mJ0_checkIndex_df160 2 := ⟨⟨gT_mem (tb3 7 rfl) rfl, gT_mem (tb1 8 rfl) rfl, (by decide +kernel), Nat.le_of_ble_eq_true rfl, (by decide +kernel)⟩, gT_mem (tb3 6 rfl) rfl⟩
abbrev mJ1_charAt_3b067 : Mt := (yJ1_charAt_3b067, cJ1_charAt_3b067, 2, (some .char))
theorem mrJ1_charAt_3b067 : MRs mJ1_charAt_3b067 2 := ⟨⟨gT_mem (tb3 4 rfl) rfl, gT_mem (tb1 9 rfl) rfl, (by decide +kernel), Nat.le_of_ble_eq_true rfl, (by decide +kernel)⟩, gT_mem (tb3 3 rfl) rfl⟩
abbrev mJ2_getChar_3b067 : Mt := (yJ2_getChar_3b067, cJ2_getChar_3b067, 2, (some .char))
theorem mrJ2_getChar_3b067 : MRs mJ2_getChar_3b067 2 := ⟨⟨gT_mem (tb3 25 rfl) rfl, gT_mem (tb1 11 rfl) rfl, (by decide +kernel), Nat.le_of_ble_eq_true rfl, (by decide +kernel)⟩, gT_mem (tb3 24 rfl) rfl⟩
abbrev mJ2_length_9d52b : Mt := (yJ2_length_9d52b, cJ2_length_9d52b, 1, (some .int))
theorem mrJ2_length_9d52b : MRs mJ2_length_9d52b 1 := ⟨⟨gT_mem (tb3 21 rfl) rfl, gT_mem (tb1 11 rfl) rfl, (by decide +kernel), Nat.le_of_ble_eq_true rfl, (by decide +kernel)⟩, gT_mem (tb3 20 rfl) rfl⟩
abbrev mJ2_charAt_3b067 : Mt := (yJ2_charAt_3b067, cJ2_charAt_3b067, 2, (some .char))
theorem mrJ2_charAt_3b067 : MRs mJ2_charAt_3b067 2 := ⟨⟨gT_mem (tb3 15 rfl) rfl, gT_mem (tb1 11 rfl) rfl, (by decide +kernel), Nat.le_of_ble_eq_true rfl, (by decide +kernel)⟩, gT_mem (tb3 14 rfl) rfl⟩
abbrev mJ2_checkIndex_2214a : Mt := (yJ2_checkIndex_2214a, cJ2_checkIndex_2214a, 2, none)
theorem mrJ2_checkIndex_2214a : MRs mJ2_checkIndex_2214a 2 := ⟨⟨gT_mem (tb3 18 rfl) rfl, gT_mem (tb1 11 rfl) rfl, (by decide +kernel), Nat.le_of_ble_eq_true rfl, (by decide +kernel)⟩, gT_mem (tb3 17 rfl) rfl⟩
abbrev mJ3_checkIndex_8e157 : Mt := (yJ3_checkIndex_8e157, cJ3_checkIndex_8e157, 3, (some .int))
theorem mrJ3_checkIndex_8e157 : MRs mJ3_checkIndex_8e157 3 := ⟨⟨gT_mem (tb3 12 rfl) rfl, gT_mem (tb1 10 rfl) rfl, (by decide +kernel), Nat.le_of_ble_eq_true rfl, (by decide +kernel)⟩, gT_mem (tb3 11 rfl) rfl⟩
abbrev mL_law : Mt := (yL_law, cL_law, 4, (some .boolean))
theorem pfX0_15 : POK RX0 15 0 3 .int := ⟨RX0, TX0, 5, tyX0, rfl, Nat.le_of_ble_eq_true rfl, inGX0, Or.inl (gT_mem (tb1 100 rfl) rfl), rfl, (by decide +kernel), tyX0_ok, nmX0⟩
theorem lkX0_19 : LKm RX0 19 yX0_next := Or.inl (gT_mem (tb2 177 rfl) rfl)
theorem lkX0_22 : LKm RX0 22 yX0_item := Or.inl (gT_mem (tb3 32 rfl) rfl)
theorem gfX0_26 : GOK RX0 26 0 2 := ⟨RX0, TX0, 5, rfl, Nat.le_of_ble_eq_true rfl, inGX0, Or.inl (gT_mem (tb1 99 rfl) rfl)⟩
theorem gfX0_29 : GOK RX0 29 0 1 := ⟨RX0, TX0, 5, rfl, Nat.le_of_ble_eq_true rfl, inGX0, Or.inl (gT_mem (tb1 98 rfl) rfl)⟩
theorem lkX0_32 : LKm RX0 32 yX4_isKind := Or.inr ⟨"OneLantern", nT_mem (tb3 36 rfl) rfl⟩
theorem lkX0_36 : LKm RX0 36 yX0_kindItem := Or.inl (gT_mem (tb3 37 rfl) rfl)
theorem lkX0_39 : LKm RX0 39 yX0_rootItem := Or.inl (gT_mem (tb3 47 rfl) rfl)
theorem lkX0_43 : LKm RX0 43 yX0_lanternItem := Or.inl (gT_mem (tb3 52 rfl) rfl)
theorem lkX0_46 : LKm RX0 46 yX0_brightItem := Or.inl (gT_mem (tb3 56 rfl) rfl)
theorem lkX0_49 : LKm RX0 49 yX0_swapItem := Or.inl (gT_mem (tb3 60 rfl) rfl)
theorem lkX0_52 : LKm RX0 52 yX1_isFull := Or.inr ⟨"OneLantern", nT_mem (tb3 41 rfl) rfl⟩
theorem lkX0_58 : LKm RX0 58 yX1_add := Or.inr ⟨"OneLantern", nT_mem (tb3 42 rfl) rfl⟩
theorem lkX0_62 : LKm RX0 62 yX0_nextIsNumber := Or.inl (gT_mem (tb3 43 rfl) rfl)
theorem gfX0_65 : GOK RX0 65 1 8 := ⟨RX1, TX1, 10, rfl, Nat.le_of_ble_eq_true rfl, inGX1, Or.inr ⟨"OneLantern", nT_mem (tb1 49 rfl) rfl⟩⟩
theorem gfX0_69 : GOK RX0 69 1 4 := ⟨RX1, TX1, 10, rfl, Nat.le_of_ble_eq_true rfl, inGX1, Or.inr ⟨"OneLantern", nT_mem (tb1 40 rfl) rfl⟩⟩
theorem gfX0_72 : GOK RX0 72 0 4 := ⟨RX0, TX0, 5, rfl, Nat.le_of_ble_eq_true rfl, inGX0, Or.inl (gT_mem (tb1 101 rfl) rfl)⟩
theorem lkX0_75 : LKm RX0 75 yX1_setRoot := Or.inr ⟨"OneLantern", nT_mem (tb3 51 rfl) rfl⟩
theorem pfX0_79 : POK RX0 79 1 2 .int := ⟨RX1, TX1, 10, tyX1, rfl, Nat.le_of_ble_eq_true rfl, inGX1, Or.inr ⟨"OneLantern", nT_mem (tb1 35 rfl) rfl⟩, rfl, (by decide +kernel), tyX1_ok, nmX1⟩
theorem pfX0_82 : POK RX0 82 1 3 .int := ⟨RX1, TX1, 10, tyX1, rfl, Nat.le_of_ble_eq_true rfl, inGX1, Or.inr ⟨"OneLantern", nT_mem (tb1 38 rfl) rfl⟩, rfl, (by decide +kernel), tyX1_ok, nmX1⟩
theorem lkX0_85 : LKm RX0 85 yX1_exchange := Or.inr ⟨"OneLantern", nT_mem (tb3 64 rfl) rfl⟩
theorem lkX0_89 : LKm RX0 89 yX0_behindBlanks := Or.inl (gT_mem (tb2 181 rfl) rfl)
theorem pfX0_26 : POK RX0 26 0 2 .int := ⟨RX0, TX0, 5, tyX0, rfl, Nat.le_of_ble_eq_true rfl, inGX0, Or.inl (gT_mem (tb1 99 rfl) rfl), rfl, (by decide +kernel), tyX0_ok, nmX0⟩
theorem gfX0_9 : GOK RX0 9 0 0 := ⟨RX0, TX0, 5, rfl, Nat.le_of_ble_eq_true rfl, inGX0, Or.inl (gT_mem (tb1 97 rfl) rfl)⟩
theorem lkX0_93 : LKm RX0 93 yX3_at := Or.inr ⟨"OneLantern", nT_mem (tb2 185 rfl) rfl⟩
theorem lkX0_99 : LKm RX0 99 yX0_isDigit := Or.inl (gT_mem (tb2 190 rfl) rfl)
theorem lkX0_102 : LKm RX0 102 yX0_takeNumber := Or.inl (gT_mem (tb2 193 rfl) rfl)
theorem gfX0_105 : GOK RX0 105 3 1 := ⟨RX3, TX3, 2, rfl, Nat.le_of_ble_eq_true rfl, inGX3, Or.inr ⟨"OneLantern", nT_mem (tb1 83 rfl) rfl⟩⟩
theorem pfX0_29 : POK RX0 29 0 1 .int := ⟨RX0, TX0, 5, tyX0, rfl, Nat.le_of_ble_eq_true rfl, inGX0, Or.inl (gT_mem (tb1 98 rfl) rfl), rfl, (by decide +kernel), tyX0_ok, nmX0⟩
theorem lkX0_108 : LKm RX0 108 yX0_isLetter := Or.inl (gT_mem (tb2 197 rfl) rfl)
theorem lkX0_111 : LKm RX0 111 yX0_takeWord := Or.inl (gT_mem (tb2 200 rfl) rfl)
theorem gfX0_15 : GOK RX0 15 0 3 := ⟨RX0, TX0, 5, rfl, Nat.le_of_ble_eq_true rfl, inGX0, Or.inl (gT_mem (tb1 100 rfl) rfl)⟩
theorem lkX0_114 : LKm RX0 114 yJ9_min_7cf53 := Or.inl (gT_mem (tb2 189 rfl) rfl)
theorem pfX0_72 : POK RX0 72 0 4 .int := ⟨RX0, TX0, 5, tyX0, rfl, Nat.le_of_ble_eq_true rfl, inGX0, Or.inl (gT_mem (tb1 101 rfl) rfl), rfl, (by decide +kernel), tyX0_ok, nmX0⟩
theorem lkX0_120 : LKm RX0 120 yX0_textOf := Or.inl (gT_mem (tb2 204 rfl) rfl)
theorem lkX0_124 : LKm RX0 124 yX0_isWord := Or.inl (gT_mem (tb2 220 rfl) rfl)
theorem lkX0_128 : LKm RX0 128 yJ0_length_8abf5 := Or.inl (gT_mem (tb2 224 rfl) rfl)
theorem lkX0_132 : LKm RX0 132 yJ0_charAt_5068e := Or.inl (gT_mem (tb2 234 rfl) rfl)
theorem kX1_9 : Cond.constant RX1 9 (16909320) ∈ gT := gT_mem (tb1 28 rfl) rfl
theorem pfX1_10 : POK RX1 10 1 1 .int := ⟨RX1, TX1, 10, tyX1, rfl, Nat.le_of_ble_eq_true rfl, inGX1, Or.inl (gT_mem (tb1 31 rfl) rfl), rfl, (by decide +kernel), tyX1_ok, nmX1⟩
theorem pfX1_16 : POK RX1 16 1 3 .int := ⟨RX1, TX1, 10, tyX1, rfl, Nat.le_of_ble_eq_true rfl, inGX1, Or.inl (gT_mem (tb1 36 rfl) rfl), rfl, (by decide +kernel), tyX1_ok, nmX1⟩
theorem gfX1_32 : GOK RX1 32 1 0 := ⟨RX1, TX1, 10, rfl, Nat.le_of_ble_eq_true rfl, inGX1, Or.inl (gT_mem (tb1 29 rfl) rfl)⟩
theorem pfX1_32 : POK RX1 32 1 0 .int := ⟨RX1, TX1, 10, tyX1, rfl, Nat.le_of_ble_eq_true rfl, inGX1, Or.inl (gT_mem (tb1 29 rfl) rfl), rfl, (by decide +kernel), tyX1_ok, nmX1⟩
theorem gfX1_10 : GOK RX1 10 1 1 := ⟨RX1, TX1, 10, rfl, Nat.le_of_ble_eq_true rfl, inGX1, Or.inl (gT_mem (tb1 31 rfl) rfl)⟩
theorem gfX1_35 : GOK RX1 35 1 2 := ⟨RX1, TX1, 10, rfl, Nat.le_of_ble_eq_true rfl, inGX1, Or.inl (gT_mem (tb1 33 rfl) rfl)⟩
theorem pfX1_35 : POK RX1 35 1 2 .int := ⟨RX1, TX1, 10, tyX1, rfl, Nat.le_of_ble_eq_true rfl, inGX1, Or.inl (gT_mem (tb1 33 rfl) rfl), rfl, (by decide +kernel), tyX1_ok, nmX1⟩
theorem gfX1_16 : GOK RX1 16 1 3 := ⟨RX1, TX1, 10, rfl, Nat.le_of_ble_eq_true rfl, inGX1, Or.inl (gT_mem (tb1 36 rfl) rfl)⟩
theorem gfX1_38 : GOK RX1 38 1 4 := ⟨RX1, TX1, 10, rfl, Nat.le_of_ble_eq_true rfl, inGX1, Or.inl (gT_mem (tb1 39 rfl) rfl)⟩
theorem pfX1_38 : POK RX1 38 1 4 .int := ⟨RX1, TX1, 10, tyX1, rfl, Nat.le_of_ble_eq_true rfl, inGX1, Or.inl (gT_mem (tb1 39 rfl) rfl), rfl, (by decide +kernel), tyX1_ok, nmX1⟩
theorem gfX1_19 : GOK RX1 19 1 5 := ⟨RX1, TX1, 10, rfl, Nat.le_of_ble_eq_true rfl, inGX1, Or.inl (gT_mem (tb1 42 rfl) rfl)⟩
theorem gfX1_23 : GOK RX1 23 1 6 := ⟨RX1, TX1, 10, rfl, Nat.le_of_ble_eq_true rfl, inGX1, Or.inl (gT_mem (tb1 44 rfl) rfl)⟩
theorem gfX1_26 : GOK RX1 26 1 7 := ⟨RX1, TX1, 10, rfl, Nat.le_of_ble_eq_true rfl, inGX1, Or.inl (gT_mem (tb1 46 rfl) rfl)⟩
theorem gfX1_29 : GOK RX1 29 1 8 := ⟨RX1, TX1, 10, rfl, Nat.le_of_ble_eq_true rfl, inGX1, Or.inl (gT_mem (tb1 48 rfl) rfl)⟩
theorem lkX1_41 : LKm RX1 41 yX1_isFull := Or.inl (gT_mem (tb1 234 rfl) rfl)
theorem lkX1_45 : LKm RX1 45 yX1_has := Or.inl (gT_mem (tb1 192 rfl) rfl)
theorem lkX1_49 : LKm RX1 49 yX1_exchangeIn := Or.inl (gT_mem (tb2 34 rfl) rfl)
theorem lkX1_53 : LKm RX1 53 yJ9_floorMod_7cf53 := Or.inl (gT_mem (tb1 204 rfl) rfl)
theorem lkX1_59 : LKm RX1 59 yX4_shadeOf := Or.inr ⟨"OneLantern", nT_mem (tb1 193 rfl) rfl⟩
theorem lkX1_63 : LKm RX1 63 yX1_paceOf := Or.inl (gT_mem (tb1 200 rfl) rfl)
theorem lkX1_66 : LKm RX1 66 yX4_isIn := Or.inr ⟨"OneLantern", nT_mem (tb1 207 rfl) rfl⟩
theorem lkX1_70 : LKm RX1 70 yX1_litSet := Or.inl (gT_mem (tb2 5 rfl) rfl)
theorem lkX1_74 : LKm RX1 74 yX1_sees := Or.inl (gT_mem (tb2 6 rfl) rfl)
theorem lkX1_78 : LKm RX1 78 yJ9_abs_0f7a4 := Or.inl (gT_mem (tb2 10 rfl) rfl)
theorem gfX1_81 : GOK RX1 81 1 9 := ⟨RX1, TX1, 10, rfl, Nat.le_of_ble_eq_true rfl, inGX1, Or.inl (gT_mem (tb1 52 rfl) rfl)⟩
theorem lkX1_84 : LKm RX1 84 yX1_heeds := Or.inl (gT_mem (tb2 75 rfl) rfl)
theorem lkX1_87 : LKm RX1 87 yX1_goStep := Or.inl (gT_mem (tb2 61 rfl) rfl)
theorem lkX1_90 : LKm RX1 90 yX1_atRootSet := Or.inl (gT_mem (tb2 65 rfl) rfl)
theorem lkX1_93 : LKm RX1 93 yX1_seeingSet := Or.inl (gT_mem (tb2 66 rfl) rfl)
theorem lkX1_96 : LKm RX1 96 yX1_walk := Or.inl (gT_mem (tb2 67 rfl) rfl)
theorem lkX1_100 : LKm RX1 100 yX1_sayOn := Or.inl (gT_mem (tb2 82 rfl) rfl)
theorem pfX1_81 : POK RX1 81 1 9 .int := ⟨RX1, TX1, 10, tyX1, rfl, Nat.le_of_ble_eq_true rfl, inGX1, Or.inl (gT_mem (tb1 52 rfl) rfl), rfl, (by decide +kernel), tyX1_ok, nmX1⟩
theorem lkX1_103 : LKm RX1 103 yX1_isWarned := Or.inl (gT_mem (tb2 71 rfl) rfl)
theorem lkX1_106 : LKm RX1 106 yJ9_min_7cf53 := Or.inl (gT_mem (tb2 76 rfl) rfl)
theorem lkX1_109 : LKm RX1 109 yJ9_max_7cf53 := Or.inl (gT_mem (tb2 79 rfl) rfl)
theorem lkX1_112 : LKm RX1 112 yX1_says := Or.inl (gT_mem (tb2 86 rfl) rfl)
theorem gfX2_15 : GOK RX2 15 2 0 := ⟨RX2, TX2, 3, rfl, Nat.le_of_ble_eq_true rfl, inGX2, Or.inl (gT_mem (tb1 120 rfl) rfl)⟩
theorem pfX2_15 : POK RX2 15 2 0 .int := ⟨RX2, TX2, 3, tyX2, rfl, Nat.le_of_ble_eq_true rfl, inGX2, Or.inl (gT_mem (tb1 120 rfl) rfl), rfl, (by decide +kernel), tyX2_ok, nmX2⟩
theorem pfX2_19 : POK RX2 19 2 1 .int := ⟨RX2, TX2, 3, tyX2, rfl, Nat.le_of_ble_eq_true rfl, inGX2, Or.inl (gT_mem (tb1 122 rfl) rfl), rfl, (by decide +kernel), tyX2_ok, nmX2⟩
theorem gfX2_9 : GOK RX2 9 2 2 := ⟨RX2, TX2, 3, rfl, Nat.le_of_ble_eq_true rfl, inGX2, Or.inl (gT_mem (tb1 124 rfl) rfl)⟩
theorem gfX2_19 : GOK RX2 19 2 1 := ⟨RX2, TX2, 3, rfl, Nat.le_of_ble_eq_true rfl, inGX2, Or.inl (gT_mem (tb1 122 rfl) rfl)⟩
theorem lkX2_22 : LKm RX2 22 yX2_cut := Or.inl (gT_mem (tb3 93 rfl) rfl)
theorem gfX3_15 : GOK RX3 15 3 1 := ⟨RX3, TX3, 2, rfl, Nat.le_of_ble_eq_true rfl, inGX3, Or.inl (gT_mem (tb1 82 rfl) rfl)⟩
theorem gfX3_9 : GOK RX3 9 3 0 := ⟨RX3, TX3, 2, rfl, Nat.le_of_ble_eq_true rfl, inGX3, Or.inl (gT_mem (tb1 81 rfl) rfl)⟩
theorem pfX3_15 : POK RX3 15 3 1 .int := ⟨RX3, TX3, 2, tyX3, rfl, Nat.le_of_ble_eq_true rfl, inGX3, Or.inl (gT_mem (tb1 82 rfl) rfl), rfl, (by decide +kernel), tyX3_ok, nmX3⟩
theorem lkX4_11 : LKm RX4 11 yX1_init := Or.inr ⟨"OneLantern", nT_mem (tb1 24 rfl) rfl⟩
theorem lkX4_24 : LKm RX4 24 yX3_init := Or.inr ⟨"OneLantern", nT_mem (tb1 77 rfl) rfl⟩
theorem gfX4_25 : GOK RX4 25 4 4 := ⟨RX4, TX4, 8, rfl, Nat.le_of_ble_eq_true rfl, inGX4, Or.inl (gT_mem (tb1 138 rfl) rfl)⟩
theorem lkX4_31 : LKm RX4 31 yX0_init := Or.inr ⟨"OneLantern", nT_mem (tb1 93 rfl) rfl⟩
theorem gfX4_40 : GOK RX4 40 4 6 := ⟨RX4, TX4, 8, rfl, Nat.le_of_ble_eq_true rfl, inGX4, Or.inl (gT_mem (tb1 140 rfl) rfl)⟩
theorem lkX4_48 : LKm RX4 48 yX2_init := Or.inr ⟨"OneLantern", nT_mem (tb1 116 rfl) rfl⟩
theorem kX4_49 : Cond.constant RX4 49 (1073741823) ∈ gT := gT_mem (tb1 163 rfl) rfl
theorem lkX4_50 : LKm RX4 50 yX4_within := Or.inl (gT_mem (tb1 164 rfl) rfl)
theorem kX4_54 : Cond.constant RX4 54 (-1000000001) ∈ gT := gT_mem (tb1 167 rfl) rfl
theorem lkX4_55 : LKm RX4 55 yX4_tell := Or.inl (gT_mem (tb1 168 rfl) rfl)
theorem gfX4_12 : GOK RX4 12 4 0 := ⟨RX4, TX4, 8, rfl, Nat.le_of_ble_eq_true rfl, inGX4, Or.inl (gT_mem (tb1 134 rfl) rfl)⟩
theorem gfX4_59 : GOK RX4 59 1 1 := ⟨RX1, TX1, 10, rfl, Nat.le_of_ble_eq_true rfl, inGX1, Or.inr ⟨"OneLantern", nT_mem (tb1 32 rfl) rfl⟩⟩
theorem pfX4_59 : POK RX4 59 1 1 .int := ⟨RX1, TX1, 10, tyX1, rfl, Nat.le_of_ble_eq_true rfl, inGX1, Or.inr ⟨"OneLantern", nT_mem (tb1 32 rfl) rfl⟩, rfl, (by decide +kernel), tyX1_ok, nmX1⟩
theorem lkX4_63 : LKm RX4 63 yX1_has := Or.inr ⟨"OneLantern", nT_mem (tb1 176 rfl) rfl⟩
theorem gfX4_67 : GOK RX4 67 1 2 := ⟨RX1, TX1, 10, rfl, Nat.le_of_ble_eq_true rfl, inGX1, Or.inr ⟨"OneLantern", nT_mem (tb1 34 rfl) rfl⟩⟩
theorem pfX4_67 : POK RX4 67 1 2 .int := ⟨RX1, TX1, 10, tyX1, rfl, Nat.le_of_ble_eq_true rfl, inGX1, Or.inr ⟨"OneLantern", nT_mem (tb1 34 rfl) rfl⟩, rfl, (by decide +kernel), tyX1_ok, nmX1⟩
theorem gfX4_70 : GOK RX4 70 1 3 := ⟨RX1, TX1, 10, rfl, Nat.le_of_ble_eq_true rfl, inGX1, Or.inr ⟨"OneLantern", nT_mem (tb1 37 rfl) rfl⟩⟩
theorem pfX4_70 : POK RX4 70 1 3 .int := ⟨RX1, TX1, 10, tyX1, rfl, Nat.le_of_ble_eq_true rfl, inGX1, Or.inr ⟨"OneLantern", nT_mem (tb1 37 rfl) rfl⟩, rfl, (by decide +kernel), tyX1_ok, nmX1⟩
theorem gfX4_73 : GOK RX4 73 1 0 := ⟨RX1, TX1, 10, rfl, Nat.le_of_ble_eq_true rfl, inGX1, Or.inr ⟨"OneLantern", nT_mem (tb1 30 rfl) rfl⟩⟩
theorem lkX4_76 : LKm RX4 76 yX1_litSet := Or.inr ⟨"OneLantern", nT_mem (tb1 188 rfl) rfl⟩
theorem lkX4_80 : LKm RX4 80 yX1_atRootSet := Or.inr ⟨"OneLantern", nT_mem (tb1 196 rfl) rfl⟩
theorem lkX4_83 : LKm RX4 83 yX1_heardSet := Or.inr ⟨"OneLantern", nT_mem (tb1 210 rfl) rfl⟩
theorem lkX4_86 : LKm RX4 86 yX1_allStumbled := Or.inr ⟨"OneLantern", nT_mem (tb1 214 rfl) rfl⟩
theorem lkX4_89 : LKm RX4 89 yX4_isKind := Or.inl (gT_mem (tb1 222 rfl) rfl)
theorem lkX4_92 : LKm RX4 92 yX1_isFull := Or.inr ⟨"OneLantern", nT_mem (tb1 225 rfl) rfl⟩
theorem kX4_96 : Cond.constant RX4 96 (-1000000002) ∈ gT := gT_mem (tb1 229 rfl) rfl
theorem lkX4_97 : LKm RX4 97 yX1_add := Or.inr ⟨"OneLantern", nT_mem (tb1 230 rfl) rfl⟩
theorem gfX4_101 : GOK RX4 101 1 4 := ⟨RX1, TX1, 10, rfl, Nat.le_of_ble_eq_true rfl, inGX1, Or.inr ⟨"OneLantern", nT_mem (tb1 41 rfl) rfl⟩⟩
theorem gfX4_104 : GOK RX4 104 1 5 := ⟨RX1, TX1, 10, rfl, Nat.le_of_ble_eq_true rfl, inGX1, Or.inr ⟨"OneLantern", nT_mem (tb1 43 rfl) rfl⟩⟩
theorem lkX4_107 : LKm RX4 107 yX1_paceOf := Or.inr ⟨"OneLantern", nT_mem (tb1 239 rfl) rfl⟩
theorem gfX4_110 : GOK RX4 110 1 6 := ⟨RX1, TX1, 10, rfl, Nat.le_of_ble_eq_true rfl, inGX1, Or.inr ⟨"OneLantern", nT_mem (tb1 45 rfl) rfl⟩⟩
theorem gfX4_113 : GOK RX4 113 1 7 := ⟨RX1, TX1, 10, rfl, Nat.le_of_ble_eq_true rfl, inGX1, Or.inr ⟨"OneLantern", nT_mem (tb1 47 rfl) rfl⟩⟩
theorem gfX4_116 : GOK RX4 116 1 8 := ⟨RX1, TX1, 10, rfl, Nat.le_of_ble_eq_true rfl, inGX1, Or.inr ⟨"OneLantern", nT_mem (tb1 50 rfl) rfl⟩⟩
theorem lkX4_119 : LKm RX4 119 yX4_shadeOf := Or.inl (gT_mem (tb2 0 rfl) rfl)
theorem lkX4_122 : LKm RX4 122 yX1_seeingSet := Or.inr ⟨"OneLantern", nT_mem (tb2 1 rfl) rfl⟩
theorem lkX4_125 : LKm RX4 125 yX4_isIn := Or.inl (gT_mem (tb2 13 rfl) rfl)
theorem lkX4_129 : LKm RX4 129 yX1_heeds := Or.inr ⟨"OneLantern", nT_mem (tb2 14 rfl) rfl⟩
theorem lkX4_132 : LKm RX4 132 yX4_put := Or.inl (gT_mem (tb2 22 rfl) rfl)
theorem lkX4_136 : LKm RX4 136 yX1_exchange := Or.inr ⟨"OneLantern", nT_mem (tb2 30 rfl) rfl⟩
theorem lkX4_140 : LKm RX4 140 yX4_isUnder := Or.inl (gT_mem (tb2 45 rfl) rfl)
theorem kX4_143 : Cond.constant RX4 143 (-1000000003) ∈ gT := gT_mem (tb2 50 rfl) rfl
theorem kX4_144 : Cond.constant RX4 144 (99999) ∈ gT := gT_mem (tb2 55 rfl) rfl
theorem kX4_145 : Cond.constant RX4 145 (-1000000005) ∈ gT := gT_mem (tb2 56 rfl) rfl
theorem lkX4_146 : LKm RX4 146 yX1_goSteps := Or.inr ⟨"OneLantern", nT_mem (tb2 57 rfl) rfl⟩
theorem lkX4_149 : LKm RX4 149 yX4_lookAhead := Or.inl (gT_mem (tb2 94 rfl) rfl)
theorem gfX4_16 : GOK RX4 16 4 1 := ⟨RX4, TX4, 8, rfl, Nat.le_of_ble_eq_true rfl, inGX4, Or.inl (gT_mem (tb1 135 rfl) rfl)⟩
theorem lkX4_152 : LKm RX4 152 yX4_stumbledIn := Or.inl (gT_mem (tb2 106 rfl) rfl)
theorem lkX4_155 : LKm RX4 155 yX1_goStep := Or.inr ⟨"OneLantern", nT_mem (tb2 114 rfl) rfl⟩
theorem gfX4_158 : GOK RX4 158 1 9 := ⟨RX1, TX1, 10, rfl, Nat.le_of_ble_eq_true rfl, inGX1, Or.inr ⟨"OneLantern", nT_mem (tb1 51 rfl) rfl⟩⟩
theorem kX4_161 : Cond.constant RX4 161 (-1000000004) ∈ gT := gT_mem (tb2 115 rfl) rfl
theorem kX4_162 : Cond.constant RX4 162 (79993) ∈ gT := gT_mem (tb2 124 rfl) rfl
theorem lkX4_163 : LKm RX4 163 yX1_setRoot := Or.inr ⟨"OneLantern", nT_mem (tb2 141 rfl) rfl⟩
theorem lkX4_167 : LKm RX4 167 yX4_stumblesNoMore := Or.inl (gT_mem (tb2 149 rfl) rfl)
theorem gfX4_170 : GOK RX4 170 3 1 := ⟨RX3, TX3, 2, rfl, Nat.le_of_ble_eq_true rfl, inGX3, Or.inr ⟨"OneLantern", nT_mem (tb1 84 rfl) rfl⟩⟩
theorem lkX4_173 : LKm RX4 173 yX3_add := Or.inr ⟨"OneLantern", nT_mem (tb2 161 rfl) rfl⟩
theorem pfX4_170 : POK RX4 170 3 1 .int := ⟨RX3, TX3, 2, tyX3, rfl, Nat.le_of_ble_eq_true rfl, inGX3, Or.inr ⟨"OneLantern", nT_mem (tb1 84 rfl) rfl⟩, rfl, (by decide +kernel), tyX3_ok, nmX3⟩
theorem gfX4_34 : GOK RX4 34 4 5 := ⟨RX4, TX4, 8, rfl, Nat.le_of_ble_eq_true rfl, inGX4, Or.inl (gT_mem (tb1 139 rfl) rfl)⟩
theorem lkX4_176 : LKm RX4 176 yX0_tellTo := Or.inr ⟨"OneLantern", nT_mem (tb2 173 rfl) rfl⟩
theorem lkX4_180 : LKm RX4 180 yX1_takeFrom := Or.inr ⟨"OneLantern", nT_mem (tb2 98 rfl) rfl⟩
theorem lkX4_184 : LKm RX4 184 yX4_isSheet := Or.inl (gT_mem (tb3 69 rfl) rfl)
theorem lkX4_187 : LKm RX4 187 yX4_isWidth := Or.inl (gT_mem (tb3 72 rfl) rfl)
theorem kX4_190 : Cond.constant RX4 190 (-1000000007) ∈ gT := gT_mem (tb3 75 rfl) rfl
theorem lkX4_191 : LKm RX4 191 yX2_renew := Or.inr ⟨"OneLantern", nT_mem (tb3 76 rfl) rfl⟩
theorem gfX4_194 : GOK RX4 194 2 1 := ⟨RX2, TX2, 3, rfl, Nat.le_of_ble_eq_true rfl, inGX2, Or.inr ⟨"OneLantern", nT_mem (tb1 123 rfl) rfl⟩⟩
theorem lkX4_197 : LKm RX4 197 yX2_isMissing := Or.inr ⟨"OneLantern", nT_mem (tb3 84 rfl) rfl⟩
theorem kX4_200 : Cond.constant RX4 200 (-1000000006) ∈ gT := gT_mem (tb3 88 rfl) rfl
theorem gfX4_201 : GOK RX4 201 2 2 := ⟨RX2, TX2, 3, rfl, Nat.le_of_ble_eq_true rfl, inGX2, Or.inr ⟨"OneLantern", nT_mem (tb1 125 rfl) rfl⟩⟩
theorem lkX4_205 : LKm RX4 205 yX2_put := Or.inr ⟨"OneLantern", nT_mem (tb3 89 rfl) rfl⟩
theorem gfX4_208 : GOK RX4 208 2 0 := ⟨RX2, TX2, 3, rfl, Nat.le_of_ble_eq_true rfl, inGX2, Or.inr ⟨"OneLantern", nT_mem (tb1 121 rfl) rfl⟩⟩
theorem lkX4_211 : LKm RX4 211 yX2_spans := Or.inr ⟨"OneLantern", nT_mem (tb3 101 rfl) rfl⟩
theorem lkX4_220 : LKm RX4 220 yJ9_min_7cf53 := Or.inl (gT_mem (tb3 112 rfl) rfl)
theorem kX4_226 : Cond.constantLong RX4 226 (99) ∈ gT := gT_mem (tb3 113 rfl) rfl
theorem lkX4_228 : LKm RX4 228 yX4_findingOfBook := Or.inl (gT_mem (tb3 118 rfl) rfl)
theorem lkX4_231 : LKm RX4 231 yX4_stumblesJustAs := Or.inl (gT_mem (tb3 126 rfl) rfl)
theorem gfX4_19 : GOK RX4 19 4 2 := ⟨RX4, TX4, 8, rfl, Nat.le_of_ble_eq_true rfl, inGX4, Or.inl (gT_mem (tb1 136 rfl) rfl)⟩
theorem pfX4_235 : POK RX4 235 4 3 .boolean := ⟨RX4, TX4, 8, tyX4, rfl, Nat.le_of_ble_eq_true rfl, inGX4, Or.inl (gT_mem (tb1 137 rfl) rfl), rfl, (by decide +kernel), tyX4_ok, nmX4⟩
theorem gfX4_235 : GOK RX4 235 4 3 := ⟨RX4, TX4, 8, rfl, Nat.le_of_ble_eq_true rfl, inGX4, Or.inl (gT_mem (tb1 137 rfl) rfl)⟩
theorem lkX4_239 : LKm RX4 239 yJ6_bitCount_0f7a4 := Or.inl (gT_mem (tb3 146 rfl) rfl)
theorem lkX4_244 : LKm RX4 244 yX1_allNerve := Or.inr ⟨"OneLantern", nT_mem (tb3 152 rfl) rfl⟩
theorem gfX4_44 : GOK RX4 44 4 7 := ⟨RX4, TX4, 8, rfl, Nat.le_of_ble_eq_true rfl, inGX4, Or.inl (gT_mem (tb1 141 rfl) rfl)⟩
theorem gfX5_7 : GOK RX5 7 5 0 := ⟨RX5, TX5, 17, rfl, Nat.le_of_ble_eq_true rfl, inGX5, Or.inl (gT_mem (tb3 166 rfl) rfl)⟩
theorem gfX5_22 : GOK RX5 22 5 4 := ⟨RX5, TX5, 17, rfl, Nat.le_of_ble_eq_true rfl, inGX5, Or.inl (gT_mem (tb3 170 rfl) rfl)⟩
theorem kX5_41 : Cond.constant RX5 41 (-1000000001) ∈ gT := gT_mem (tb3 230 rfl) rfl
theorem gfX5_16 : GOK RX5 16 5 2 := ⟨RX5, TX5, 17, rfl, Nat.le_of_ble_eq_true rfl, inGX5, Or.inl (gT_mem (tb3 168 rfl) rfl)⟩
theorem gfX5_19 : GOK RX5 19 5 3 := ⟨RX5, TX5, 17, rfl, Nat.le_of_ble_eq_true rfl, inGX5, Or.inl (gT_mem (tb3 169 rfl) rfl)⟩
theorem lkX5_42 : LKm RX5 42 yX5_spot := Or.inl (gT_mem (tb4 28 rfl) rfl)
theorem lkX5_46 : LKm RX5 46 yX5_in := Or.inl (gT_mem (tb3 223 rfl) rfl)
theorem kX5_52 : Cond.constantLong RX5 52 (5) ∈ gT := gT_mem (tb4 62 rfl) rfl
theorem lkX5_54 : LKm RX5 54 yX5_its := Or.inl (gT_mem (tb4 24 rfl) rfl)
theorem lkX5_57 : LKm RX5 57 yX5_paceOf := Or.inl (gT_mem (tb4 43 rfl) rfl)
theorem kX5_61 : Cond.constantLong RX5 61 (1073741823) ∈ gT := gT_mem (tb3 222 rfl) rfl
theorem lkX5_63 : LKm RX5 63 yX5_becomes := Or.inl (gT_mem (tb3 226 rfl) rfl)
theorem lkX5_66 : LKm RX5 66 yX5_finds := Or.inl (gT_mem (tb3 231 rfl) rfl)
theorem lkX5_69 : LKm RX5 69 yX5_isPlace := Or.inl (gT_mem (tb3 239 rfl) rfl)
theorem kX5_73 : Cond.constantLong RX5 73 (9) ∈ gT := gT_mem (tb4 7 rfl) rfl
theorem lkX5_75 : LKm RX5 75 yX5_shadesOf := Or.inl (gT_mem (tb4 20 rfl) rfl)
theorem lkX5_78 : LKm RX5 78 yX5_farOf := Or.inl (gT_mem (tb4 31 rfl) rfl)
theorem lkX5_81 : LKm RX5 81 yX5_isLit := Or.inl (gT_mem (tb4 16 rfl) rfl)
theorem lkX5_84 : LKm RX5 84 yX5_isAtRoot := Or.inl (gT_mem (tb4 39 rfl) rfl)
theorem lkX5_87 : LKm RX5 87 yX5_litOnes := Or.inl (gT_mem (tb4 12 rfl) rfl)
theorem lkX5_91 : LKm RX5 91 yX5_rootedOnes := Or.inl (gT_mem (tb4 35 rfl) rfl)
theorem lkX5_94 : LKm RX5 94 yX5_heardOnes := Or.inl (gT_mem (tb4 47 rfl) rfl)
theorem lkX5_97 : LKm RX5 97 yX5_together := Or.inl (gT_mem (tb4 51 rfl) rfl)
theorem gfX5_100 : GOK RX5 100 5 6 := ⟨RX5, TX5, 17, rfl, Nat.le_of_ble_eq_true rfl, inGX5, Or.inl (gT_mem (tb3 172 rfl) rfl)⟩
theorem lkX5_104 : LKm RX5 104 yX5_isSeeing := Or.inl (gT_mem (tb4 72 rfl) rfl)
theorem lkX5_107 : LKm RX5 107 yX5_isKind := Or.inl (gT_mem (tb4 59 rfl) rfl)
theorem kX5_110 : Cond.constant RX5 110 (-1000000002) ∈ gT := gT_mem (tb4 63 rfl) rfl
theorem lkX5_111 : LKm RX5 111 yX5_adds := Or.inl (gT_mem (tb4 64 rfl) rfl)
theorem lkX5_114 : LKm RX5 114 yX5_isHeeding := Or.inl (gT_mem (tb4 76 rfl) rfl)
theorem kX5_117 : Cond.constantLong RX5 117 (2) ∈ gT := gT_mem (tb4 84 rfl) rfl
theorem kX5_119 : Cond.constantLong RX5 119 (4) ∈ gT := gT_mem (tb4 85 rfl) rfl
theorem kX5_121 : Cond.constantLong RX5 121 (9999) ∈ gT := gT_mem (tb4 86 rfl) rfl
theorem kX5_123 : Cond.constantLong RX5 123 (99) ∈ gT := gT_mem (tb4 87 rfl) rfl
theorem lkX5_125 : LKm RX5 125 yX5_swaps := Or.inl (gT_mem (tb4 92 rfl) rfl)
theorem lkX5_129 : LKm RX5 129 yX5_isUnder := Or.inl (gT_mem (tb4 104 rfl) rfl)
theorem kX5_133 : Cond.constant RX5 133 (-1000000003) ∈ gT := gT_mem (tb4 107 rfl) rfl
theorem pfX5_100 : POK RX5 100 5 6 .int := ⟨RX5, TX5, 17, tyX5, rfl, Nat.le_of_ble_eq_true rfl, inGX5, Or.inl (gT_mem (tb3 172 rfl) rfl), rfl, (by decide +kernel), tyX5_ok, nmX5⟩
theorem lkX5_134 : LKm RX5 134 yX5_treads := Or.inl (gT_mem (tb4 123 rfl) rfl)
theorem lkX5_138 : LKm RX5 138 yX5_isSaying := Or.inl (gT_mem (tb4 127 rfl) rfl)
theorem lkX5_141 : LKm RX5 141 yX5_step := Or.inl (gT_mem (tb4 119 rfl) rfl)
theorem kX5_144 : Cond.constantLong RX5 144 (200) ∈ gT := gT_mem (tb4 112 rfl) rfl
theorem kX5_146 : Cond.constant RX5 146 (99999) ∈ gT := gT_mem (tb4 113 rfl) rfl
theorem kX5_147 : Cond.constant RX5 147 (-1000000005) ∈ gT := gT_mem (tb4 114 rfl) rfl
theorem lkX5_148 : LKm RX5 148 yX5_stepsGo := Or.inl (gT_mem (tb4 115 rfl) rfl)
theorem kX5_151 : Cond.constantLong RX5 151 (300) ∈ gT := gT_mem (tb4 138 rfl) rfl
theorem lkX5_153 : LKm RX5 153 yX5_laysAside := Or.inl (gT_mem (tb4 143 rfl) rfl)
theorem lkX5_156 : LKm RX5 156 yX5_takesBack := Or.inl (gT_mem (tb4 147 rfl) rfl)
theorem lkX5_159 : LKm RX5 159 yX5_isAhead := Or.inl (gT_mem (tb4 135 rfl) rfl)
theorem lkX5_162 : LKm RX5 162 yX5_behind := Or.inl (gT_mem (tb4 139 rfl) rfl)
theorem kX5_165 : Cond.constant RX5 165 (-1000000004) ∈ gT := gT_mem (tb4 163 rfl) rfl
theorem lkX5_166 : LKm RX5 166 yX5_toldAt := Or.inl (gT_mem (tb4 159 rfl) rfl)
theorem kX5_169 : Cond.constantLong RX5 169 (100) ∈ gT := gT_mem (tb4 175 rfl) rfl
theorem kX5_171 : Cond.constant RX5 171 (999999) ∈ gT := gT_mem (tb4 180 rfl) rfl
theorem lkX5_172 : LKm RX5 172 yX5_isSoon := Or.inl (gT_mem (tb4 172 rfl) rfl)
theorem lkX5_175 : LKm RX5 175 yX5_leastBy := Or.inl (gT_mem (tb4 176 rfl) rfl)
theorem kX5_179 : Cond.constantLong RX5 179 (99999) ∈ gT := gT_mem (tb4 193 rfl) rfl
theorem kX5_181 : Cond.constantLong RX5 181 (60) ∈ gT := gT_mem (tb4 198 rfl) rfl
theorem gfX5_183 : GOK RX5 183 5 8 := ⟨RX5, TX5, 17, rfl, Nat.le_of_ble_eq_true rfl, inGX5, Or.inl (gT_mem (tb3 174 rfl) rfl)⟩
theorem gfX5_25 : GOK RX5 25 5 7 := ⟨RX5, TX5, 17, rfl, Nat.le_of_ble_eq_true rfl, inGX5, Or.inl (gT_mem (tb3 173 rfl) rfl)⟩
theorem pfX5_183 : POK RX5 183 5 8 .int := ⟨RX5, TX5, 17, tyX5, rfl, Nat.le_of_ble_eq_true rfl, inGX5, Or.inl (gT_mem (tb3 174 rfl) rfl), rfl, (by decide +kernel), tyX5_ok, nmX5⟩
theorem kX5_186 : Cond.constantLong RX5 186 (97) ∈ gT := gT_mem (tb4 234 rfl) rfl
theorem kX5_188 : Cond.constantLong RX5 188 (122) ∈ gT := gT_mem (tb4 235 rfl) rfl
theorem kX5_190 : Cond.constantLong RX5 190 (48) ∈ gT := gT_mem (tb4 239 rfl) rfl
theorem kX5_192 : Cond.constantLong RX5 192 (57) ∈ gT := gT_mem (tb5 0 rfl) rfl
theorem gfX5_194 : GOK RX5 194 5 10 := ⟨RX5, TX5, 17, rfl, Nat.le_of_ble_eq_true rfl, inGX5, Or.inl (gT_mem (tb3 176 rfl) rfl)⟩
theorem pfX5_197 : POK RX5 197 5 9 .int := ⟨RX5, TX5, 17, tyX5, rfl, Nat.le_of_ble_eq_true rfl, inGX5, Or.inl (gT_mem (tb3 175 rfl) rfl), rfl, (by decide +kernel), tyX5_ok, nmX5⟩
theorem gfX5_197 : GOK RX5 197 5 9 := ⟨RX5, TX5, 17, rfl, Nat.le_of_ble_eq_true rfl, inGX5, Or.inl (gT_mem (tb3 175 rfl) rfl)⟩
theorem lkX5_200 : LKm RX5 200 yX5_byteAt := Or.inl (gT_mem (tb4 227 rfl) rfl)
theorem lkX5_203 : LKm RX5 203 yX5_isLetter := Or.inl (gT_mem (tb4 231 rfl) rfl)
theorem lkX5_206 : LKm RX5 206 yX5_isDigit := Or.inl (gT_mem (tb4 236 rfl) rfl)
theorem pfX5_194 : POK RX5 194 5 10 .int := ⟨RX5, TX5, 17, tyX5, rfl, Nat.le_of_ble_eq_true rfl, inGX5, Or.inl (gT_mem (tb3 176 rfl) rfl), rfl, (by decide +kernel), tyX5_ok, nmX5⟩
theorem gfX5_209 : GOK RX5 209 5 12 := ⟨RX5, TX5, 17, rfl, Nat.le_of_ble_eq_true rfl, inGX5, Or.inl (gT_mem (tb3 178 rfl) rfl)⟩
theorem pfX5_209 : POK RX5 209 5 12 .boolean := ⟨RX5, TX5, 17, tyX5, rfl, Nat.le_of_ble_eq_true rfl, inGX5, Or.inl (gT_mem (tb3 178 rfl) rfl), rfl, (by decide +kernel), tyX5_ok, nmX5⟩
theorem lkX5_213 : LKm RX5 213 yX5_token := Or.inl (gT_mem (tb4 223 rfl) rfl)
theorem kX5_216 : Cond.constantLong RX5 216 (36028797018963967) ∈ gT := gT_mem (tb5 13 rfl) rfl
theorem kX5_218 : Cond.constantLong RX5 218 (32) ∈ gT := gT_mem (tb5 14 rfl) rfl
theorem pfX5_220 : POK RX5 220 5 11 .int := ⟨RX5, TX5, 17, tyX5, rfl, Nat.le_of_ble_eq_true rfl, inGX5, Or.inl (gT_mem (tb3 177 rfl) rfl), rfl, (by decide +kernel), tyX5_ok, nmX5⟩
theorem lkX5_223 : LKm RX5 223 yX5_must := Or.inl (gT_mem (tb5 25 rfl) rfl)
theorem lkX5_227 : LKm RX5 227 yX5_word := Or.inl (gT_mem (tb5 9 rfl) rfl)
theorem kX5_231 : Cond.constantLong RX5 231 (773205170) ∈ gT := gT_mem (tb5 15 rfl) rfl
theorem kX5_233 : Cond.constantLong RX5 233 (656780) ∈ gT := gT_mem (tb5 16 rfl) rfl
theorem kX5_235 : Cond.constantLong RX5 235 (3417476) ∈ gT := gT_mem (tb5 17 rfl) rfl
theorem kX5_237 : Cond.constantLong RX5 237 (8037509) ∈ gT := gT_mem (tb5 18 rfl) rfl
theorem kX5_239 : Cond.constantLong RX5 239 (553210034) ∈ gT := gT_mem (tb5 19 rfl) rfl
theorem kX5_241 : Cond.constantLong RX5 241 (650286617) ∈ gT := gT_mem (tb5 20 rfl) rfl
theorem kX5_243 : Cond.constantLong RX5 243 (14863045) ∈ gT := gT_mem (tb5 29 rfl) rfl
theorem lkX5_245 : LKm RX5 245 yX5_number := Or.inl (gT_mem (tb5 30 rfl) rfl)
theorem gfX5_220 : GOK RX5 220 5 11 := ⟨RX5, TX5, 17, rfl, Nat.le_of_ble_eq_true rfl, inGX5, Or.inl (gT_mem (tb3 177 rfl) rfl)⟩
theorem lkX5_248 : LKm RX5 248 yX5_numberHere := Or.inl (gT_mem (tb5 51 rfl) rfl)
theorem lkX5_251 : LKm RX5 251 yX5_kindHere := Or.inl (gT_mem (tb5 5 rfl) rfl)
theorem lkX5_254 : LKm RX5 254 yX5_walkerItem := Or.inl (gT_mem (tb5 21 rfl) rfl)
theorem kX5_257 : Cond.constantLong RX5 257 (605684) ∈ gT := gT_mem (tb5 34 rfl) rfl
theorem kX5_259 : Cond.constantLong RX5 259 (3544114) ∈ gT := gT_mem (tb5 35 rfl) rfl
theorem lkX5_261 : LKm RX5 261 yX5_rootItem := Or.inl (gT_mem (tb5 36 rfl) rfl)
theorem kX5_264 : Cond.constantLong RX5 264 (12933797454) ∈ gT := gT_mem (tb5 40 rfl) rfl
theorem lkX5_266 : LKm RX5 266 yX5_toldItem := Or.inl (gT_mem (tb5 41 rfl) rfl)
theorem kX5_269 : Cond.constantLong RX5 269 (86285588) ∈ gT := gT_mem (tb5 45 rfl) rfl
theorem kX5_271 : Cond.constantLong RX5 271 (646192) ∈ gT := gT_mem (tb5 46 rfl) rfl
theorem lkX5_273 : LKm RX5 273 yX5_swapItem := Or.inl (gT_mem (tb5 47 rfl) rfl)
theorem lkX5_276 : LKm RX5 276 yX5_saves := Or.inl (gT_mem (tb4 219 rfl) rfl)
theorem lkX5_279 : LKm RX5 279 yX5_item := Or.inl (gT_mem (tb5 1 rfl) rfl)
theorem lkX5_282 : LKm RX5 282 yX5_putsBack := Or.inl (gT_mem (tb5 55 rfl) rfl)
theorem kX5_285 : Cond.constantLong RX5 285 (3) ∈ gT := gT_mem (tb5 66 rfl) rfl
theorem lkX5_287 : LKm RX5 287 yX5_isOne := Or.inl (gT_mem (tb5 63 rfl) rfl)
theorem kX5_290 : Cond.constant RX5 290 (-1000000007) ∈ gT := gT_mem (tb5 67 rfl) rfl
theorem gfX5_28 : GOK RX5 28 5 13 := ⟨RX5, TX5, 17, rfl, Nat.le_of_ble_eq_true rfl, inGX5, Or.inl (gT_mem (tb3 179 rfl) rfl)⟩
theorem gfX5_31 : GOK RX5 31 5 14 := ⟨RX5, TX5, 17, rfl, Nat.le_of_ble_eq_true rfl, inGX5, Or.inl (gT_mem (tb3 180 rfl) rfl)⟩
theorem gfX5_34 : GOK RX5 34 5 15 := ⟨RX5, TX5, 17, rfl, Nat.le_of_ble_eq_true rfl, inGX5, Or.inl (gT_mem (tb3 181 rfl) rfl)⟩
theorem kX5_291 : Cond.constant RX5 291 (-1000000006) ∈ gT := gT_mem (tb5 76 rfl) rfl
theorem lkX5_292 : LKm RX5 292 yX5_wrongSheet := Or.inl (gT_mem (tb5 72 rfl) rfl)
theorem lkX5_295 : LKm RX5 295 yX5_narrowed := Or.inl (gT_mem (tb5 77 rfl) rfl)
theorem gfX5_38 : GOK RX5 38 5 16 := ⟨RX5, TX5, 17, rfl, Nat.le_of_ble_eq_true rfl, inGX5, Or.inl (gT_mem (tb3 182 rfl) rfl)⟩
theorem lkX5_299 : LKm RX5 299 yX5_isBook := Or.inl (gT_mem (tb5 96 rfl) rfl)
theorem gfX5_13 : GOK RX5 13 5 1 := ⟨RX5, TX5, 17, rfl, Nat.le_of_ble_eq_true rfl, inGX5, Or.inl (gT_mem (tb3 167 rfl) rfl)⟩
theorem pfX5_302 : POK RX5 302 5 5 .boolean := ⟨RX5, TX5, 17, tyX5, rfl, Nat.le_of_ble_eq_true rfl, inGX5, Or.inl (gT_mem (tb3 171 rfl) rfl), rfl, (by decide +kernel), tyX5_ok, nmX5⟩
theorem gfX5_302 : GOK RX5 302 5 5 := ⟨RX5, TX5, 17, rfl, Nat.le_of_ble_eq_true rfl, inGX5, Or.inl (gT_mem (tb3 171 rfl) rfl)⟩
theorem lkX5_305 : LKm RX5 305 yX5_rootsMany := Or.inl (gT_mem (tb5 116 rfl) rfl)
theorem kX5_308 : Cond.constantLong RX5 308 (-1) ∈ gT := gT_mem (tb5 124 rfl) rfl
theorem kX5_310 : Cond.constantLong RX5 310 (6) ∈ gT := gT_mem (tb5 125 rfl) rfl
theorem kJ6_265 : Cond.constant RJ6 265 (1431655765) ∈ gT := gT_mem (tb3 149 rfl) rfl
theorem kJ6_266 : Cond.constant RJ6 266 (858993459) ∈ gT := gT_mem (tb3 150 rfl) rfl
theorem kJ6_267 : Cond.constant RJ6 267 (252645135) ∈ gT := gT_mem (tb3 151 rfl) rfl
theorem lkJ0_335 : LKm RJ0 335 yJ0_coder_7d493 := Or.inl (gT_mem (tb2 228 rfl) rfl)
theorem lkJ0_492 : LKm RJ0 492 yJ0_isLatin1_aae02 := Or.inl (gT_mem (tb2 238 rfl) rfl)
theorem lkJ0_495 : LKm RJ0 495 yJ1_charAt_3b067 := Or.inl (gT_mem (tb3 2 rfl) rfl)
theorem lkJ0_498 : LKm RJ0 498 yJ2_charAt_3b067 := Or.inl (gT_mem (tb3 13 rfl) rfl)
theorem lkJ0_1059 : LKm RJ0 1059 yJ3_checkIndex_8e157 := Or.inl (gT_mem (tb3 10 rfl) rfl)
theorem lkJ1_9 : LKm RJ1 9 yJ0_checkIndex_df160 := Or.inl (gT_mem (tb3 5 rfl) rfl)
theorem lkJ2_48 : LKm RJ2 48 yJ2_length_9d52b := Or.inl (gT_mem (tb3 19 rfl) rfl)
theorem lkJ2_67 : LKm RJ2 67 yJ2_checkIndex_2214a := Or.inl (gT_mem (tb3 16 rfl) rfl)
theorem lkJ2_71 : LKm RJ2 71 yJ2_getChar_3b067 := Or.inl (gT_mem (tb3 23 rfl) rfl)
theorem lkJ2_414 : LKm RJ2 414 yJ0_checkIndex_df160 := Or.inl (gT_mem (tb3 22 rfl) rfl)
theorem lkL_9 : LKm RL 9 yX4_init := Or.inl (gT_mem (tb1 16 rfl) rfl)
theorem lkL_12 : LKm RL 12 yX5_init := Or.inl (gT_mem (tb3 162 rfl) rfl)
theorem lkL_13 : LKm RL 13 yX4_roots := Or.inl (gT_mem (tb1 159 rfl) rfl)
theorem lkL_17 : LKm RL 17 yX5_roots := Or.inl (gT_mem (tb3 218 rfl) rfl)
theorem lkL_18 : LKm RL 18 yX4_lantern := Or.inl (gT_mem (tb1 172 rfl) rfl)
theorem lkL_21 : LKm RL 21 yX5_lantern := Or.inl (gT_mem (tb3 235 rfl) rfl)
theorem lkL_22 : LKm RL 22 yX4_bright := Or.inl (gT_mem (tb1 180 rfl) rfl)
theorem lkL_25 : LKm RL 25 yX5_bright := Or.inl (gT_mem (tb4 3 rfl) rfl)
theorem lkL_26 : LKm RL 26 yX4_now := Or.inl (gT_mem (tb1 184 rfl) rfl)
theorem lkL_29 : LKm RL 29 yX5_now := Or.inl (gT_mem (tb4 8 rfl) rfl)
theorem lkL_30 : LKm RL 30 yX4_walker := Or.inl (gT_mem (tb1 218 rfl) rfl)
theorem lkL_33 : LKm RL 33 yX5_walker := Or.inl (gT_mem (tb4 55 rfl) rfl)
theorem lkL_34 : LKm RL 34 yX4_of := Or.inl (gT_mem (tb1 235 rfl) rfl)
theorem lkL_38 : LKm RL 38 yX5_of := Or.inl (gT_mem (tb4 68 rfl) rfl)
theorem lkL_39 : LKm RL 39 yX4_set := Or.inl (gT_mem (tb2 18 rfl) rfl)
theorem lkL_43 : LKm RL 43 yX5_set := Or.inl (gT_mem (tb4 80 rfl) rfl)
theorem lkL_44 : LKm RL 44 yX4_swap := Or.inl (gT_mem (tb2 26 rfl) rfl)
theorem lkL_47 : LKm RL 47 yX5_swap := Or.inl (gT_mem (tb4 88 rfl) rfl)
theorem lkL_48 : LKm RL 48 yX4_turn := Or.inl (gT_mem (tb2 37 rfl) rfl)
theorem lkL_51 : LKm RL 51 yX5_turn := Or.inl (gT_mem (tb4 96 rfl) rfl)
theorem lkL_52 : LKm RL 52 yX4_as := Or.inl (gT_mem (tb2 41 rfl) rfl)
theorem lkL_55 : LKm RL 55 yX5_as := Or.inl (gT_mem (tb4 100 rfl) rfl)
theorem lkL_56 : LKm RL 56 yX4_steps := Or.inl (gT_mem (tb2 51 rfl) rfl)
theorem lkL_59 : LKm RL 59 yX5_steps := Or.inl (gT_mem (tb4 108 rfl) rfl)
theorem lkL_60 : LKm RL 60 yX4_on := Or.inl (gT_mem (tb2 90 rfl) rfl)
theorem lkL_63 : LKm RL 63 yX5_on := Or.inl (gT_mem (tb4 131 rfl) rfl)
theorem lkL_64 : LKm RL 64 yX4_falls := Or.inl (gT_mem (tb2 102 rfl) rfl)
theorem lkL_67 : LKm RL 67 yX5_falls := Or.inl (gT_mem (tb4 151 rfl) rfl)
theorem lkL_68 : LKm RL 68 yX4_trips := Or.inl (gT_mem (tb2 110 rfl) rfl)
theorem lkL_71 : LKm RL 71 yX5_trips := Or.inl (gT_mem (tb4 155 rfl) rfl)
theorem lkL_72 : LKm RL 72 yX4_hears := Or.inl (gT_mem (tb2 116 rfl) rfl)
theorem lkL_75 : LKm RL 75 yX5_hears := Or.inl (gT_mem (tb4 164 rfl) rfl)
theorem lkL_76 : LKm RL 76 yX4_carry := Or.inl (gT_mem (tb2 120 rfl) rfl)
theorem lkL_79 : LKm RL 79 yX5_carry := Or.inl (gT_mem (tb4 168 rfl) rfl)
theorem lkL_80 : LKm RL 80 yX4_order := Or.inl (gT_mem (tb2 125 rfl) rfl)
theorem lkL_83 : LKm RL 83 yX5_order := Or.inl (gT_mem (tb4 181 rfl) rfl)
theorem lkL_84 : LKm RL 84 yX4_kind := Or.inl (gT_mem (tb2 129 rfl) rfl)
theorem lkL_87 : LKm RL 87 yX5_kind := Or.inl (gT_mem (tb4 185 rfl) rfl)
theorem lkL_88 : LKm RL 88 yX4_least := Or.inl (gT_mem (tb2 133 rfl) rfl)
theorem lkL_91 : LKm RL 91 yX5_least := Or.inl (gT_mem (tb4 189 rfl) rfl)
theorem lkL_92 : LKm RL 92 yX4_clear := Or.inl (gT_mem (tb2 137 rfl) rfl)
theorem lkL_95 : LKm RL 95 yX5_clear := Or.inl (gT_mem (tb4 194 rfl) rfl)
theorem lkL_96 : LKm RL 96 yX4_nerve := Or.inl (gT_mem (tb2 145 rfl) rfl)
theorem lkL_99 : LKm RL 99 yX5_nerve := Or.inl (gT_mem (tb4 199 rfl) rfl)
theorem lkL_100 : LKm RL 100 yX4_worst := Or.inl (gT_mem (tb2 153 rfl) rfl)
theorem lkL_103 : LKm RL 103 yX5_worst := Or.inl (gT_mem (tb4 203 rfl) rfl)
theorem lkL_104 : LKm RL 104 yX4_feed := Or.inl (gT_mem (tb2 157 rfl) rfl)
theorem lkL_107 : LKm RL 107 yX5_feed := Or.inl (gT_mem (tb4 207 rfl) rfl)
theorem lkL_108 : LKm RL 108 yX4_wipe := Or.inl (gT_mem (tb2 165 rfl) rfl)
theorem lkL_112 : LKm RL 112 yX5_wipe := Or.inl (gT_mem (tb4 211 rfl) rfl)
theorem lkL_113 : LKm RL 113 yX4_night := Or.inl (gT_mem (tb2 169 rfl) rfl)
theorem lkL_116 : LKm RL 116 yX5_night := Or.inl (gT_mem (tb4 215 rfl) rfl)
theorem lkL_117 : LKm RL 117 yX4_sheet := Or.inl (gT_mem (tb3 65 rfl) rfl)
theorem lkL_120 : LKm RL 120 yX5_sheet := Or.inl (gT_mem (tb5 59 rfl) rfl)
theorem kL_121 : Cond.constantLong RL 121 (4294967295) ∈ gT := gT_mem (tb5 126 rfl) rfl
theorem lkL_123 : LKm RL 123 yX4_write := Or.inl (gT_mem (tb3 80 rfl) rfl)
theorem lkL_127 : LKm RL 127 yX5_write := Or.inl (gT_mem (tb5 68 rfl) rfl)
theorem lkL_128 : LKm RL 128 yX4_copy := Or.inl (gT_mem (tb3 97 rfl) rfl)
theorem lkL_132 : LKm RL 132 yX5_copy := Or.inl (gT_mem (tb5 80 rfl) rfl)
theorem lkL_133 : LKm RL 133 yX4_lays := Or.inl (gT_mem (tb3 108 rfl) rfl)
theorem lkL_136 : LKm RL 136 yX5_lays := Or.inl (gT_mem (tb5 84 rfl) rfl)
theorem lkL_137 : LKm RL 137 yX4_book := Or.inl (gT_mem (tb3 114 rfl) rfl)
theorem lkL_140 : LKm RL 140 yX5_book := Or.inl (gT_mem (tb5 88 rfl) rfl)
theorem lkL_141 : LKm RL 141 yX4_read := Or.inl (gT_mem (tb3 122 rfl) rfl)
theorem lkL_144 : LKm RL 144 yX5_read := Or.inl (gT_mem (tb5 92 rfl) rfl)
theorem lkL_145 : LKm RL 145 yX4_image := Or.inl (gT_mem (tb3 130 rfl) rfl)
theorem lkL_148 : LKm RL 148 yX5_image := Or.inl (gT_mem (tb5 100 rfl) rfl)
theorem lkL_149 : LKm RL 149 yX4_undo := Or.inl (gT_mem (tb3 134 rfl) rfl)
theorem lkL_152 : LKm RL 152 yX5_undo := Or.inl (gT_mem (tb5 104 rfl) rfl)
theorem lkL_153 : LKm RL 153 yX4_tear := Or.inl (gT_mem (tb3 138 rfl) rfl)
theorem lkL_156 : LKm RL 156 yX5_tear := Or.inl (gT_mem (tb5 108 rfl) rfl)
theorem lkL_157 : LKm RL 157 yX4_count := Or.inl (gT_mem (tb3 142 rfl) rfl)
theorem lkL_160 : LKm RL 160 yX5_count := Or.inl (gT_mem (tb5 112 rfl) rfl)
theorem lkL_161 : LKm RL 161 yX4_status := Or.inl (gT_mem (tb3 156 rfl) rfl)
theorem lkL_164 : LKm RL 164 yX5_status := Or.inl (gT_mem (tb5 120 rfl) rfl)
end
section
/-! numbers, booleans; rows whose index is nI p -/
def bI (b : Bool) : Int32 := match b with
  | true => nI 1
  | false => nI 0
theorem bI_nar (b : Bool) : narrow .boolean (.int (bI b)) = .int (bI b) := by cases b <;> rfl
theorem bI_fit (b : Bool) : fits .boolean (.int (bI b)) = true := by cases b <;> rfl
theorem bI_0 {b : Bool} : bI b = 0 ↔ b = false := by cases b <;> decide
theorem bI_n0 {b : Bool} : ¬ bI b = 0 ↔ b = true := by cases b <;> decide
theorem inc1 (i : Nat) : nI i + Int32.ofInt 1 = nI (i + 1) := nI_1 i
theorem inc1_ (x : Int32) : x + Int32.ofInt 1 = x + nI 1 := rfl
theorem dec1 (i : Nat) : nI (i + 1) + Int32.ofInt (-1) = nI i := pk_m1 i
theorem dec1_ (x : Int32) : x + Int32.ofInt (-1) = x + (-1) := rfl
theorem incN (x : Int32) (n : Int) : x + Int32.ofInt n = x + Int32.ofInt n := rfl
theorem toI_eq {x : Int32} (v : Nat) (h : x.toInt = (v : Int)) (hv : v < 2 ^ 31) : x = nI v := Int32.toInt_inj.mp (by rw [h, nI_toInt hv])
theorem toI_ne {x : Int32} {lo hi : Int} (v : Nat) (h : x.toInt < lo ∨ hi < x.toInt) (hv : lo ≤ (v : Int) ∧ (v : Int) ≤ hi ∧ v < 2 ^ 31) : ¬ x = nI v := by
  rintro rfl
  rw [nI_toInt hv.2.2] at h
  omega
theorem toI_nq {x : Int32} {v : Nat} (h : ¬ x = nI v) (hv : v < 2 ^ 31) : ¬ (v : Int) = x.toInt := fun q => h (toI_eq v q.symm hv)
theorem lsw_d {df v : Int} : ∀ {ps : List (Int × Int)}, (∀ q ∈ ps, ¬ q.1 = v) → Op.lookupswitch.offset ps df v = df
  | [], _ => rfl
  | (a, o) :: r, h => by
    rw [Op.lookupswitch.offset, if_neg (h (a, o) List.mem_cons_self)]
    exact lsw_d (fun q hq => h q (List.mem_cons_of_mem _ hq))
theorem vp_in_N {p n : Nat} (hp : p < n) (hn : n < 2 ^ 31) : vp_in (nI p) n := vp_in_nI hp hn
theorem r_if_eqB {X : SX} {d : Nat} {M : Mt} {pc : Nat} {lv : List (Option Value)} {st : List Value} {h : AH} {rv : Option Value} {Q : AH → Prop} {b : Bool} {off : Int} (tgt : Nat) (hd : decode M.2.1 pc = .ok (.ifCond .eq off, 3)) (ht : (pc : Int) + off = (tgt : Int)) (kt : b = false → RunQ X d M tgt lv st h rv Q) (kf : b = true → RunQ X d M (pc + 3) lv st h rv Q) : RunQ X d M pc lv (.int (bI b) :: st) h rv Q := r_if_eq tgt hd ht (fun q => kt (bI_0.mp q)) (fun q => kf (bI_n0.mp q))
theorem r_if_neB {X : SX} {d : Nat} {M : Mt} {pc : Nat} {lv : List (Option Value)} {st : List Value} {h : AH} {rv : Option Value} {Q : AH → Prop} {b : Bool} {off : Int} (tgt : Nat) (hd : decode M.2.1 pc = .ok (.ifCond .ne off, 3)) (ht : (pc : Int) + off = (tgt : Int)) (kt : b = true → RunQ X d M tgt lv st h rv Q) (kf : b = false → RunQ X d M (pc + 3) lv st h rv Q) : RunQ X d M pc lv (.int (bI b) :: st) h rv Q := r_if_ne tgt hd ht (fun q => kt (bI_n0.mp q)) (fun q => kf (bI_0.mp q))
section N
variable {X : SX} {d : Nat} {M : Mt} {pc : Nat} {lv : List (Option Value)} {st : List Value} {h : AH} {rv : Option Value} {Q : AH → Prop}
theorem r_ialdN {q n p : Nat} {f : Nat → Int32} {x : Int32} (hd : decode M.2.1 pc = .ok (.iaload, 1)) (hq : h[q]? = some (.inl (0, n, .inl f))) (hp : p < n) (hn : n < 2 ^ 31) (hv : f p = x) (k : RunQ X d M (pc + 1) lv (.int x :: st) h rv Q) : RunQ X d M pc lv (.int (nI p) :: .ref q :: st) h rv Q := by
  refine r_iaload hd hq (vp_in_N hp hn) ?_
  rw [nI_clamp (Nat.lt_trans hp hn), hv]
  exact k
theorem r_baldN {q n p : Nat} {f : Nat → Int32} {x : Int32} (hd : decode M.2.1 pc = .ok (.baload, 1)) (hq : h[q]? = some (.inl (2, n, .inl f))) (hp : p < n) (hn : n < 2 ^ 31) (hv : f p = x) (k : RunQ X d M (pc + 1) lv (.int x :: st) h rv Q) : RunQ X d M pc lv (.int (nI p) :: .ref q :: st) h rv Q := by
  refine r_baload hd hq (vp_in_N hp hn) ?_
  rw [nI_clamp (Nat.lt_trans hp hn), hv]
  exact k
theorem r_laldN {q n p : Nat} {f : Nat → Int64} {x : Int64} (hd : decode M.2.1 pc = .ok (.laload, 1)) (hq : h[q]? = some (.inl (1, n, .inr (.inl f)))) (hp : p < n) (hn : n < 2 ^ 31) (hv : f p = x) (k : RunQ X d M (pc + 1) lv (.long x :: st) h rv Q) : RunQ X d M pc lv (.int (nI p) :: .ref q :: st) h rv Q := by
  refine r_laload hd hq (vp_in_N hp hn) ?_
  rw [nI_clamp (Nat.lt_trans hp hn), hv]
  exact k
theorem r_aaldN {q n p g : Nat} {f : Nat → Option Nat} (hd : decode M.2.1 pc = .ok (.aaload, 1)) (hq : h[q]? = some (.inl (3, n, .inr (.inr (.inr (.inr f)))))) (hp : p < n) (hn : n < 2 ^ 31) (hv : f p = some g) (k : RunQ X d M (pc + 1) lv (.ref g :: st) h rv Q) : RunQ X d M pc lv (.int (nI p) :: .ref q :: st) h rv Q :=
  r_aaload hd hq (vp_in_N hp hn) (by rw [nI_clamp (Nat.lt_trans hp hn)]; exact hv) k
theorem r_kaldN {p : Nat} (hd : decode M.2.1 pc = .ok (.iaload, 1)) (hp : p < 6) (k : RunQ X d M (pc + 1) lv (.int (kAbove p) :: st) h rv Q) : RunQ X d M pc lv (.int (nI p) :: .ref 1001 :: st) h rv Q := by
  refine r_kaload hd (vp_in_N hp (by decide)) ?_
  rw [nI_clamp (by omega)]
  exact k
theorem r_taldN {p : Nat} (hd : decode M.2.1 pc = .ok (.iaload, 1)) (hp : p < X.1 ∧ X.1 < 2 ^ 31) (k : RunQ X d M (pc + 1) lv (.int (X.2 p) :: st) h rv Q) : RunQ X d M pc lv (.int (nI p) :: .ref 1000 :: st) h rv Q := by
  refine r_taload hd (vp_in_N hp.1 hp.2) ?_
  rw [nI_clamp (by omega)]
  exact k
theorem r_iastN {q n p : Nat} {f : Nat → Int32} {x : Int32} {h' : AH} (hd : decode M.2.1 pc = .ok (.iastore, 1)) (hq : h[q]? = some (.inl (0, n, .inl f))) (hp : p < n) (hn : n < 2 ^ 31) (hh : h.set q (.inl (0, n, .inl (upd f p x))) = h') (k : RunQ X d M (pc + 1) lv st h' rv Q) : RunQ X d M pc lv (.int x :: .int (nI p) :: .ref q :: st) h rv Q :=
  r_iastore hd hq (vp_in_N hp hn) (by rw [nI_clamp (Nat.lt_trans hp hn)]; exact hh) k
theorem r_bastN {q n p : Nat} {f : Nat → Int32} {x : Int32} {h' : AH} (hd : decode M.2.1 pc = .ok (.bastore, 1)) (hq : h[q]? = some (.inl (2, n, .inl f))) (hp : p < n) (hn : n < 2 ^ 31) (hh : h.set q (.inl (2, n, .inl (upd f p (vp_nar .byte x)))) = h') (k : RunQ X d M (pc + 1) lv st h' rv Q) : RunQ X d M pc lv (.int x :: .int (nI p) :: .ref q :: st) h rv Q :=
  r_bastore hd hq (vp_in_N hp hn) (by rw [nI_clamp (Nat.lt_trans hp hn)]; exact hh) k
theorem r_lastN {q n p : Nat} {f : Nat → Int64} {x : Int64} {h' : AH} (hd : decode M.2.1 pc = .ok (.lastore, 1)) (hq : h[q]? = some (.inl (1, n, .inr (.inl f)))) (hp : p < n) (hn : n < 2 ^ 31) (hh : h.set q (.inl (1, n, .inr (.inl (vp_updL f p x)))) = h') (k : RunQ X d M (pc + 1) lv st h' rv Q) : RunQ X d M pc lv (.long x :: .int (nI p) :: .ref q :: st) h rv Q :=
  r_lastore hd hq (vp_in_N hp hn) (by rw [nI_clamp (Nat.lt_trans hp hn)]; exact hh) k
end N
end
section
/-! the class's small static methods, and Math's -/
theorem ret_t {b : Bool} (h : b = true) : some (Value.int (nI 1)) = some (.int (bI b)) := by rw [h]; rfl
theorem ret_f {b : Bool} (h : b = false) : some (Value.int (nI 0)) = some (.int (bI b)) := by rw [h]; rfl
theorem n0e : nI 0 = 0 := rfl
/-- v is from lo to hi -/
def inR (v lo hi : Int32) : Bool := decide (lo ≤ v) && decide (v ≤ hi)
theorem inR_t {v lo hi : Int32} (h1 : ¬ v < lo) (h2 : ¬ hi < v) : inR v lo hi = true := by simp [inR, Int32.not_lt.mp h1, Int32.not_lt.mp h2]
theorem inR_f1 {v lo hi : Int32} (h1 : v < lo) : inR v lo hi = false := by simp [inR, Int32.not_le.mpr h1]
theorem inR_f2 {v lo hi : Int32} (h1 : hi < v) : inR v lo hi = false := by simp [inR, Int32.not_le.mpr h1]
theorem S_X4_within {v lo hi : Int32} {h : AH} : Sp 0 mX4_within [.int v, .int lo, .int hi] h (some (.int (bI (inR v lo hi)))) h := by
  refine Sp.of [some (.int v), some (.int lo), some (.int hi)] mrX4_within.1 rfl (Nat.le_of_ble_eq_true rfl) rfl (fun X => ?_)
  refine r_iload_n dX4_within_0 rfl ?_
  refine r_iload_n dX4_within_1 rfl ?_
  refine r_icmp_lt 14 dX4_within_2 (by decide) (fun c2 => ?_) (fun c2 => ?_)
  · refine r_iconst (v := nI 0) dX4_within_14 (by decide) ?_
    refine r_iret dX4_within_15 rfl (by first | exact bI_nar _ | rfl) ?_ ?_
    · first | exact ret_t (inR_t c2 c7) | exact ret_f (inR_f1 c2) | exact ret_f (inR_f2 c7)
    · exact HE.rf
  · refine r_iload_n dX4_within_5 rfl ?_
    refine r_iload_n dX4_within_6 rfl ?_
    refine r_icmp_gt 14 dX4_within_7 (by decide) (fun c7 => ?_) (fun c7 => ?_)
    · refine r_iconst (v := nI 0) dX4_within_14 (by decide) ?_
      refine r_iret dX4_within_15 rfl (by first | exact bI_nar _ | rfl) ?_ ?_
      · first | exact ret_t (inR_t c2 c7) | exact ret_f (inR_f1 c2) | exact ret_f (inR_f2 c7)
      · exact HE.rf
    · refine r_iconst (v := nI 1) dX4_within_10 (by decide) ?_
      refine r_goto 15 dX4_within_11 (by decide) ?_
      refine r_iret dX4_within_15 rfl (by first | exact bI_nar _ | rfl) ?_ ?_
      · first | exact ret_t (inR_t c2 c7) | exact ret_f (inR_f1 c2) | exact ret_f (inR_f2 c7)
      · exact HE.rf
def isIn (set i : Int32) : Bool := decide ((set >>> (i &&& 31)) &&& nI 1 = nI 1)
theorem S_X4_isIn {set i : Int32} {h : AH} : Sp 0 mX4_isIn [.int set, .int i] h (some (.int (bI (isIn set i)))) h := by
  refine Sp.of [some (.int set), some (.int i)] mrX4_isIn.1 rfl (Nat.le_of_ble_eq_true rfl) rfl (fun X => ?_)
  refine r_iload_n dX4_isIn_0 rfl ?_
  refine r_iload_n dX4_isIn_1 rfl ?_
  refine r_ishr dX4_isIn_2 ?_
  refine r_iconst (v := nI 1) dX4_isIn_3 (by decide) ?_
  refine r_iand dX4_isIn_4 ?_
  refine r_iconst (v := nI 1) dX4_isIn_5 (by decide) ?_
  refine r_icmp_ne 13 dX4_isIn_6 (by decide) (fun c6 => ?_) (fun c6 => ?_)
  · refine r_iconst (v := nI 0) dX4_isIn_13 (by decide) ?_
    refine r_iret dX4_isIn_14 rfl (by first | exact bI_nar _ | rfl) ?_ ?_
    · first | exact ret_t (decide_eq_true c6) | exact ret_f (decide_eq_false c6)
    · exact HE.rf
  · refine r_iconst (v := nI 1) dX4_isIn_9 (by decide) ?_
    refine r_goto 14 dX4_isIn_10 (by decide) ?_
    refine r_iret dX4_isIn_14 rfl (by first | exact bI_nar _ | rfl) ?_ ?_
    · first | exact ret_t (decide_eq_true c6) | exact ret_f (decide_eq_false c6)
    · exact HE.rf
theorem S_X4_isKind {v : Int32} {h : AH} : Sp 1 mX4_isKind [.int v] h (some (.int (bI (inR v (nI 0) (nI 5))))) h := by
  refine Sp.of [some (.int v)] mrX4_isKind.1 rfl (Nat.le_of_ble_eq_true rfl) rfl (fun X => ?_)
  refine r_iload_n dX4_isKind_0 rfl ?_
  refine r_iconst (v := nI 0) dX4_isKind_1 (by decide) ?_
  refine r_iconst (v := nI 5) dX4_isKind_2 (by decide) ?_
  refine r_s3r S_X4_within (Nat.le_of_ble_eq_true rfl) mrX4_within lkX4_50 dX4_isKind_3 (Nat.le_of_ble_eq_true rfl) ?_
  refine r_iret dX4_isKind_6 rfl (by first | exact bI_nar _ | rfl) ?_ ?_
  · rfl
  · exact HE.rf
theorem S_X4_isSheet {v : Int32} {h : AH} : Sp 1 mX4_isSheet [.int v] h (some (.int (bI (inR v (nI 0) (nI 3))))) h := by
  refine Sp.of [some (.int v)] mrX4_isSheet.1 rfl (Nat.le_of_ble_eq_true rfl) rfl (fun X => ?_)
  refine r_iload_n dX4_isSheet_0 rfl ?_
  refine r_iconst (v := nI 0) dX4_isSheet_1 (by decide) ?_
  refine r_iconst (v := nI 3) dX4_isSheet_2 (by decide) ?_
  refine r_s3r S_X4_within (Nat.le_of_ble_eq_true rfl) mrX4_within lkX4_50 dX4_isSheet_3 (Nat.le_of_ble_eq_true rfl) ?_
  refine r_iret dX4_isSheet_6 rfl (by first | exact bI_nar _ | rfl) ?_ ?_
  · rfl
  · exact HE.rf
def isW (v : Int32) : Bool := decide (v = nI 0 ∨ v = nI 8 ∨ v = nI 16 ∨ v = nI 64)
theorem S_X4_isWidth {v : Int32} {h : AH} : Sp 0 mX4_isWidth [.int v] h (some (.int (bI (isW v)))) h := by
  refine Sp.of [some (.int v)] mrX4_isWidth.1 rfl (Nat.le_of_ble_eq_true rfl) rfl (fun X => ?_)
  refine r_iload_n dX4_isWidth_0 rfl ?_
  refine r_if_eq 22 dX4_isWidth_1 (by decide) (fun c1 => ?_) (fun c1 => ?_)
  · refine r_iconst (v := nI 1) dX4_isWidth_22 (by decide) ?_
    refine r_goto 27 dX4_isWidth_23 (by decide) ?_
    refine r_iret dX4_isWidth_27 rfl (by first | exact bI_nar _ | rfl) ?_ ?_
    · first | exact ret_t (decide_eq_true (Or.inl c1)) | exact ret_t (decide_eq_true (Or.inr (Or.inl c7))) | exact ret_t (decide_eq_true (Or.inr (Or.inr (Or.inl c13)))) | exact ret_t (decide_eq_true (Or.inr (Or.inr (Or.inr c19)))) | exact ret_f (decide_eq_false (fun z => z.elim c1 (fun z => z.elim c7 (fun z => z.elim c13 c19))))
    · exact HE.rf
  · refine r_iload_n dX4_isWidth_4 rfl ?_
    refine r_bipush (v := nI 8) dX4_isWidth_5 (by decide) ?_
    refine r_icmp_eq 22 dX4_isWidth_7 (by decide) (fun c7 => ?_) (fun c7 => ?_)
    · refine r_iconst (v := nI 1) dX4_isWidth_22 (by decide) ?_
      refine r_goto 27 dX4_isWidth_23 (by decide) ?_
      refine r_iret dX4_isWidth_27 rfl (by first | exact bI_nar _ | rfl) ?_ ?_
      · first | exact ret_t (decide_eq_true (Or.inl c1)) | exact ret_t (decide_eq_true (Or.inr (Or.inl c7))) | exact ret_t (decide_eq_true (Or.inr (Or.inr (Or.inl c13)))) | exact ret_t (decide_eq_true (Or.inr (Or.inr (Or.inr c19)))) | exact ret_f (decide_eq_false (fun z => z.elim c1 (fun z => z.elim c7 (fun z => z.elim c13 c19))))
      · exact HE.rf
    · refine r_iload_n dX4_isWidth_10 rfl ?_
      refine r_bipush (v := nI 16) dX4_isWidth_11 (by decide) ?_
      refine r_icmp_eq 22 dX4_isWidth_13 (by decide) (fun c13 => ?_) (fun c13 => ?_)
      · refine r_iconst (v := nI 1) dX4_isWidth_22 (by decide) ?_
        refine r_goto 27 dX4_isWidth_23 (by decide) ?_
        refine r_iret dX4_isWidth_27 rfl (by first | exact bI_nar _ | rfl) ?_ ?_
        · first | exact ret_t (decide_eq_true (Or.inl c1)) | exact ret_t (decide_eq_true (Or.inr (Or.inl c7))) | exact ret_t (decide_eq_true (Or.inr (Or.inr (Or.inl c13)))) | exact ret_t (decide_eq_true (Or.inr (Or.inr (Or.inr c19)))) | exact ret_f (decide_eq_false (fun z => z.elim c1 (fun z => z.elim c7 (fun z => z.elim c13 c19))))
        · exact HE.rf
      · refine r_iload_n dX4_isWidth_16 rfl ?_
        refine r_bipush (v := nI 64) dX4_isWidth_17 (by decide) ?_
        refine r_icmp_ne 26 dX4_isWidth_19 (by decide) (fun c19 => ?_) (fun c19 => ?_)
        · refine r_iconst (v := nI 0) dX4_isWidth_26 (by decide) ?_
          refine r_iret dX4_isWidth_27 rfl (by first | exact bI_nar _ | rfl) ?_ ?_
          · first | exact ret_t (decide_eq_true (Or.inl c1)) | exact ret_t (decide_eq_true (Or.inr (Or.inl c7))) | exact ret_t (decide_eq_true (Or.inr (Or.inr (Or.inl c13)))) | exact ret_t (decide_eq_true (Or.inr (Or.inr (Or.inr c19)))) | exact ret_f (decide_eq_false (fun z => z.elim c1 (fun z => z.elim c7 (fun z => z.elim c13 c19))))
          · exact HE.rf
        · refine r_iconst (v := nI 1) dX4_isWidth_22 (by decide) ?_
          refine r_goto 27 dX4_isWidth_23 (by decide) ?_
          refine r_iret dX4_isWidth_27 rfl (by first | exact bI_nar _ | rfl) ?_ ?_
          · first | exact ret_t (decide_eq_true (Or.inl c1)) | exact ret_t (decide_eq_true (Or.inr (Or.inl c7))) | exact ret_t (decide_eq_true (Or.inr (Or.inr (Or.inl c13)))) | exact ret_t (decide_eq_true (Or.inr (Or.inr (Or.inr c19)))) | exact ret_f (decide_eq_false (fun z => z.elim c1 (fun z => z.elim c7 (fun z => z.elim c13 c19))))
          · exact HE.rf
/-- how much a kind shades -/
def shd (k : Int32) : Int32 := if k = nI 1 then nI 1 else if k = nI 4 then nI 2 else nI 0
theorem S_X4_shadeOf {v : Int32} {h : AH} : Sp 0 mX4_shadeOf [.int v] h (some (.int (shd v))) h := by
  refine Sp.of [some (.int v)] mrX4_shadeOf.1 rfl (Nat.le_of_ble_eq_true rfl) rfl (fun X => ?_)
  refine r_iload_n dX4_shadeOf_0 rfl ?_
  by_cases c1_1 : v = nI 1
  · refine r_lsw dX4_shadeOf_1 (by decide) ⟨27, 28, (by rw [c1_1]; decide), by decide, ?_⟩
    refine r_iconst (v := nI 1) dX4_shadeOf_28 (by decide) ?_
    refine r_iret dX4_shadeOf_29 rfl rfl ?_ ?_
    · first | (rw [shd, if_pos c1_1]; done) | (rw [shd, if_neg c1_1, if_pos c1_4]; done) | (rw [shd, if_neg c1_1, if_neg c1_4]; done)
    · exact HE.rf
  · by_cases c1_4 : v = nI 4
    · refine r_lsw dX4_shadeOf_1 (by decide) ⟨29, 30, (by rw [c1_4]; decide), by decide, ?_⟩
      refine r_iconst (v := nI 2) dX4_shadeOf_30 (by decide) ?_
      refine r_iret dX4_shadeOf_31 rfl rfl ?_ ?_
      · first | (rw [shd, if_pos c1_1]; done) | (rw [shd, if_neg c1_1, if_pos c1_4]; done) | (rw [shd, if_neg c1_1, if_neg c1_4]; done)
      · exact HE.rf
    · refine r_lsw dX4_shadeOf_1 (by decide) ⟨31, 32, lsw_d (by intro q hq; simp only [List.mem_cons, List.not_mem_nil, or_false] at hq; rcases hq with rfl | rfl <;> first | exact toI_nq c1_1 (by decide) | exact toI_nq c1_4 (by decide)), by decide, ?_⟩
      refine r_iconst (v := nI 0) dX4_shadeOf_32 (by decide) ?_
      refine r_iret dX4_shadeOf_33 rfl rfl ?_ ?_
      · first | (rw [shd, if_pos c1_1]; done) | (rw [shd, if_neg c1_1, if_pos c1_4]; done) | (rw [shd, if_neg c1_1, if_neg c1_4]; done)
      · exact HE.rf
def fmod (x y : Int32) : Int32 := if 0 ≤ x ^^^ y then x - x / y * y else if x - x / y * y = 0 then x - x / y * y else x - x / y * y + y
theorem S_J9_floorMod_7cf53 {x y : Int32} {h : AH} (hy : ¬ y = 0) : Sp 0 mJ9_floorMod_7cf53 [.int x, .int y] h (some (.int (fmod x y))) h := by
  refine Sp.of [some (.int x), some (.int y), none] mrJ9_floorMod_7cf53.1 rfl (Nat.le_of_ble_eq_true rfl) rfl (fun X => ?_)
  refine r_iload_n dJ9_floorMod_7cf53_0 rfl ?_
  refine r_iload_n dJ9_floorMod_7cf53_1 rfl ?_
  refine r_irem dJ9_floorMod_7cf53_2 hy ?_
  refine r_istore_n (lv' := [_, _, _]) dJ9_floorMod_7cf53_3 (by decide) rfl ?_
  refine r_iload_n dJ9_floorMod_7cf53_4 rfl ?_
  refine r_iload_n dJ9_floorMod_7cf53_5 rfl ?_
  refine r_ixor dJ9_floorMod_7cf53_6 ?_
  refine r_if_ge 18 dJ9_floorMod_7cf53_7 (by decide) (fun c7 => ?_) (fun c7 => ?_)
  · refine r_iload_n dJ9_floorMod_7cf53_18 rfl ?_
    refine r_iret dJ9_floorMod_7cf53_19 rfl rfl ?_ ?_
    · first | (simp only [fmod, c7, if_true]; done) | simp only [fmod, c7, c11, if_true, if_false]
    · exact HE.rf
  · refine r_iload_n dJ9_floorMod_7cf53_10 rfl ?_
    refine r_if_eq 18 dJ9_floorMod_7cf53_11 (by decide) (fun c11 => ?_) (fun c11 => ?_)
    · refine r_iload_n dJ9_floorMod_7cf53_18 rfl ?_
      refine r_iret dJ9_floorMod_7cf53_19 rfl rfl ?_ ?_
      · first | (simp only [fmod, c7, if_true]; done) | simp only [fmod, c7, c11, if_true, if_false]
      · exact HE.rf
    · refine r_iload_n dJ9_floorMod_7cf53_14 rfl ?_
      refine r_iload_n dJ9_floorMod_7cf53_15 rfl ?_
      refine r_iadd dJ9_floorMod_7cf53_16 ?_
      refine r_iret dJ9_floorMod_7cf53_17 rfl rfl ?_ ?_
      · simp only [fmod, c7, c11, if_true, if_false]
      · exact HE.rf
theorem S_J9_abs_0f7a4 {x : Int32} {h : AH} : Sp 0 mJ9_abs_0f7a4 [.int x] h (some (.int (if 0 ≤ x then x else -x))) h := by
  refine Sp.of [some (.int x)] mrJ9_abs_0f7a4.1 rfl (Nat.le_of_ble_eq_true rfl) rfl (fun X => ?_)
  refine r_iload_n dJ9_abs_0f7a4_0 rfl ?_
  refine r_if_ge 9 dJ9_abs_0f7a4_1 (by decide) (fun c1 => ?_) (fun c1 => ?_)
  · refine r_iload_n dJ9_abs_0f7a4_9 rfl ?_
    refine r_iret dJ9_abs_0f7a4_10 rfl rfl ?_ ?_
    · simp only [c1, if_true, if_false]
    · exact HE.rf
  · refine r_iload_n dJ9_abs_0f7a4_4 rfl ?_
    refine r_ineg dJ9_abs_0f7a4_5 ?_
    refine r_goto 10 dJ9_abs_0f7a4_6 (by decide) ?_
    refine r_iret dJ9_abs_0f7a4_10 rfl rfl ?_ ?_
    · simp only [c1, if_true, if_false]
    · exact HE.rf
theorem S_J9_max_7cf53 {x y : Int32} {h : AH} : Sp 0 mJ9_max_7cf53 [.int x, .int y] h (some (.int (if x < y then y else x))) h := by
  refine Sp.of [some (.int x), some (.int y)] mrJ9_max_7cf53.1 rfl (Nat.le_of_ble_eq_true rfl) rfl (fun X => ?_)
  refine r_iload_n dJ9_max_7cf53_0 rfl ?_
  refine r_iload_n dJ9_max_7cf53_1 rfl ?_
  refine r_icmp_lt 9 dJ9_max_7cf53_2 (by decide) (fun c2 => ?_) (fun c2 => ?_)
  · refine r_iload_n dJ9_max_7cf53_9 rfl ?_
    refine r_iret dJ9_max_7cf53_10 rfl rfl ?_ ?_
    · simp only [c2, if_true, if_false]
    · exact HE.rf
  · refine r_iload_n dJ9_max_7cf53_5 rfl ?_
    refine r_goto 10 dJ9_max_7cf53_6 (by decide) ?_
    refine r_iret dJ9_max_7cf53_10 rfl rfl ?_ ?_
    · simp only [c2, if_true, if_false]
    · exact HE.rf
theorem S_J9_min_7cf53 {x y : Int32} {h : AH} : Sp 0 mJ9_min_7cf53 [.int x, .int y] h (some (.int (if y < x then y else x))) h := by
  refine Sp.of [some (.int x), some (.int y)] mrJ9_min_7cf53.1 rfl (Nat.le_of_ble_eq_true rfl) rfl (fun X => ?_)
  refine r_iload_n dJ9_min_7cf53_0 rfl ?_
  refine r_iload_n dJ9_min_7cf53_1 rfl ?_
  refine r_icmp_gt 9 dJ9_min_7cf53_2 (by decide) (fun c2 => ?_) (fun c2 => ?_)
  · refine r_iload_n dJ9_min_7cf53_9 rfl ?_
    refine r_iret dJ9_min_7cf53_10 rfl rfl ?_ ?_
    · simp only [c2, if_true, if_false]
    · exact HE.rf
  · refine r_iload_n dJ9_min_7cf53_5 rfl ?_
    refine r_goto 10 dJ9_min_7cf53_6 (by decide) ?_
    refine r_iret dJ9_min_7cf53_10 rfl rfl ?_ ?_
    · simp only [c2, if_true, if_false]
    · exact HE.rf
def ush (x y : Int32) : Int32 := (x.toUInt32 >>> (y.toUInt32 &&& Int32.toUInt32 31)).toInt32
def bc1 (x : Int32) : Int32 := x - (ush x (nI 1) &&& 1431655765)
def bc2 (x : Int32) : Int32 := (bc1 x &&& 858993459) + (ush (bc1 x) (nI 2) &&& 858993459)
def bc3 (x : Int32) : Int32 := (bc2 x + ush (bc2 x) (nI 4)) &&& 252645135
def bc4 (x : Int32) : Int32 := bc3 x + ush (bc3 x) (nI 8)
def bitCnt (x : Int32) : Int32 := (bc4 x + ush (bc4 x) (nI 16)) &&& nI 63
theorem S_J6_bitCount_0f7a4 {x : Int32} {h : AH} : Sp 0 mJ6_bitCount_0f7a4 [.int x] h (some (.int (bitCnt x))) h := by
  refine Sp.of [some (.int x)] mrJ6_bitCount_0f7a4.1 rfl (Nat.le_of_ble_eq_true rfl) rfl (fun X => ?_)
  refine r_iload_n dJ6_bitCount_0f7a4_0 rfl ?_
  refine r_iload_n dJ6_bitCount_0f7a4_1 rfl ?_
  refine r_iconst (v := nI 1) dJ6_bitCount_0f7a4_2 (by decide) ?_
  refine r_iushr dJ6_bitCount_0f7a4_3 rfl ?_
  refine r_ldcw kJ6_265 dJ6_bitCount_0f7a4_4 ?_
  refine r_iand dJ6_bitCount_0f7a4_7 ?_
  refine r_isub dJ6_bitCount_0f7a4_8 ?_
  refine r_istore_n (lv' := [_]) dJ6_bitCount_0f7a4_9 (by decide) rfl ?_
  refine r_iload_n dJ6_bitCount_0f7a4_10 rfl ?_
  refine r_ldcw kJ6_266 dJ6_bitCount_0f7a4_11 ?_
  refine r_iand dJ6_bitCount_0f7a4_14 ?_
  refine r_iload_n dJ6_bitCount_0f7a4_15 rfl ?_
  refine r_iconst (v := nI 2) dJ6_bitCount_0f7a4_16 (by decide) ?_
  refine r_iushr dJ6_bitCount_0f7a4_17 rfl ?_
  refine r_ldcw kJ6_266 dJ6_bitCount_0f7a4_18 ?_
  refine r_iand dJ6_bitCount_0f7a4_21 ?_
  refine r_iadd dJ6_bitCount_0f7a4_22 ?_
  refine r_istore_n (lv' := [_]) dJ6_bitCount_0f7a4_23 (by decide) rfl ?_
  refine r_iload_n dJ6_bitCount_0f7a4_24 rfl ?_
  refine r_iload_n dJ6_bitCount_0f7a4_25 rfl ?_
  refine r_iconst (v := nI 4) dJ6_bitCount_0f7a4_26 (by decide) ?_
  refine r_iushr dJ6_bitCount_0f7a4_27 rfl ?_
  refine r_iadd dJ6_bitCount_0f7a4_28 ?_
  refine r_ldcw kJ6_267 dJ6_bitCount_0f7a4_29 ?_
  refine r_iand dJ6_bitCount_0f7a4_32 ?_
  refine r_istore_n (lv' := [_]) dJ6_bitCount_0f7a4_33 (by decide) rfl ?_
  refine r_iload_n dJ6_bitCount_0f7a4_34 rfl ?_
  refine r_iload_n dJ6_bitCount_0f7a4_35 rfl ?_
  refine r_bipush (v := nI 8) dJ6_bitCount_0f7a4_36 (by decide) ?_
  refine r_iushr dJ6_bitCount_0f7a4_38 rfl ?_
  refine r_iadd dJ6_bitCount_0f7a4_39 ?_
  refine r_istore_n (lv' := [_]) dJ6_bitCount_0f7a4_40 (by decide) rfl ?_
  refine r_iload_n dJ6_bitCount_0f7a4_41 rfl ?_
  refine r_iload_n dJ6_bitCount_0f7a4_42 rfl ?_
  refine r_bipush (v := nI 16) dJ6_bitCount_0f7a4_43 (by decide) ?_
  refine r_iushr dJ6_bitCount_0f7a4_45 rfl ?_
  refine r_iadd dJ6_bitCount_0f7a4_46 ?_
  refine r_istore_n (lv' := [_]) dJ6_bitCount_0f7a4_47 (by decide) rfl ?_
  refine r_iload_n dJ6_bitCount_0f7a4_48 rfl ?_
  refine r_bipush (v := nI 63) dJ6_bitCount_0f7a4_49 (by decide) ?_
  refine r_iand dJ6_bitCount_0f7a4_51 ?_
  refine r_iret dJ6_bitCount_0f7a4_52 rfl rfl ?_ ?_
  · rfl
  · exact HE.rf
end
section
/-! the Row: its state, and what its methods do -/
/-- step, roots, lantern, bright, count; kinds, heard, stumbled, nerves -/
abbrev RS : Type := (Int32 × Int32 × Int32 × Int32 × Nat) × (Nat → Int32) × (Nat → Int32) × (Nat → Int32) × (Nat → Int32)
abbrev hRc (t r l b : Int32) (n : Nat) (K Hd St Nv : Nat → Int32) (fl : Int32) : AH := [.inr (1, [.int t, .int r, .int l, .int b, .int (nI n), .ref 1, .ref 2, .ref 3, .ref 4, .int fl]), .inl (0, 8, .inl K), .inl (0, 8, .inl Hd), .inl (0, 8, .inl St), .inl (0, 8, .inl Nv)]
def hasB (n : Nat) (x : Int32) : Bool := decide (0 ≤ x) && decide (x < nI n)
theorem hasB_t {n : Nat} {x : Int32} (h1 : ¬ x < 0) (h2 : ¬ nI n ≤ x) : hasB n x = true := by simp [hasB, Int32.not_lt.mp h1, Int32.not_le.mp h2]
theorem hasB_f1 {n : Nat} {x : Int32} (h1 : x < 0) : hasB n x = false := by simp [hasB, Int32.not_le.mpr h1]
theorem hasB_f2 {n : Nat} {x : Int32} (h1 : nI n ≤ x) : hasB n x = false := by simp [hasB, Int32.not_lt.mpr h1]
theorem hasB_of {n : Nat} {x : Int32} (h : hasB n x = true) (hn : n < 2 ^ 31) : ∃ p, p < n ∧ x = nI p := by
  simp only [hasB, Bool.and_eq_true, decide_eq_true_eq] at h
  have h3 : ¬ x < 0 := Int32.not_lt.mpr h.1
  obtain ⟨j, hj, rfl⟩ := nI_of h3
  exact ⟨j, (nI_ltI hj hn).mp h.2, rfl⟩
theorem hasB_n {n p : Nat} (h : p < n) (hn : n < 2 ^ 31) : hasB n (nI p) = true := hasB_t (nI_pos (by omega)) (nI_ge h hn)
theorem S_X1_has {t r l b : Int32} {n : Nat} {K Hd St Nv : Nat → Int32} {fl x : Int32} : Sp 0 mX1_has [.ref 0, .int x] (hRc t r l b n K Hd St Nv fl) (some (.int (bI (hasB n x)))) (hRc t r l b n K Hd St Nv fl) := by
  refine Sp.of [some (.ref 0), some (.int x)] mrX1_has.1 rfl (Nat.le_of_ble_eq_true rfl) rfl (fun X => ?_)
  refine r_iload_n dX1_has_0 rfl ?_
  refine r_if_lt 16 dX1_has_1 (by decide) (fun c1 => ?_) (fun c1 => ?_)
  · refine r_iconst (v := nI 0) dX1_has_16 (by decide) ?_
    refine r_iret dX1_has_17 rfl (by first | exact bI_nar _ | rfl) ?_ ?_
    · first | exact ret_t (hasB_t c1 c9) | exact ret_f (hasB_f1 c1) | exact ret_f (hasB_f2 c9)
    · exact HE.rf
  · refine r_iload_n dX1_has_4 rfl ?_
    refine r_aload_n dX1_has_5 rfl ?_
    refine r_getfield dX1_has_6 gfX1_38 rfl rfl ?_
    refine r_icmp_ge 16 dX1_has_9 (by decide) (fun c9 => ?_) (fun c9 => ?_)
    · refine r_iconst (v := nI 0) dX1_has_16 (by decide) ?_
      refine r_iret dX1_has_17 rfl (by first | exact bI_nar _ | rfl) ?_ ?_
      · first | exact ret_t (hasB_t c1 c9) | exact ret_f (hasB_f1 c1) | exact ret_f (hasB_f2 c9)
      · exact HE.rf
    · refine r_iconst (v := nI 1) dX1_has_12 (by decide) ?_
      refine r_goto 17 dX1_has_13 (by decide) ?_
      refine r_iret dX1_has_17 rfl (by first | exact bI_nar _ | rfl) ?_ ?_
      · first | exact ret_t (hasB_t c1 c9) | exact ret_f (hasB_f1 c1) | exact ret_f (hasB_f2 c9)
      · exact HE.rf
theorem S_X1_isFull {t r l b : Int32} {n : Nat} {K Hd St Nv : Nat → Int32} {fl : Int32} : Sp 0 mX1_isFull [.ref 0] (hRc t r l b n K Hd St Nv fl) (some (.int (bI (decide (nI 8 ≤ nI n))))) (hRc t r l b n K Hd St Nv fl) := by
  refine Sp.of [some (.ref 0)] mrX1_isFull.1 rfl (Nat.le_of_ble_eq_true rfl) rfl (fun X => ?_)
  refine r_aload_n dX1_isFull_0 rfl ?_
  refine r_getfield dX1_isFull_1 gfX1_38 rfl rfl ?_
  refine r_bipush (v := nI 8) dX1_isFull_4 (by decide) ?_
  refine r_icmp_lt 13 dX1_isFull_6 (by decide) (fun c6 => ?_) (fun c6 => ?_)
  · refine r_iconst (v := nI 0) dX1_isFull_13 (by decide) ?_
    refine r_iret dX1_isFull_14 rfl (by first | exact bI_nar _ | rfl) ?_ ?_
    · first | exact ret_t (decide_eq_true (Int32.not_lt.mp c6)) | exact ret_f (decide_eq_false (Int32.not_le.mpr c6))
    · exact HE.rf
  · refine r_iconst (v := nI 1) dX1_isFull_9 (by decide) ?_
    refine r_goto 14 dX1_isFull_10 (by decide) ?_
    refine r_iret dX1_isFull_14 rfl (by first | exact bI_nar _ | rfl) ?_ ?_
    · first | exact ret_t (decide_eq_true (Int32.not_lt.mp c6)) | exact ret_f (decide_eq_false (Int32.not_le.mpr c6))
    · exact HE.rf
theorem S_X1_add {t r l b : Int32} {n : Nat} {K Hd St Nv : Nat → Int32} {fl k : Int32} (hn : n < 8) : Sp 1 mX1_add [.ref 0, .int k] (hRc t r l b n K Hd St Nv fl) none (hRc t r l b (n + 1) (upd K n k) (upd Hd n (nI 0)) (upd St n (nI 0)) (upd Nv n (nI 50)) fl) := by
  refine Sp.of [some (.ref 0), some (.int k)] mrX1_add.1 rfl (Nat.le_of_ble_eq_true rfl) rfl (fun X => ?_)
  refine r_aload_n dX1_add_0 rfl ?_
  refine r_v0r S_X1_isFull (Nat.le_of_ble_eq_true rfl) mrX1_isFull lkX1_41 rfl rfl rfl dX1_add_1 (Nat.le_of_ble_eq_true rfl) ?_
  refine r_if_eqB 8 dX1_add_4 (by decide) (fun c4 => ?_) (fun c4 => ?_)
  · refine r_aload_n dX1_add_8 rfl ?_
    refine r_getfield dX1_add_9 gfX1_19 rfl rfl ?_
    refine r_aload_n dX1_add_12 rfl ?_
    refine r_getfield dX1_add_13 gfX1_38 rfl rfl ?_
    refine r_iload_n dX1_add_16 rfl ?_
    refine r_iastN (h' := [_, _, _, _, _]) dX1_add_17 rfl (by first | decide | omega) (Nat.le_of_ble_eq_true rfl) rfl ?_
    refine r_aload_n dX1_add_18 rfl ?_
    refine r_getfield dX1_add_19 gfX1_23 rfl rfl ?_
    refine r_aload_n dX1_add_22 rfl ?_
    refine r_getfield dX1_add_23 gfX1_38 rfl rfl ?_
    refine r_iconst (v := nI 0) dX1_add_26 (by decide) ?_
    refine r_iastN (h' := [_, _, _, _, _]) dX1_add_27 rfl (by first | decide | omega) (Nat.le_of_ble_eq_true rfl) rfl ?_
    refine r_aload_n dX1_add_28 rfl ?_
    refine r_getfield dX1_add_29 gfX1_26 rfl rfl ?_
    refine r_aload_n dX1_add_32 rfl ?_
    refine r_getfield dX1_add_33 gfX1_38 rfl rfl ?_
    refine r_iconst (v := nI 0) dX1_add_36 (by decide) ?_
    refine r_iastN (h' := [_, _, _, _, _]) dX1_add_37 rfl (by first | decide | omega) (Nat.le_of_ble_eq_true rfl) rfl ?_
    refine r_aload_n dX1_add_38 rfl ?_
    refine r_getfield dX1_add_39 gfX1_29 rfl rfl ?_
    refine r_aload_n dX1_add_42 rfl ?_
    refine r_getfield dX1_add_43 gfX1_38 rfl rfl ?_
    refine r_bipush (v := nI 50) dX1_add_46 (by decide) ?_
    refine r_iastN (h' := [_, _, _, _, _]) dX1_add_48 rfl (by first | decide | omega) (Nat.le_of_ble_eq_true rfl) rfl ?_
    refine r_aload_n dX1_add_49 rfl ?_
    refine r_dup dX1_add_50 rfl ?_
    refine r_getfield dX1_add_51 gfX1_38 rfl rfl ?_
    refine r_iconst (v := nI 1) dX1_add_54 (by decide) ?_
    refine r_iadd dX1_add_55 ?_
    refine r_putfield (fs' := [_, _, _, _, _, _, _, _, _, _]) (h' := [_, _, _, _, _]) dX1_add_56 pfX1_38 rfl (Nat.le_of_ble_eq_true rfl) (fun _ => rfl) rfl rfl rfl rfl ?_
    refine r_vret dX1_add_59 rfl ?_ ?_
    · rfl
    · rw [nI_add]
      exact HE.rf
  · exact absurd (of_decide_eq_true c4) (nI_ge (by omega) (by omega))
def swp (f : Nat → Int32) (p o : Nat) : Nat → Int32 := upd (upd f p (f o)) o (f p)
theorem S_X1_exchangeIn {p o : Nat} {f : Nat → Int32} (hp : p < 8) (ho : o < 8) : Sp 0 mX1_exchangeIn [.ref 0, .int (nI p), .int (nI o)] [.inl (0, 8, .inl f)] none [.inl (0, 8, .inl (swp f p o))] := by
  refine Sp.of [some (.ref 0), some (.int (nI p)), some (.int (nI o)), none] mrX1_exchangeIn.1 rfl (Nat.le_of_ble_eq_true rfl) rfl (fun X => ?_)
  refine r_aload_n dX1_exchangeIn_0 rfl ?_
  refine r_iload_n dX1_exchangeIn_1 rfl ?_
  refine r_ialdN dX1_exchangeIn_2 rfl (by first | decide | omega) (Nat.le_of_ble_eq_true rfl) rfl ?_
  refine r_istore_n (lv' := [_, _, _, _]) dX1_exchangeIn_3 (by decide) rfl ?_
  refine r_aload_n dX1_exchangeIn_4 rfl ?_
  refine r_iload_n dX1_exchangeIn_5 rfl ?_
  refine r_aload_n dX1_exchangeIn_6 rfl ?_
  refine r_iload_n dX1_exchangeIn_7 rfl ?_
  refine r_ialdN dX1_exchangeIn_8 rfl (by first | decide | omega) (Nat.le_of_ble_eq_true rfl) rfl ?_
  refine r_iastN (h' := [_]) dX1_exchangeIn_9 rfl (by first | decide | omega) (Nat.le_of_ble_eq_true rfl) rfl ?_
  refine r_aload_n dX1_exchangeIn_10 rfl ?_
  refine r_iload_n dX1_exchangeIn_11 rfl ?_
  refine r_iload_n dX1_exchangeIn_12 rfl ?_
  refine r_iastN (h' := [_]) dX1_exchangeIn_13 rfl (by first | decide | omega) (Nat.le_of_ble_eq_true rfl) rfl ?_
  refine r_vret dX1_exchangeIn_14 rfl ?_ ?_
  · rfl
  · exact HE.rf
theorem hn31 {n : Nat} (h : n ≤ 8) : n < 2 ^ 31 := by omega
theorem S_X1_exchange {t r l b : Int32} {n p o : Nat} {K Hd St Nv : Nat → Int32} {fl : Int32} (hn : n ≤ 8) (hp : p < n) (ho : o < n) : Sp 1 mX1_exchange [.ref 0, .int (nI p), .int (nI o)] (hRc t r l b n K Hd St Nv fl) none (hRc t r l b n (swp K p o) (swp Hd p o) (swp St p o) (swp Nv p o) fl) := by
  refine Sp.of [some (.ref 0), some (.int (nI p)), some (.int (nI o))] mrX1_exchange.1 rfl (Nat.le_of_ble_eq_true rfl) rfl (fun X => ?_)
  refine r_aload_n dX1_exchange_0 rfl ?_
  refine r_iload_n dX1_exchange_1 rfl ?_
  refine r_v1r S_X1_has (Nat.le_of_ble_eq_true rfl) mrX1_has lkX1_45 rfl rfl rfl dX1_exchange_2 (Nat.le_of_ble_eq_true rfl) ?_
  refine r_if_eqB 16 dX1_exchange_5 (by decide) (fun c5 => ?_) (fun c5 => ?_)
  · exact absurd c5 (by rw [hasB_n hp (hn31 hn)]; decide)
  · refine r_aload_n dX1_exchange_8 rfl ?_
    refine r_iload_n dX1_exchange_9 rfl ?_
    refine r_v1r S_X1_has (Nat.le_of_ble_eq_true rfl) mrX1_has lkX1_45 rfl rfl rfl dX1_exchange_10 (Nat.le_of_ble_eq_true rfl) ?_
    refine r_if_neB 17 dX1_exchange_13 (by decide) (fun c13 => ?_) (fun c13 => ?_)
    · refine r_aload_n dX1_exchange_17 rfl ?_
      refine r_getfield dX1_exchange_18 gfX1_19 rfl rfl ?_
      refine r_iload_n dX1_exchange_21 rfl ?_
      refine r_iload_n dX1_exchange_22 rfl ?_
      refine r_s3n ((S_X1_exchangeIn (p := p) (o := o) (by omega) (by omega)).frame [1] rfl (by decide) rfl rfl rfl rfl) (Nat.le_of_ble_eq_true rfl) mrX1_exchangeIn lkX1_49 dX1_exchange_23 (Nat.le_of_ble_eq_true rfl) ?_
      refine r_aload_n dX1_exchange_26 rfl ?_
      refine r_getfield dX1_exchange_27 gfX1_23 rfl rfl ?_
      refine r_iload_n dX1_exchange_30 rfl ?_
      refine r_iload_n dX1_exchange_31 rfl ?_
      refine r_s3n ((S_X1_exchangeIn (p := p) (o := o) (by omega) (by omega)).frame [2] rfl (by decide) rfl rfl rfl rfl) (Nat.le_of_ble_eq_true rfl) mrX1_exchangeIn lkX1_49 dX1_exchange_32 (Nat.le_of_ble_eq_true rfl) ?_
      refine r_aload_n dX1_exchange_35 rfl ?_
      refine r_getfield dX1_exchange_36 gfX1_26 rfl rfl ?_
      refine r_iload_n dX1_exchange_39 rfl ?_
      refine r_iload_n dX1_exchange_40 rfl ?_
      refine r_s3n ((S_X1_exchangeIn (p := p) (o := o) (by omega) (by omega)).frame [3] rfl (by decide) rfl rfl rfl rfl) (Nat.le_of_ble_eq_true rfl) mrX1_exchangeIn lkX1_49 dX1_exchange_41 (Nat.le_of_ble_eq_true rfl) ?_
      refine r_aload_n dX1_exchange_44 rfl ?_
      refine r_getfield dX1_exchange_45 gfX1_29 rfl rfl ?_
      refine r_iload_n dX1_exchange_48 rfl ?_
      refine r_iload_n dX1_exchange_49 rfl ?_
      refine r_s3n ((S_X1_exchangeIn (p := p) (o := o) (by omega) (by omega)).frame [4] rfl (by decide) rfl rfl rfl rfl) (Nat.le_of_ble_eq_true rfl) mrX1_exchangeIn lkX1_49 dX1_exchange_50 (Nat.le_of_ble_eq_true rfl) ?_
      refine r_vret dX1_exchange_53 rfl ?_ ?_
      · rfl
      · exact HE.rf
    · exact absurd c13 (by rw [hasB_n ho (hn31 hn)]; decide)
def setR (r : Int32) (x : Int32) (there : Bool) : Int32 := match there with
  | true => r ||| (nI 1 <<< (x &&& 31))
  | false => r &&& ((nI 1 <<< (x &&& 31)) ^^^ (-1))
theorem S_X1_setRoot {t r l b : Int32} {n : Nat} {K Hd St Nv : Nat → Int32} {fl x : Int32} {there : Bool} : Sp 0 mX1_setRoot [.ref 0, .int x, .int (bI there)] (hRc t r l b n K Hd St Nv fl) none (hRc t (setR r x there) l b n K Hd St Nv fl) := by
  refine Sp.of [some (.ref 0), some (.int x), some (.int (bI there))] mrX1_setRoot.1 rfl (Nat.le_of_ble_eq_true rfl) rfl (fun X => ?_)
  refine r_iload_n dX1_setRoot_0 rfl ?_
  refine r_if_eqB 19 dX1_setRoot_1 (by decide) (fun c1 => ?_) (fun c1 => ?_)
  · refine r_aload_n dX1_setRoot_19 rfl ?_
    refine r_dup dX1_setRoot_20 rfl ?_
    refine r_getfield dX1_setRoot_21 gfX1_10 rfl rfl ?_
    refine r_iconst (v := nI 1) dX1_setRoot_24 (by decide) ?_
    refine r_iload_n dX1_setRoot_25 rfl ?_
    refine r_ishl dX1_setRoot_26 ?_
    refine r_iconst (v := (-1)) dX1_setRoot_27 (by decide) ?_
    refine r_ixor dX1_setRoot_28 ?_
    refine r_iand dX1_setRoot_29 ?_
    refine r_putfield (fs' := [_, _, _, _, _, _, _, _, _, _]) (h' := [_, _, _, _, _]) dX1_setRoot_30 pfX1_10 rfl (Nat.le_of_ble_eq_true rfl) (fun _ => rfl) rfl rfl rfl rfl ?_
    refine r_vret dX1_setRoot_33 rfl ?_ ?_
    · rfl
    · subst c1
      exact HE.rf
  · refine r_aload_n dX1_setRoot_4 rfl ?_
    refine r_dup dX1_setRoot_5 rfl ?_
    refine r_getfield dX1_setRoot_6 gfX1_10 rfl rfl ?_
    refine r_iconst (v := nI 1) dX1_setRoot_9 (by decide) ?_
    refine r_iload_n dX1_setRoot_10 rfl ?_
    refine r_ishl dX1_setRoot_11 ?_
    refine r_ior dX1_setRoot_12 ?_
    refine r_putfield (fs' := [_, _, _, _, _, _, _, _, _, _]) (h' := [_, _, _, _, _]) dX1_setRoot_13 pfX1_10 rfl (Nat.le_of_ble_eq_true rfl) (fun _ => rfl) rfl rfl rfl rfl ?_
    refine r_goto 33 dX1_setRoot_16 (by decide) ?_
    refine r_vret dX1_setRoot_33 rfl ?_ ?_
    · rfl
    · subst c1
      exact HE.rf
def pcO (t x : Int32) : Int32 := fmod (t - x) (nI 30)
theorem S_X1_paceOf {t r l b : Int32} {n : Nat} {K Hd St Nv : Nat → Int32} {fl x : Int32} : Sp 1 mX1_paceOf [.ref 0, .int x] (hRc t r l b n K Hd St Nv fl) (some (.int (pcO t x))) (hRc t r l b n K Hd St Nv fl) := by
  refine Sp.of [some (.ref 0), some (.int x)] mrX1_paceOf.1 rfl (Nat.le_of_ble_eq_true rfl) rfl (fun X => ?_)
  refine r_aload_n dX1_paceOf_0 rfl ?_
  refine r_getfield dX1_paceOf_1 gfX1_32 rfl rfl ?_
  refine r_iload_n dX1_paceOf_4 rfl ?_
  refine r_isub dX1_paceOf_5 ?_
  refine r_bipush (v := nI 30) dX1_paceOf_6 (by decide) ?_
  refine r_s2r (S_J9_floorMod_7cf53 (by decide)) (Nat.le_of_ble_eq_true rfl) mrJ9_floorMod_7cf53 lkX1_53 dX1_paceOf_8 (Nat.le_of_ble_eq_true rfl) ?_
  refine r_iret dX1_paceOf_11 rfl rfl ?_ ?_
  · rfl
  · exact HE.rf
/-- the set of the places below n at which f holds -/
def setOf (f : Nat → Bool) : Nat → Int32
  | 0 => nI 0
  | i + 1 => match f i with
    | true => setOf f i ||| (nI 1 <<< (nI i &&& 31))
    | false => setOf f i
theorem setOf_t {f : Nat → Bool} {i : Nat} (h : f i = true) : setOf f (i + 1) = setOf f i ||| (nI 1 <<< (nI i &&& 31)) := by rw [setOf, h]
theorem setOf_f {f : Nat → Bool} {i : Nat} (h : f i = false) : setOf f (i + 1) = setOf f i := by rw [setOf, h]
def atR (t r : Int32) (p : Nat) : Bool := isIn r (pcO t (nI p))
theorem S_X1_atRootSet {t r l b : Int32} {n : Nat} {K Hd St Nv : Nat → Int32} {fl : Int32} (hn : n ≤ 8) : Sp 2 mX1_atRootSet [.ref 0] (hRc t r l b n K Hd St Nv fl) (some (.int (setOf (atR t r) n))) (hRc t r l b n K Hd St Nv fl) := by
  refine Sp.of [some (.ref 0), none, none] mrX1_atRootSet.1 rfl (Nat.le_of_ble_eq_true rfl) rfl (fun X => ?_)
  have L : ∀ (k i : Nat), i + k = n → Run X 2 mX1_atRootSet 4 [some (.ref 0), some (.int (setOf (atR t r) i)), some (.int (nI i))] [] (hRc t r l b n K Hd St Nv fl) (some (.int (setOf (atR t r) n))) (hRc t r l b n K Hd St Nv fl) := by
    intro k
    induction k with
    | zero =>
      intro i hi
      obtain rfl : i = n := by omega
      refine r_iload_n dX1_atRootSet_4 rfl ?_
      refine r_aload_n dX1_atRootSet_5 rfl ?_
      refine r_getfield dX1_atRootSet_6 gfX1_38 rfl rfl ?_
      refine r_icmp_ge 39 dX1_atRootSet_9 (by decide) (fun c9 => ?_) (fun c9 => ?_)
      · refine r_iload_n dX1_atRootSet_39 rfl ?_
        refine r_iret dX1_atRootSet_40 rfl rfl ?_ ?_
        · rfl
        · exact HE.rf
      · exact absurd (nI_le (Nat.le_refl _) (by omega)) c9
    | succ k ih =>
      intro i hi
      refine r_iload_n dX1_atRootSet_4 rfl ?_
      refine r_aload_n dX1_atRootSet_5 rfl ?_
      refine r_getfield dX1_atRootSet_6 gfX1_38 rfl rfl ?_
      refine r_icmp_ge 39 dX1_atRootSet_9 (by decide) (fun c9 => ?_) (fun c9 => ?_)
      · exact absurd c9 (nI_ge (by omega) (by omega))
      · refine r_aload_n dX1_atRootSet_12 rfl ?_
        refine r_getfield dX1_atRootSet_13 gfX1_10 rfl rfl ?_
        refine r_aload_n dX1_atRootSet_16 rfl ?_
        refine r_iload_n dX1_atRootSet_17 rfl ?_
        refine r_v1r S_X1_paceOf (Nat.le_of_ble_eq_true rfl) mrX1_paceOf lkX1_63 rfl rfl rfl dX1_atRootSet_18 (Nat.le_of_ble_eq_true rfl) ?_
        refine r_s2r S_X4_isIn (Nat.le_of_ble_eq_true rfl) mrX4_isIn lkX1_66 dX1_atRootSet_21 (Nat.le_of_ble_eq_true rfl) ?_
        refine r_if_eqB 33 dX1_atRootSet_24 (by decide) (fun c24 => ?_) (fun c24 => ?_)
        · refine r_iinc (lv' := [_, _, _]) dX1_atRootSet_33 (by decide) rfl (by first | exact inc1 _ | exact inc1_ _) rfl ?_
          refine r_goto 4 dX1_atRootSet_36 (by decide) ?_
          have e := ih (i + 1) (by omega)
          first | (rw [setOf_t (f := atR t r) c24] at e; exact e) | (rw [setOf_f (f := atR t r) c24] at e; exact e)
        · refine r_iload_n dX1_atRootSet_27 rfl ?_
          refine r_iconst (v := nI 1) dX1_atRootSet_28 (by decide) ?_
          refine r_iload_n dX1_atRootSet_29 rfl ?_
          refine r_ishl dX1_atRootSet_30 ?_
          refine r_ior dX1_atRootSet_31 ?_
          refine r_istore_n (lv' := [_, _, _]) dX1_atRootSet_32 (by decide) rfl ?_
          refine r_iinc (lv' := [_, _, _]) dX1_atRootSet_33 (by decide) rfl (by first | exact inc1 _ | exact inc1_ _) rfl ?_
          refine r_goto 4 dX1_atRootSet_36 (by decide) ?_
          have e := ih (i + 1) (by omega)
          first | (rw [setOf_t (f := atR t r) c24] at e; exact e) | (rw [setOf_f (f := atR t r) c24] at e; exact e)
  refine r_iconst (v := nI 0) dX1_atRootSet_0 (by decide) ?_
  refine r_istore_n (lv' := [_, _, _]) dX1_atRootSet_1 (by decide) rfl ?_
  refine r_iconst (v := nI 0) dX1_atRootSet_2 (by decide) ?_
  refine r_istore_n (lv' := [_, _, _]) dX1_atRootSet_3 (by decide) rfl ?_
  exact L n 0 (by omega)
/-- the reach of the light j places behind the one behind the lantern's place a -/
def rck (b : Int32) (K : Nat → Int32) (a : Nat) : Nat → Int32
  | 0 => b
  | j + 1 => rck b K a j - shd (K (a + 1 + j))
def litF (b : Int32) (K : Nat → Int32) (a p : Nat) : Bool := if p ≤ a then decide (nI a - nI p ≤ b) else decide (nI p - nI a ≤ rck b K a (p - (a + 1)))
theorem litF_lo {b : Int32} {K : Nat → Int32} {a p : Nat} (h : p ≤ a) : litF b K a p = decide (nI a - nI p ≤ b) := by rw [litF, if_pos h]
theorem litF_hi {b : Int32} {K : Nat → Int32} {a j : Nat} : litF b K a (a + 1 + j) = decide (nI (a + 1 + j) - nI a ≤ rck b K a j) := by rw [litF, if_neg (by omega), show a + 1 + j - (a + 1) = j by omega]
/-- who is in LIGHT, by places -/
def lit (l b : Int32) (n : Nat) (K : Nat → Int32) (p : Nat) : Bool := hasB n l && litF b K l.toNatClampNeg p
def litS (l b : Int32) (n : Nat) (K : Nat → Int32) : Int32 := match hasB n l with
  | true => setOf (litF b K l.toNatClampNeg) n
  | false => nI 0
theorem S_X1_litSet {t r l b : Int32} {n : Nat} {K Hd St Nv : Nat → Int32} {fl : Int32} (hn : n ≤ 8) : Sp 1 mX1_litSet [.ref 0] (hRc t r l b n K Hd St Nv fl) (some (.int (litS l b n K))) (hRc t r l b n K Hd St Nv fl) := by
  refine Sp.of [some (.ref 0), none, none, none] mrX1_litSet.1 rfl (Nat.le_of_ble_eq_true rfl) rfl (fun X => ?_)
  by_cases hl : hasB n l = true
  · obtain ⟨a, ha, rfl⟩ := hasB_of hl (hn31 hn)
    have el : litS (nI a) b n K = setOf (litF b K a) n := by rw [litS, hl, nI_clamp (by omega)]
    rw [el]
    have L2 : ∀ (k j : Nat), a + 1 + j + k = n → Run X 1 mX1_litSet 62 [some (.ref 0), some (.int (setOf (litF b K a) (a + 1 + j))), some (.int (rck b K a j)), some (.int (nI (a + 1 + j)))] [] (hRc t r (nI a) b n K Hd St Nv fl) (some (.int (setOf (litF b K a) n))) (hRc t r (nI a) b n K Hd St Nv fl) := by
      intro k
      induction k with
      | zero =>
        intro j hj
        obtain rfl : a + 1 + j = n := by omega
        refine r_iload_n dX1_litSet_62 rfl ?_
        refine r_aload_n dX1_litSet_63 rfl ?_
        refine r_getfield dX1_litSet_64 gfX1_38 rfl rfl ?_
        refine r_icmp_ge 104 dX1_litSet_67 (by decide) (fun c67 => ?_) (fun c67 => ?_)
        · refine r_iload_n dX1_litSet_104 rfl ?_
          refine r_iret dX1_litSet_105 rfl rfl ?_ ?_
          · rfl
          · exact HE.rf
        · exact absurd (nI_le (Nat.le_refl _) (by omega)) c67
      | succ k ih =>
        intro j hj
        refine r_iload_n dX1_litSet_62 rfl ?_
        refine r_aload_n dX1_litSet_63 rfl ?_
        refine r_getfield dX1_litSet_64 gfX1_38 rfl rfl ?_
        refine r_icmp_ge 104 dX1_litSet_67 (by decide) (fun c67 => ?_) (fun c67 => ?_)
        · exact absurd c67 (nI_ge (by omega) (by omega))
        · refine r_iload_n dX1_litSet_70 rfl ?_
          refine r_aload_n dX1_litSet_71 rfl ?_
          refine r_getfield dX1_litSet_72 gfX1_35 rfl rfl ?_
          refine r_isub dX1_litSet_75 ?_
          refine r_iload_n dX1_litSet_76 rfl ?_
          refine r_icmp_gt 86 dX1_litSet_77 (by decide) (fun c77 => ?_) (fun c77 => ?_)
          · refine r_iload_n dX1_litSet_86 rfl ?_
            refine r_aload_n dX1_litSet_87 rfl ?_
            refine r_getfield dX1_litSet_88 gfX1_19 rfl rfl ?_
            refine r_iload_n dX1_litSet_91 rfl ?_
            refine r_ialdN dX1_litSet_92 rfl (by first | decide | omega) (Nat.le_of_ble_eq_true rfl) rfl ?_
            refine r_s1r S_X4_shadeOf (Nat.le_of_ble_eq_true rfl) mrX4_shadeOf lkX1_59 dX1_litSet_93 (Nat.le_of_ble_eq_true rfl) ?_
            refine r_isub dX1_litSet_96 ?_
            refine r_istore_n (lv' := [_, _, _, _]) dX1_litSet_97 (by decide) rfl ?_
            refine r_iinc (lv' := [_, _, _, _]) dX1_litSet_98 (by decide) rfl (by first | exact inc1 _ | exact inc1_ _) rfl ?_
            refine r_goto 62 dX1_litSet_101 (by decide) ?_
            have e := ih (j + 1) (by omega)
            rw [show a + 1 + (j + 1) = a + 1 + j + 1 by omega] at e
            first | (rw [setOf_t (f := litF b K a) (by rw [litF_hi]; exact decide_eq_true (Int32.not_lt.mp c77))] at e; exact e) | (rw [setOf_f (f := litF b K a) (by rw [litF_hi]; exact decide_eq_false (Int32.not_le.mpr c77))] at e; exact e)
          · refine r_iload_n dX1_litSet_80 rfl ?_
            refine r_iconst (v := nI 1) dX1_litSet_81 (by decide) ?_
            refine r_iload_n dX1_litSet_82 rfl ?_
            refine r_ishl dX1_litSet_83 ?_
            refine r_ior dX1_litSet_84 ?_
            refine r_istore_n (lv' := [_, _, _, _]) dX1_litSet_85 (by decide) rfl ?_
            refine r_iload_n dX1_litSet_86 rfl ?_
            refine r_aload_n dX1_litSet_87 rfl ?_
            refine r_getfield dX1_litSet_88 gfX1_19 rfl rfl ?_
            refine r_iload_n dX1_litSet_91 rfl ?_
            refine r_ialdN dX1_litSet_92 rfl (by first | decide | omega) (Nat.le_of_ble_eq_true rfl) rfl ?_
            refine r_s1r S_X4_shadeOf (Nat.le_of_ble_eq_true rfl) mrX4_shadeOf lkX1_59 dX1_litSet_93 (Nat.le_of_ble_eq_true rfl) ?_
            refine r_isub dX1_litSet_96 ?_
            refine r_istore_n (lv' := [_, _, _, _]) dX1_litSet_97 (by decide) rfl ?_
            refine r_iinc (lv' := [_, _, _, _]) dX1_litSet_98 (by decide) rfl (by first | exact inc1 _ | exact inc1_ _) rfl ?_
            refine r_goto 62 dX1_litSet_101 (by decide) ?_
            have e := ih (j + 1) (by omega)
            rw [show a + 1 + (j + 1) = a + 1 + j + 1 by omega] at e
            first | (rw [setOf_t (f := litF b K a) (by rw [litF_hi]; exact decide_eq_true (Int32.not_lt.mp c77))] at e; exact e) | (rw [setOf_f (f := litF b K a) (by rw [litF_hi]; exact decide_eq_false (Int32.not_le.mpr c77))] at e; exact e)
    have L1 : ∀ (k i : Nat), i + k = a + 1 → Run X 1 mX1_litSet 17 [some (.ref 0), some (.int (setOf (litF b K a) i)), some (.int (nI i)), none] [] (hRc t r (nI a) b n K Hd St Nv fl) (some (.int (setOf (litF b K a) n))) (hRc t r (nI a) b n K Hd St Nv fl) := by
      intro k
      induction k with
      | zero =>
        intro i hi
        obtain rfl : i = a + 1 := by omega
        refine r_iload_n dX1_litSet_17 rfl ?_
        refine r_aload_n dX1_litSet_18 rfl ?_
        refine r_getfield dX1_litSet_19 gfX1_35 rfl rfl ?_
        refine r_icmp_gt 50 dX1_litSet_22 (by decide) (fun c22 => ?_) (fun c22 => ?_)
        · refine r_aload_n dX1_litSet_50 rfl ?_
          refine r_getfield dX1_litSet_51 gfX1_16 rfl rfl ?_
          refine r_istore_n (lv' := [_, _, _, _]) dX1_litSet_54 (by decide) rfl ?_
          refine r_aload_n dX1_litSet_55 rfl ?_
          refine r_getfield dX1_litSet_56 gfX1_35 rfl rfl ?_
          refine r_iconst (v := nI 1) dX1_litSet_59 (by decide) ?_
          refine r_iadd dX1_litSet_60 ?_
          refine r_istore_n (lv' := [_, _, _, _]) dX1_litSet_61 (by decide) rfl ?_
          rw [nI_add]
          exact L2 (n - (a + 1)) 0 (by omega)
        · exact absurd (nI_lt (Nat.lt_succ_self a) (by omega)) c22
      | succ k ih =>
        intro i hi
        refine r_iload_n dX1_litSet_17 rfl ?_
        refine r_aload_n dX1_litSet_18 rfl ?_
        refine r_getfield dX1_litSet_19 gfX1_35 rfl rfl ?_
        refine r_icmp_gt 50 dX1_litSet_22 (by decide) (fun c22 => ?_) (fun c22 => ?_)
        · exact absurd c22 (nI_nlt (by omega) (by omega))
        · refine r_aload_n dX1_litSet_25 rfl ?_
          refine r_getfield dX1_litSet_26 gfX1_35 rfl rfl ?_
          refine r_iload_n dX1_litSet_29 rfl ?_
          refine r_isub dX1_litSet_30 ?_
          refine r_aload_n dX1_litSet_31 rfl ?_
          refine r_getfield dX1_litSet_32 gfX1_16 rfl rfl ?_
          refine r_icmp_gt 44 dX1_litSet_35 (by decide) (fun c35 => ?_) (fun c35 => ?_)
          · refine r_iinc (lv' := [_, _, _, _]) dX1_litSet_44 (by decide) rfl (by first | exact inc1 _ | exact inc1_ _) rfl ?_
            refine r_goto 17 dX1_litSet_47 (by decide) ?_
            have e := ih (i + 1) (by omega)
            first | (rw [setOf_t (f := litF b K a) (by rw [litF_lo (by omega)]; exact decide_eq_true (Int32.not_lt.mp c35))] at e; exact e) | (rw [setOf_f (f := litF b K a) (by rw [litF_lo (by omega)]; exact decide_eq_false (Int32.not_le.mpr c35))] at e; exact e)
          · refine r_iload_n dX1_litSet_38 rfl ?_
            refine r_iconst (v := nI 1) dX1_litSet_39 (by decide) ?_
            refine r_iload_n dX1_litSet_40 rfl ?_
            refine r_ishl dX1_litSet_41 ?_
            refine r_ior dX1_litSet_42 ?_
            refine r_istore_n (lv' := [_, _, _, _]) dX1_litSet_43 (by decide) rfl ?_
            refine r_iinc (lv' := [_, _, _, _]) dX1_litSet_44 (by decide) rfl (by first | exact inc1 _ | exact inc1_ _) rfl ?_
            refine r_goto 17 dX1_litSet_47 (by decide) ?_
            have e := ih (i + 1) (by omega)
            first | (rw [setOf_t (f := litF b K a) (by rw [litF_lo (by omega)]; exact decide_eq_true (Int32.not_lt.mp c35))] at e; exact e) | (rw [setOf_f (f := litF b K a) (by rw [litF_lo (by omega)]; exact decide_eq_false (Int32.not_le.mpr c35))] at e; exact e)
    refine r_aload_n dX1_litSet_0 rfl ?_
    refine r_aload_n dX1_litSet_1 rfl ?_
    refine r_getfield dX1_litSet_2 gfX1_35 rfl rfl ?_
    refine r_v1r S_X1_has (Nat.le_of_ble_eq_true rfl) mrX1_has lkX1_45 rfl rfl rfl dX1_litSet_5 (Nat.le_of_ble_eq_true rfl) ?_
    refine r_if_neB 13 dX1_litSet_8 (by decide) (fun c8 => ?_) (fun c8 => ?_)
    · refine r_iconst (v := nI 0) dX1_litSet_13 (by decide) ?_
      refine r_istore_n (lv' := [_, _, _, _]) dX1_litSet_14 (by decide) rfl ?_
      refine r_iconst (v := nI 0) dX1_litSet_15 (by decide) ?_
      refine r_istore_n (lv' := [_, _, _, _]) dX1_litSet_16 (by decide) rfl ?_
      exact L1 (a + 1) 0 (by omega)
    · exact absurd c8 (by rw [hl]; decide)
  · have hl2 : hasB n l = false := by simpa using hl
    refine r_aload_n dX1_litSet_0 rfl ?_
    refine r_aload_n dX1_litSet_1 rfl ?_
    refine r_getfield dX1_litSet_2 gfX1_35 rfl rfl ?_
    refine r_v1r S_X1_has (Nat.le_of_ble_eq_true rfl) mrX1_has lkX1_45 rfl rfl rfl dX1_litSet_5 (Nat.le_of_ble_eq_true rfl) ?_
    refine r_if_neB 13 dX1_litSet_8 (by decide) (fun c8 => ?_) (fun c8 => ?_)
    · exact absurd c8 hl
    · refine r_iconst (v := nI 0) dX1_litSet_11 (by decide) ?_
      refine r_iret dX1_litSet_12 rfl rfl ?_ ?_
      · rw [litS, c8]
      · exact HE.rf
def hrdS (Hd : Nat → Int32) : Nat → Int32
  | 0 => nI 0
  | i + 1 => hrdS Hd i ||| (Hd i <<< (nI i &&& 31))
theorem S_X1_heardSet {t r l b : Int32} {n : Nat} {K Hd St Nv : Nat → Int32} {fl : Int32} (hn : n ≤ 8) : Sp 0 mX1_heardSet [.ref 0] (hRc t r l b n K Hd St Nv fl) (some (.int (hrdS Hd n))) (hRc t r l b n K Hd St Nv fl) := by
  refine Sp.of [some (.ref 0), none, none] mrX1_heardSet.1 rfl (Nat.le_of_ble_eq_true rfl) rfl (fun X => ?_)
  have L : ∀ (k i : Nat), i + k = n → Run X 0 mX1_heardSet 4 [some (.ref 0), some (.int (hrdS Hd i)), some (.int (nI i))] [] (hRc t r l b n K Hd St Nv fl) (some (.int (hrdS Hd n))) (hRc t r l b n K Hd St Nv fl) := by
    intro k
    induction k with
    | zero =>
      intro i hi
      obtain rfl : i = n := by omega
      refine r_iload_n dX1_heardSet_4 rfl ?_
      refine r_aload_n dX1_heardSet_5 rfl ?_
      refine r_getfield dX1_heardSet_6 gfX1_38 rfl rfl ?_
      refine r_icmp_ge 29 dX1_heardSet_9 (by decide) (fun c9 => ?_) (fun c9 => ?_)
      · refine r_iload_n dX1_heardSet_29 rfl ?_
        refine r_iret dX1_heardSet_30 rfl rfl ?_ ?_
        · rfl
        · exact HE.rf
      · exact absurd (nI_le (Nat.le_refl _) (by omega)) c9
    | succ k ih =>
      intro i hi
      refine r_iload_n dX1_heardSet_4 rfl ?_
      refine r_aload_n dX1_heardSet_5 rfl ?_
      refine r_getfield dX1_heardSet_6 gfX1_38 rfl rfl ?_
      refine r_icmp_ge 29 dX1_heardSet_9 (by decide) (fun c9 => ?_) (fun c9 => ?_)
      · exact absurd c9 (nI_ge (by omega) (by omega))
      · refine r_iload_n dX1_heardSet_12 rfl ?_
        refine r_aload_n dX1_heardSet_13 rfl ?_
        refine r_getfield dX1_heardSet_14 gfX1_23 rfl rfl ?_
        refine r_iload_n dX1_heardSet_17 rfl ?_
        refine r_ialdN dX1_heardSet_18 rfl (by first | decide | omega) (Nat.le_of_ble_eq_true rfl) rfl ?_
        refine r_iload_n dX1_heardSet_19 rfl ?_
        refine r_ishl dX1_heardSet_20 ?_
        refine r_ior dX1_heardSet_21 ?_
        refine r_istore_n (lv' := [_, _, _]) dX1_heardSet_22 (by decide) rfl ?_
        refine r_iinc (lv' := [_, _, _]) dX1_heardSet_23 (by decide) rfl (by first | exact inc1 _ | exact inc1_ _) rfl ?_
        refine r_goto 4 dX1_heardSet_26 (by decide) ?_
        exact ih (i + 1) (by omega)
  refine r_iconst (v := nI 0) dX1_heardSet_0 (by decide) ?_
  refine r_istore_n (lv' := [_, _, _]) dX1_heardSet_1 (by decide) rfl ?_
  refine r_iconst (v := nI 0) dX1_heardSet_2 (by decide) ?_
  refine r_istore_n (lv' := [_, _, _]) dX1_heardSet_3 (by decide) rfl ?_
  exact L n 0 (by omega)
/-- the sum of f below n -/
def sumF (f : Nat → Int32) : Nat → Int32
  | 0 => nI 0
  | i + 1 => sumF f i + f i
theorem S_X1_allStumbled {t r l b : Int32} {n : Nat} {K Hd St Nv : Nat → Int32} {fl : Int32} (hn : n ≤ 8) : Sp 0 mX1_allStumbled [.ref 0] (hRc t r l b n K Hd St Nv fl) (some (.int (sumF St n))) (hRc t r l b n K Hd St Nv fl) := by
  refine Sp.of [some (.ref 0), none, none] mrX1_allStumbled.1 rfl (Nat.le_of_ble_eq_true rfl) rfl (fun X => ?_)
  have L : ∀ (k i : Nat), i + k = n → Run X 0 mX1_allStumbled 4 [some (.ref 0), some (.int (sumF St i)), some (.int (nI i))] [] (hRc t r l b n K Hd St Nv fl) (some (.int (sumF St n))) (hRc t r l b n K Hd St Nv fl) := by
    intro k
    induction k with
    | zero =>
      intro i hi
      obtain rfl : i = n := by omega
      refine r_iload_n dX1_allStumbled_4 rfl ?_
      refine r_aload_n dX1_allStumbled_5 rfl ?_
      refine r_getfield dX1_allStumbled_6 gfX1_38 rfl rfl ?_
      refine r_icmp_ge 27 dX1_allStumbled_9 (by decide) (fun c9 => ?_) (fun c9 => ?_)
      · refine r_iload_n dX1_allStumbled_27 rfl ?_
        refine r_iret dX1_allStumbled_28 rfl rfl ?_ ?_
        · rfl
        · exact HE.rf
      · exact absurd (nI_le (Nat.le_refl _) (by omega)) c9
    | succ k ih =>
      intro i hi
      refine r_iload_n dX1_allStumbled_4 rfl ?_
      refine r_aload_n dX1_allStumbled_5 rfl ?_
      refine r_getfield dX1_allStumbled_6 gfX1_38 rfl rfl ?_
      refine r_icmp_ge 27 dX1_allStumbled_9 (by decide) (fun c9 => ?_) (fun c9 => ?_)
      · exact absurd c9 (nI_ge (by omega) (by omega))
      · refine r_iload_n dX1_allStumbled_12 rfl ?_
        refine r_aload_n dX1_allStumbled_13 rfl ?_
        refine r_getfield dX1_allStumbled_14 gfX1_26 rfl rfl ?_
        refine r_iload_n dX1_allStumbled_17 rfl ?_
        refine r_ialdN dX1_allStumbled_18 rfl (by first | decide | omega) (Nat.le_of_ble_eq_true rfl) rfl ?_
        refine r_iadd dX1_allStumbled_19 ?_
        refine r_istore_n (lv' := [_, _, _]) dX1_allStumbled_20 (by decide) rfl ?_
        refine r_iinc (lv' := [_, _, _]) dX1_allStumbled_21 (by decide) rfl (by first | exact inc1 _ | exact inc1_ _) rfl ?_
        refine r_goto 4 dX1_allStumbled_24 (by decide) ?_
        exact ih (i + 1) (by omega)
  refine r_iconst (v := nI 0) dX1_allStumbled_0 (by decide) ?_
  refine r_istore_n (lv' := [_, _, _]) dX1_allStumbled_1 (by decide) rfl ?_
  refine r_iconst (v := nI 0) dX1_allStumbled_2 (by decide) ?_
  refine r_istore_n (lv' := [_, _, _]) dX1_allStumbled_3 (by decide) rfl ?_
  exact L n 0 (by omega)
theorem S_X1_allNerve {t r l b : Int32} {n : Nat} {K Hd St Nv : Nat → Int32} {fl : Int32} (hn : n ≤ 8) : Sp 0 mX1_allNerve [.ref 0] (hRc t r l b n K Hd St Nv fl) (some (.int (sumF Nv n))) (hRc t r l b n K Hd St Nv fl) := by
  refine Sp.of [some (.ref 0), none, none] mrX1_allNerve.1 rfl (Nat.le_of_ble_eq_true rfl) rfl (fun X => ?_)
  have L : ∀ (k i : Nat), i + k = n → Run X 0 mX1_allNerve 4 [some (.ref 0), some (.int (sumF Nv i)), some (.int (nI i))] [] (hRc t r l b n K Hd St Nv fl) (some (.int (sumF Nv n))) (hRc t r l b n K Hd St Nv fl) := by
    intro k
    induction k with
    | zero =>
      intro i hi
      obtain rfl : i = n := by omega
      refine r_iload_n dX1_allNerve_4 rfl ?_
      refine r_aload_n dX1_allNerve_5 rfl ?_
      refine r_getfield dX1_allNerve_6 gfX1_38 rfl rfl ?_
      refine r_icmp_ge 27 dX1_allNerve_9 (by decide) (fun c9 => ?_) (fun c9 => ?_)
      · refine r_iload_n dX1_allNerve_27 rfl ?_
        refine r_iret dX1_allNerve_28 rfl rfl ?_ ?_
        · rfl
        · exact HE.rf
      · exact absurd (nI_le (Nat.le_refl _) (by omega)) c9
    | succ k ih =>
      intro i hi
      refine r_iload_n dX1_allNerve_4 rfl ?_
      refine r_aload_n dX1_allNerve_5 rfl ?_
      refine r_getfield dX1_allNerve_6 gfX1_38 rfl rfl ?_
      refine r_icmp_ge 27 dX1_allNerve_9 (by decide) (fun c9 => ?_) (fun c9 => ?_)
      · exact absurd c9 (nI_ge (by omega) (by omega))
      · refine r_iload_n dX1_allNerve_12 rfl ?_
        refine r_aload_n dX1_allNerve_13 rfl ?_
        refine r_getfield dX1_allNerve_14 gfX1_29 rfl rfl ?_
        refine r_iload_n dX1_allNerve_17 rfl ?_
        refine r_ialdN dX1_allNerve_18 rfl (by first | decide | omega) (Nat.le_of_ble_eq_true rfl) rfl ?_
        refine r_iadd dX1_allNerve_19 ?_
        refine r_istore_n (lv' := [_, _, _]) dX1_allNerve_20 (by decide) rfl ?_
        refine r_iinc (lv' := [_, _, _]) dX1_allNerve_21 (by decide) rfl (by first | exact inc1 _ | exact inc1_ _) rfl ?_
        refine r_goto 4 dX1_allNerve_24 (by decide) ?_
        exact ih (i + 1) (by omega)
  refine r_iconst (v := nI 0) dX1_allNerve_0 (by decide) ?_
  refine r_istore_n (lv' := [_, _, _]) dX1_allNerve_1 (by decide) rfl ?_
  refine r_iconst (v := nI 0) dX1_allNerve_2 (by decide) ?_
  refine r_istore_n (lv' := [_, _, _]) dX1_allNerve_3 (by decide) rfl ?_
  exact L n 0 (by omega)
/-- whether one of a kind sees, x being its place, inL whether it is in LIGHT -/
def nearB (l x : Int32) : Bool := decide (¬ nI 2 < (if 0 ≤ x - l then x - l else -(x - l)))
def seesF (t l k x : Int32) (inL : Bool) : Bool := if k = nI 1 then inL && nearB l x else if k = nI 3 then true else if k = nI 4 then (inL && nearB l x) && decide (¬ l = x) else if k = nI 5 then inL && decide (¬ t - t / nI 3 * nI 3 = nI 2) else inL
theorem seesF_1 {t l x : Int32} {inL : Bool} : seesF t l (nI 1) x inL = (inL && nearB l x) := by rw [seesF, if_pos rfl]
theorem seesF_2 {t l x : Int32} {inL : Bool} : seesF t l (nI 2) x inL = inL := by rw [seesF, if_neg (by decide), if_neg (by decide), if_neg (by decide), if_neg (by decide)]
theorem seesF_3 {t l x : Int32} {inL : Bool} : seesF t l (nI 3) x inL = true := by rw [seesF, if_neg (by decide), if_pos rfl]
theorem seesF_4 {t l x : Int32} {inL : Bool} : seesF t l (nI 4) x inL = ((inL && nearB l x) && decide (¬ l = x)) := by rw [seesF, if_neg (by decide), if_neg (by decide), if_pos rfl]
theorem seesF_5 {t l x : Int32} {inL : Bool} : seesF t l (nI 5) x inL = (inL && decide (¬ t - t / nI 3 * nI 3 = nI 2)) := by rw [seesF, if_neg (by decide), if_neg (by decide), if_neg (by decide), if_pos rfl]
theorem S_X1_sees {t r l b : Int32} {n p : Nat} {K Hd St Nv : Nat → Int32} {fl : Int32} {inL : Bool} (hp : p < 8) : Sp 1 mX1_sees [.ref 0, .int (nI p), .int (bI inL)] (hRc t r l b n K Hd St Nv fl) (some (.int (bI (seesF t l (K p) (nI p) inL)))) (hRc t r l b n K Hd St Nv fl) := by
  refine Sp.of [some (.ref 0), some (.int (nI p)), some (.int (bI inL)), none] mrX1_sees.1 rfl (Nat.le_of_ble_eq_true rfl) rfl (fun X => ?_)
  have J : ∀ v : Int32, v = bI (inL && nearB l (nI p)) → Run X 1 mX1_sees 22 [some (.ref 0), some (.int (nI p)), some (.int (bI inL)), none] [.int v] (hRc t r l b n K Hd St Nv fl) (some (.int (bI (seesF t l (K p) (nI p) inL)))) (hRc t r l b n K Hd St Nv fl) := by
    intro v hv
    subst hv
    refine r_istore_n (lv' := [_, _, _, _]) dX1_sees_22 (by decide) rfl ?_
    refine r_aload_n dX1_sees_23 rfl ?_
    refine r_getfield dX1_sees_24 gfX1_19 rfl rfl ?_
    refine r_iload_n dX1_sees_27 rfl ?_
    refine r_ialdN dX1_sees_28 rfl (by first | decide | omega) (Nat.le_of_ble_eq_true rfl) rfl ?_
    refine r_tsw 106 dX1_sees_29 (by decide) (fun v29 h29 g29 e29 => ?_) (fun e29 => ?_)
    · rcases (show v29 = 1 ∨ v29 = 2 ∨ v29 = 3 ∨ v29 = 4 ∨ v29 = 5 by omega) with rfl | rfl | rfl | rfl | rfl
      · refine ⟨35, 64, by decide, by decide, ?_⟩
        have c29 := toI_eq 1 e29 (by decide)
        refine r_iload_n dX1_sees_64 rfl ?_
        refine r_iret dX1_sees_65 rfl (by first | exact bI_nar _ | rfl) ?_ ?_
        · rw [c29, seesF_1]
        · exact HE.rf
      · refine ⟨77, 106, by decide, by decide, ?_⟩
        have c29 := toI_eq 2 e29 (by decide)
        refine r_iload_n dX1_sees_106 rfl ?_
        refine r_iret dX1_sees_107 rfl (by first | exact bI_nar _ | rfl) ?_ ?_
        · first | (rw [c29, seesF_2]; done) | (rw [seesF, if_neg c29_1, if_neg c29_3, if_neg c29_4, if_neg c29_5])
        · exact HE.rf
      · refine ⟨37, 66, by decide, by decide, ?_⟩
        have c29 := toI_eq 3 e29 (by decide)
        refine r_iconst (v := nI 1) dX1_sees_66 (by decide) ?_
        refine r_iret dX1_sees_67 rfl (by first | exact bI_nar _ | rfl) ?_ ?_
        · exact ret_t (by rw [c29, seesF_3])
        · exact HE.rf
      · refine ⟨39, 68, by decide, by decide, ?_⟩
        have c29 := toI_eq 4 e29 (by decide)
        refine r_iload_n dX1_sees_68 rfl ?_
        refine r_if_eqB 84 dX1_sees_69 (by decide) (fun c69 => ?_) (fun c69 => ?_)
        · refine r_iconst (v := nI 0) dX1_sees_84 (by decide) ?_
          refine r_iret dX1_sees_85 rfl (by first | exact bI_nar _ | rfl) ?_ ?_
          · first | exact ret_t (by rw [c29, seesF_4, c69, decide_eq_true c77]; rfl) | exact ret_f (by rw [c29, seesF_4, c69]; rfl) | exact ret_f (by rw [c29, seesF_4, decide_eq_false (fun z => z c77), Bool.and_false])
          · exact HE.rf
        · refine r_aload_n dX1_sees_72 rfl ?_
          refine r_getfield dX1_sees_73 gfX1_35 rfl rfl ?_
          refine r_iload_n dX1_sees_76 rfl ?_
          refine r_icmp_eq 84 dX1_sees_77 (by decide) (fun c77 => ?_) (fun c77 => ?_)
          · refine r_iconst (v := nI 0) dX1_sees_84 (by decide) ?_
            refine r_iret dX1_sees_85 rfl (by first | exact bI_nar _ | rfl) ?_ ?_
            · first | exact ret_t (by rw [c29, seesF_4, c69, decide_eq_true c77]; rfl) | exact ret_f (by rw [c29, seesF_4, c69]; rfl) | exact ret_f (by rw [c29, seesF_4, decide_eq_false (fun z => z c77), Bool.and_false])
            · exact HE.rf
          · refine r_iconst (v := nI 1) dX1_sees_80 (by decide) ?_
            refine r_goto 85 dX1_sees_81 (by decide) ?_
            refine r_iret dX1_sees_85 rfl (by first | exact bI_nar _ | rfl) ?_ ?_
            · first | exact ret_t (by rw [c29, seesF_4, c69, decide_eq_true c77]; rfl) | exact ret_f (by rw [c29, seesF_4, c69]; rfl) | exact ret_f (by rw [c29, seesF_4, decide_eq_false (fun z => z c77), Bool.and_false])
            · exact HE.rf
      · refine ⟨57, 86, by decide, by decide, ?_⟩
        have c29 := toI_eq 5 e29 (by decide)
        refine r_iload_n dX1_sees_86 rfl ?_
        refine r_if_eqB 104 dX1_sees_87 (by decide) (fun c87 => ?_) (fun c87 => ?_)
        · refine r_iconst (v := nI 0) dX1_sees_104 (by decide) ?_
          refine r_iret dX1_sees_105 rfl (by first | exact bI_nar _ | rfl) ?_ ?_
          · first | exact ret_t (by rw [c29, seesF_5, c87, decide_eq_true c97]; rfl) | exact ret_f (by rw [c29, seesF_5, c87]; rfl) | exact ret_f (by rw [c29, seesF_5, decide_eq_false (fun z => z c97), Bool.and_false])
          · exact HE.rf
        · refine r_aload_n dX1_sees_90 rfl ?_
          refine r_getfield dX1_sees_91 gfX1_32 rfl rfl ?_
          refine r_iconst (v := nI 3) dX1_sees_94 (by decide) ?_
          refine r_irem dX1_sees_95 (by decide) ?_
          refine r_iconst (v := nI 2) dX1_sees_96 (by decide) ?_
          refine r_icmp_eq 104 dX1_sees_97 (by decide) (fun c97 => ?_) (fun c97 => ?_)
          · refine r_iconst (v := nI 0) dX1_sees_104 (by decide) ?_
            refine r_iret dX1_sees_105 rfl (by first | exact bI_nar _ | rfl) ?_ ?_
            · first | exact ret_t (by rw [c29, seesF_5, c87, decide_eq_true c97]; rfl) | exact ret_f (by rw [c29, seesF_5, c87]; rfl) | exact ret_f (by rw [c29, seesF_5, decide_eq_false (fun z => z c97), Bool.and_false])
            · exact HE.rf
          · refine r_iconst (v := nI 1) dX1_sees_100 (by decide) ?_
            refine r_goto 105 dX1_sees_101 (by decide) ?_
            refine r_iret dX1_sees_105 rfl (by first | exact bI_nar _ | rfl) ?_ ?_
            · first | exact ret_t (by rw [c29, seesF_5, c87, decide_eq_true c97]; rfl) | exact ret_f (by rw [c29, seesF_5, c87]; rfl) | exact ret_f (by rw [c29, seesF_5, decide_eq_false (fun z => z c97), Bool.and_false])
            · exact HE.rf
    · have c29_1 := toI_ne 1 e29 (by decide)
      have c29_2 := toI_ne 2 e29 (by decide)
      have c29_3 := toI_ne 3 e29 (by decide)
      have c29_4 := toI_ne 4 e29 (by decide)
      have c29_5 := toI_ne 5 e29 (by decide)
      refine r_iload_n dX1_sees_106 rfl ?_
      refine r_iret dX1_sees_107 rfl (by first | exact bI_nar _ | rfl) ?_ ?_
      · first | (rw [c29, seesF_2]; done) | (rw [seesF, if_neg c29_1, if_neg c29_3, if_neg c29_4, if_neg c29_5])
      · exact HE.rf
  refine r_iload_n dX1_sees_0 rfl ?_
  refine r_if_eqB 21 dX1_sees_1 (by decide) (fun c1 => ?_) (fun c1 => ?_)
  · refine r_iconst (v := nI 0) dX1_sees_21 (by decide) ?_
    first | exact J _ (by rw [c1]; rfl) | exact J _ (by rw [c1, Bool.true_and, nearB, decide_eq_true c14]; rfl) | exact J _ (by rw [c1, Bool.true_and, nearB, decide_eq_false (fun z => z c14)]; rfl)
  · refine r_iload_n dX1_sees_4 rfl ?_
    refine r_aload_n dX1_sees_5 rfl ?_
    refine r_getfield dX1_sees_6 gfX1_35 rfl rfl ?_
    refine r_isub dX1_sees_9 ?_
    refine r_s1r S_J9_abs_0f7a4 (Nat.le_of_ble_eq_true rfl) mrJ9_abs_0f7a4 lkX1_78 dX1_sees_10 (Nat.le_of_ble_eq_true rfl) ?_
    refine r_iconst (v := nI 2) dX1_sees_13 (by decide) ?_
    refine r_icmp_gt 21 dX1_sees_14 (by decide) (fun c14 => ?_) (fun c14 => ?_)
    · refine r_iconst (v := nI 0) dX1_sees_21 (by decide) ?_
      first | exact J _ (by rw [c1]; rfl) | exact J _ (by rw [c1, Bool.true_and, nearB, decide_eq_true c14]; rfl) | exact J _ (by rw [c1, Bool.true_and, nearB, decide_eq_false (fun z => z c14)]; rfl)
    · refine r_iconst (v := nI 1) dX1_sees_17 (by decide) ?_
      refine r_goto 22 dX1_sees_18 (by decide) ?_
      first | exact J _ (by rw [c1]; rfl) | exact J _ (by rw [c1, Bool.true_and, nearB, decide_eq_true c14]; rfl) | exact J _ (by rw [c1, Bool.true_and, nearB, decide_eq_false (fun z => z c14)]; rfl)
def heedF (k nv : Int32) : Bool := if k = nI 2 then true else if k = nI 5 then false else decide (nI 30 ≤ nv)
theorem S_X1_heeds {t r l b : Int32} {n p : Nat} {K Hd St Nv : Nat → Int32} {fl : Int32} (hp : p < 8) : Sp 0 mX1_heeds [.ref 0, .int (nI p)] (hRc t r l b n K Hd St Nv fl) (some (.int (bI (heedF (K p) (Nv p))))) (hRc t r l b n K Hd St Nv fl) := by
  refine Sp.of [some (.ref 0), some (.int (nI p))] mrX1_heeds.1 rfl (Nat.le_of_ble_eq_true rfl) rfl (fun X => ?_)
  refine r_aload_n dX1_heeds_0 rfl ?_
  refine r_getfield dX1_heeds_1 gfX1_19 rfl rfl ?_
  refine r_iload_n dX1_heeds_4 rfl ?_
  refine r_ialdN dX1_heeds_5 rfl (by first | decide | omega) (Nat.le_of_ble_eq_true rfl) rfl ?_
  by_cases c6_2 : K p = nI 2
  · refine r_lsw dX1_heeds_6 (by decide) ⟨26, 32, (by rw [c6_2]; decide), by decide, ?_⟩
    refine r_iconst (v := nI 1) dX1_heeds_32 (by decide) ?_
    refine r_iret dX1_heeds_33 rfl (by first | exact bI_nar _ | rfl) ?_ ?_
    · exact ret_t (by rw [heedF, if_pos c6_2])
    · exact HE.rf
  · by_cases c6_5 : K p = nI 5
    · refine r_lsw dX1_heeds_6 (by decide) ⟨28, 34, (by rw [c6_5]; decide), by decide, ?_⟩
      refine r_iconst (v := nI 0) dX1_heeds_34 (by decide) ?_
      refine r_iret dX1_heeds_35 rfl (by first | exact bI_nar _ | rfl) ?_ ?_
      · exact ret_f (by rw [heedF, if_neg c6_2, if_pos c6_5])
      · exact HE.rf
    · refine r_lsw dX1_heeds_6 (by decide) ⟨30, 36, lsw_d (by intro q hq; simp only [List.mem_cons, List.not_mem_nil, or_false] at hq; rcases hq with rfl | rfl <;> first | exact toI_nq c6_2 (by decide) | exact toI_nq c6_5 (by decide)), by decide, ?_⟩
      refine r_aload_n dX1_heeds_36 rfl ?_
      refine r_getfield dX1_heeds_37 gfX1_29 rfl rfl ?_
      refine r_iload_n dX1_heeds_40 rfl ?_
      refine r_ialdN dX1_heeds_41 rfl (by first | decide | omega) (Nat.le_of_ble_eq_true rfl) rfl ?_
      refine r_bipush (v := nI 30) dX1_heeds_42 (by decide) ?_
      refine r_icmp_lt 51 dX1_heeds_44 (by decide) (fun c44 => ?_) (fun c44 => ?_)
      · refine r_iconst (v := nI 0) dX1_heeds_51 (by decide) ?_
        refine r_iret dX1_heeds_52 rfl (by first | exact bI_nar _ | rfl) ?_ ?_
        · rw [heedF, if_neg c6_2, if_neg c6_5]
          first | exact ret_t (decide_eq_true (Int32.not_lt.mp c44)) | exact ret_f (decide_eq_false (Int32.not_le.mpr c44))
        · exact HE.rf
      · refine r_iconst (v := nI 1) dX1_heeds_47 (by decide) ?_
        refine r_goto 52 dX1_heeds_48 (by decide) ?_
        refine r_iret dX1_heeds_52 rfl (by first | exact bI_nar _ | rfl) ?_ ?_
        · rw [heedF, if_neg c6_2, if_neg c6_5]
          first | exact ret_t (decide_eq_true (Int32.not_lt.mp c44)) | exact ret_f (decide_eq_false (Int32.not_le.mpr c44))
        · exact HE.rf
def warnF (k hd nv : Int32) : Bool := decide (hd = nI 1) && heedF k nv
theorem S_X1_isWarned {t r l b : Int32} {n p : Nat} {K Hd St Nv : Nat → Int32} {fl : Int32} (hp : p < 8) : Sp 1 mX1_isWarned [.ref 0, .int (nI p)] (hRc t r l b n K Hd St Nv fl) (some (.int (bI (warnF (K p) (Hd p) (Nv p))))) (hRc t r l b n K Hd St Nv fl) := by
  refine Sp.of [some (.ref 0), some (.int (nI p))] mrX1_isWarned.1 rfl (Nat.le_of_ble_eq_true rfl) rfl (fun X => ?_)
  refine r_aload_n dX1_isWarned_0 rfl ?_
  refine r_getfield dX1_isWarned_1 gfX1_23 rfl rfl ?_
  refine r_iload_n dX1_isWarned_4 rfl ?_
  refine r_ialdN dX1_isWarned_5 rfl (by first | decide | omega) (Nat.le_of_ble_eq_true rfl) rfl ?_
  refine r_iconst (v := nI 1) dX1_isWarned_6 (by decide) ?_
  refine r_icmp_ne 22 dX1_isWarned_7 (by decide) (fun c7 => ?_) (fun c7 => ?_)
  · refine r_iconst (v := nI 0) dX1_isWarned_22 (by decide) ?_
    refine r_iret dX1_isWarned_23 rfl (by first | exact bI_nar _ | rfl) ?_ ?_
    · first | exact ret_t (by rw [warnF, decide_eq_true c7, c15]; rfl) | exact ret_f (by rw [warnF, decide_eq_false c7]; rfl) | exact ret_f (by rw [warnF, c15, Bool.and_false])
    · exact HE.rf
  · refine r_aload_n dX1_isWarned_10 rfl ?_
    refine r_iload_n dX1_isWarned_11 rfl ?_
    refine r_v1r (S_X1_heeds (by omega)) (Nat.le_of_ble_eq_true rfl) mrX1_heeds lkX1_84 rfl rfl rfl dX1_isWarned_12 (Nat.le_of_ble_eq_true rfl) ?_
    refine r_if_eqB 22 dX1_isWarned_15 (by decide) (fun c15 => ?_) (fun c15 => ?_)
    · refine r_iconst (v := nI 0) dX1_isWarned_22 (by decide) ?_
      refine r_iret dX1_isWarned_23 rfl (by first | exact bI_nar _ | rfl) ?_ ?_
      · first | exact ret_t (by rw [warnF, decide_eq_true c7, c15]; rfl) | exact ret_f (by rw [warnF, decide_eq_false c7]; rfl) | exact ret_f (by rw [warnF, c15, Bool.and_false])
      · exact HE.rf
    · refine r_iconst (v := nI 1) dX1_isWarned_18 (by decide) ?_
      refine r_goto 23 dX1_isWarned_19 (by decide) ?_
      refine r_iret dX1_isWarned_23 rfl (by first | exact bI_nar _ | rfl) ?_ ?_
      · first | exact ret_t (by rw [warnF, decide_eq_true c7, c15]; rfl) | exact ret_f (by rw [warnF, decide_eq_false c7]; rfl) | exact ret_f (by rw [warnF, c15, Bool.and_false])
      · exact HE.rf
/-- whether one says the word on: fell, seen: whether it fell, whether it sees a root at which it is -/
def saysF (k hd nv : Int32) (fell seen : Bool) : Bool := if k = nI 1 then (fell || seen) || decide (hd = nI 1) else if k = nI 2 then fell else if k = nI 4 then ((fell || seen) || decide (hd = nI 1)) && decide (nI 20 ≤ nv) else if k = nI 5 then false else fell || seen
theorem saysF_1 {hd nv : Int32} {fell seen : Bool} : saysF (nI 1) hd nv fell seen = ((fell || seen) || decide (hd = nI 1)) := by rw [saysF, if_pos rfl]
theorem saysF_2 {hd nv : Int32} {fell seen : Bool} : saysF (nI 2) hd nv fell seen = fell := by rw [saysF, if_neg (by decide), if_pos rfl]
theorem saysF_3 {hd nv : Int32} {fell seen : Bool} : saysF (nI 3) hd nv fell seen = (fell || seen) := by rw [saysF, if_neg (by decide), if_neg (by decide), if_neg (by decide), if_neg (by decide)]
theorem saysF_4 {hd nv : Int32} {fell seen : Bool} : saysF (nI 4) hd nv fell seen = (((fell || seen) || decide (hd = nI 1)) && decide (nI 20 ≤ nv)) := by rw [saysF, if_neg (by decide), if_neg (by decide), if_pos rfl]
theorem saysF_5 {hd nv : Int32} {fell seen : Bool} : saysF (nI 5) hd nv fell seen = false := by rw [saysF, if_neg (by decide), if_neg (by decide), if_neg (by decide), if_pos rfl]
theorem S_X1_says {t r l b : Int32} {n p : Nat} {K Hd St Nv : Nat → Int32} {fl sn : Int32} (hp : p < 8) : Sp 1 mX1_says [.ref 0, .int (nI p), .int sn] (hRc t r l b n K Hd St Nv fl) (some (.int (bI (saysF (K p) (Hd p) (Nv p) (isIn fl (nI p)) (isIn sn (nI p)))))) (hRc t r l b n K Hd St Nv fl) := by
  refine Sp.of [some (.ref 0), some (.int (nI p)), some (.int sn), none, none, none] mrX1_says.1 rfl (Nat.le_of_ble_eq_true rfl) rfl (fun X => ?_)
  have J2 : ∀ v : Int32, v = bI ((isIn fl (nI p) || isIn sn (nI p)) || decide (Hd p = nI 1)) → Run X 1 mX1_says 48 [some (.ref 0), some (.int (nI p)), some (.int sn), some (.int (bI (isIn fl (nI p)))), some (.int (bI (isIn fl (nI p) || isIn sn (nI p)))), none] [.int v] (hRc t r l b n K Hd St Nv fl) (some (.int (bI (saysF (K p) (Hd p) (Nv p) (isIn fl (nI p)) (isIn sn (nI p)))))) (hRc t r l b n K Hd St Nv fl) := by
    intro v hv
    subst hv
    refine r_istore (lv' := [_, _, _, _, _, _]) dX1_says_48 (by decide) rfl ?_
    refine r_aload_n dX1_says_50 rfl ?_
    refine r_getfield dX1_says_51 gfX1_19 rfl rfl ?_
    refine r_iload_n dX1_says_54 rfl ?_
    refine r_ialdN dX1_says_55 rfl (by first | decide | omega) (Nat.le_of_ble_eq_true rfl) rfl ?_
    refine r_tsw 121 dX1_says_56 (by decide) (fun v56 h56 g56 e56 => ?_) (fun e56 => ?_)
    · rcases (show v56 = 1 ∨ v56 = 2 ∨ v56 = 3 ∨ v56 = 4 ∨ v56 = 5 by omega) with rfl | rfl | rfl | rfl | rfl
      · refine ⟨36, 92, by decide, by decide, ?_⟩
        have c56 := toI_eq 1 e56 (by decide)
        refine r_iload dX1_says_92 rfl ?_
        refine r_iret dX1_says_94 rfl (by first | exact bI_nar _ | rfl) ?_ ?_
        · rw [c56, saysF_1]
        · exact HE.rf
      · refine ⟨39, 95, by decide, by decide, ?_⟩
        have c56 := toI_eq 2 e56 (by decide)
        refine r_iload_n dX1_says_95 rfl ?_
        refine r_iret dX1_says_96 rfl (by first | exact bI_nar _ | rfl) ?_ ?_
        · rw [c56, saysF_2]
        · exact HE.rf
      · refine ⟨65, 121, by decide, by decide, ?_⟩
        have c56 := toI_eq 3 e56 (by decide)
        refine r_iload dX1_says_121 rfl ?_
        refine r_iret dX1_says_123 rfl (by first | exact bI_nar _ | rfl) ?_ ?_
        · first | (rw [c56, saysF_3]; done) | (rw [saysF, if_neg c56_1, if_neg c56_2, if_neg c56_4, if_neg c56_5])
        · exact HE.rf
      · refine ⟨41, 97, by decide, by decide, ?_⟩
        have c56 := toI_eq 4 e56 (by decide)
        refine r_iload dX1_says_97 rfl ?_
        refine r_if_eqB 117 dX1_says_99 (by decide) (fun c99 => ?_) (fun c99 => ?_)
        · refine r_iconst (v := nI 0) dX1_says_117 (by decide) ?_
          refine r_iret dX1_says_118 rfl (by first | exact bI_nar _ | rfl) ?_ ?_
          · first | exact ret_t (by rw [c56, saysF_4, c99, decide_eq_true (Int32.not_lt.mp c110)]; rfl) | exact ret_f (by rw [c56, saysF_4, c99]; rfl) | exact ret_f (by rw [c56, saysF_4, decide_eq_false (Int32.not_le.mpr c110), Bool.and_false])
          · exact HE.rf
        · refine r_aload_n dX1_says_102 rfl ?_
          refine r_getfield dX1_says_103 gfX1_29 rfl rfl ?_
          refine r_iload_n dX1_says_106 rfl ?_
          refine r_ialdN dX1_says_107 rfl (by first | decide | omega) (Nat.le_of_ble_eq_true rfl) rfl ?_
          refine r_bipush (v := nI 20) dX1_says_108 (by decide) ?_
          refine r_icmp_lt 117 dX1_says_110 (by decide) (fun c110 => ?_) (fun c110 => ?_)
          · refine r_iconst (v := nI 0) dX1_says_117 (by decide) ?_
            refine r_iret dX1_says_118 rfl (by first | exact bI_nar _ | rfl) ?_ ?_
            · first | exact ret_t (by rw [c56, saysF_4, c99, decide_eq_true (Int32.not_lt.mp c110)]; rfl) | exact ret_f (by rw [c56, saysF_4, c99]; rfl) | exact ret_f (by rw [c56, saysF_4, decide_eq_false (Int32.not_le.mpr c110), Bool.and_false])
            · exact HE.rf
          · refine r_iconst (v := nI 1) dX1_says_113 (by decide) ?_
            refine r_goto 118 dX1_says_114 (by decide) ?_
            refine r_iret dX1_says_118 rfl (by first | exact bI_nar _ | rfl) ?_ ?_
            · first | exact ret_t (by rw [c56, saysF_4, c99, decide_eq_true (Int32.not_lt.mp c110)]; rfl) | exact ret_f (by rw [c56, saysF_4, c99]; rfl) | exact ret_f (by rw [c56, saysF_4, decide_eq_false (Int32.not_le.mpr c110), Bool.and_false])
            · exact HE.rf
      · refine ⟨63, 119, by decide, by decide, ?_⟩
        have c56 := toI_eq 5 e56 (by decide)
        refine r_iconst (v := nI 0) dX1_says_119 (by decide) ?_
        refine r_iret dX1_says_120 rfl (by first | exact bI_nar _ | rfl) ?_ ?_
        · exact ret_f (by rw [c56, saysF_5])
        · exact HE.rf
    · have c56_1 := toI_ne 1 e56 (by decide)
      have c56_2 := toI_ne 2 e56 (by decide)
      have c56_3 := toI_ne 3 e56 (by decide)
      have c56_4 := toI_ne 4 e56 (by decide)
      have c56_5 := toI_ne 5 e56 (by decide)
      refine r_iload dX1_says_121 rfl ?_
      refine r_iret dX1_says_123 rfl (by first | exact bI_nar _ | rfl) ?_ ?_
      · first | (rw [c56, saysF_3]; done) | (rw [saysF, if_neg c56_1, if_neg c56_2, if_neg c56_4, if_neg c56_5])
      · exact HE.rf
  have J1 : ∀ v : Int32, v = bI (isIn fl (nI p) || isIn sn (nI p)) → Run X 1 mX1_says 26 [some (.ref 0), some (.int (nI p)), some (.int sn), some (.int (bI (isIn fl (nI p)))), none, none] [.int v] (hRc t r l b n K Hd St Nv fl) (some (.int (bI (saysF (K p) (Hd p) (Nv p) (isIn fl (nI p)) (isIn sn (nI p)))))) (hRc t r l b n K Hd St Nv fl) := by
    intro v hv
    subst hv
    refine r_istore (lv' := [_, _, _, _, _, _]) dX1_says_26 (by decide) rfl ?_
    refine r_iload dX1_says_28 rfl ?_
    refine r_if_neB 43 dX1_says_30 (by decide) (fun c30 => ?_) (fun c30 => ?_)
    · refine r_iconst (v := nI 1) dX1_says_43 (by decide) ?_
      refine r_goto 48 dX1_says_44 (by decide) ?_
      first | exact J2 _ (by rw [c30]; rfl) | exact J2 _ (by rw [c30, decide_eq_true c40]; rfl) | exact J2 _ (by rw [c30, decide_eq_false c40]; rfl)
    · refine r_aload_n dX1_says_33 rfl ?_
      refine r_getfield dX1_says_34 gfX1_23 rfl rfl ?_
      refine r_iload_n dX1_says_37 rfl ?_
      refine r_ialdN dX1_says_38 rfl (by first | decide | omega) (Nat.le_of_ble_eq_true rfl) rfl ?_
      refine r_iconst (v := nI 1) dX1_says_39 (by decide) ?_
      refine r_icmp_ne 47 dX1_says_40 (by decide) (fun c40 => ?_) (fun c40 => ?_)
      · refine r_iconst (v := nI 0) dX1_says_47 (by decide) ?_
        first | exact J2 _ (by rw [c30]; rfl) | exact J2 _ (by rw [c30, decide_eq_true c40]; rfl) | exact J2 _ (by rw [c30, decide_eq_false c40]; rfl)
      · refine r_iconst (v := nI 1) dX1_says_43 (by decide) ?_
        refine r_goto 48 dX1_says_44 (by decide) ?_
        first | exact J2 _ (by rw [c30]; rfl) | exact J2 _ (by rw [c30, decide_eq_true c40]; rfl) | exact J2 _ (by rw [c30, decide_eq_false c40]; rfl)
  refine r_aload_n dX1_says_0 rfl ?_
  refine r_getfield dX1_says_1 gfX1_81 rfl rfl ?_
  refine r_iload_n dX1_says_4 rfl ?_
  refine r_s2r S_X4_isIn (Nat.le_of_ble_eq_true rfl) mrX4_isIn lkX1_66 dX1_says_5 (Nat.le_of_ble_eq_true rfl) ?_
  refine r_istore_n (lv' := [_, _, _, _, _, _]) dX1_says_8 (by decide) rfl ?_
  refine r_iload_n dX1_says_9 rfl ?_
  refine r_if_neB 21 dX1_says_10 (by decide) (fun c10 => ?_) (fun c10 => ?_)
  · refine r_iconst (v := nI 1) dX1_says_21 (by decide) ?_
    refine r_goto 26 dX1_says_22 (by decide) ?_
    first | exact J1 _ (by rw [c10]; rfl) | exact J1 _ (by rw [c10, c18]; rfl)
  · refine r_iload_n dX1_says_13 rfl ?_
    refine r_iload_n dX1_says_14 rfl ?_
    refine r_s2r S_X4_isIn (Nat.le_of_ble_eq_true rfl) mrX4_isIn lkX1_66 dX1_says_15 (Nat.le_of_ble_eq_true rfl) ?_
    refine r_if_eqB 25 dX1_says_18 (by decide) (fun c18 => ?_) (fun c18 => ?_)
    · refine r_iconst (v := nI 0) dX1_says_25 (by decide) ?_
      first | exact J1 _ (by rw [c10]; rfl) | exact J1 _ (by rw [c10, c18]; rfl)
    · refine r_iconst (v := nI 1) dX1_says_21 (by decide) ?_
      refine r_goto 26 dX1_says_22 (by decide) ?_
      first | exact J1 _ (by rw [c10]; rfl) | exact J1 _ (by rw [c10, c18]; rfl)
def seeG (t l b : Int32) (n : Nat) (K : Nat → Int32) (p : Nat) : Bool := seesF t l (K p) (nI p) (isIn (litS l b n K) (nI p))
theorem S_X1_seeingSet {t r l b : Int32} {n : Nat} {K Hd St Nv : Nat → Int32} {fl : Int32} (hn : n ≤ 8) : Sp 2 mX1_seeingSet [.ref 0] (hRc t r l b n K Hd St Nv fl) (some (.int (setOf (seeG t l b n K) n))) (hRc t r l b n K Hd St Nv fl) := by
  refine Sp.of [some (.ref 0), none, none, none] mrX1_seeingSet.1 rfl (Nat.le_of_ble_eq_true rfl) rfl (fun X => ?_)
  have L : ∀ (k i : Nat), i + k = n → Run X 2 mX1_seeingSet 9 [some (.ref 0), some (.int (litS l b n K)), some (.int (setOf (seeG t l b n K) i)), some (.int (nI i))] [] (hRc t r l b n K Hd St Nv fl) (some (.int (setOf (seeG t l b n K) n))) (hRc t r l b n K Hd St Nv fl) := by
    intro k
    induction k with
    | zero =>
      intro i hi
      obtain rfl : i = n := by omega
      refine r_iload_n dX1_seeingSet_9 rfl ?_
      refine r_aload_n dX1_seeingSet_10 rfl ?_
      refine r_getfield dX1_seeingSet_11 gfX1_38 rfl rfl ?_
      refine r_icmp_ge 42 dX1_seeingSet_14 (by decide) (fun c14 => ?_) (fun c14 => ?_)
      · refine r_iload_n dX1_seeingSet_42 rfl ?_
        refine r_iret dX1_seeingSet_43 rfl rfl ?_ ?_
        · rfl
        · exact HE.rf
      · exact absurd (nI_le (Nat.le_refl _) (by omega)) c14
    | succ k ih =>
      intro i hi
      refine r_iload_n dX1_seeingSet_9 rfl ?_
      refine r_aload_n dX1_seeingSet_10 rfl ?_
      refine r_getfield dX1_seeingSet_11 gfX1_38 rfl rfl ?_
      refine r_icmp_ge 42 dX1_seeingSet_14 (by decide) (fun c14 => ?_) (fun c14 => ?_)
      · exact absurd c14 (nI_ge (by omega) (by omega))
      · refine r_aload_n dX1_seeingSet_17 rfl ?_
        refine r_iload_n dX1_seeingSet_18 rfl ?_
        refine r_iload_n dX1_seeingSet_19 rfl ?_
        refine r_iload_n dX1_seeingSet_20 rfl ?_
        refine r_s2r S_X4_isIn (Nat.le_of_ble_eq_true rfl) mrX4_isIn lkX1_66 dX1_seeingSet_21 (Nat.le_of_ble_eq_true rfl) ?_
        refine r_v2r (S_X1_sees (by omega)) (Nat.le_of_ble_eq_true rfl) mrX1_sees lkX1_74 rfl rfl rfl dX1_seeingSet_24 (Nat.le_of_ble_eq_true rfl) ?_
        refine r_if_eqB 36 dX1_seeingSet_27 (by decide) (fun c27 => ?_) (fun c27 => ?_)
        · refine r_iinc (lv' := [_, _, _, _]) dX1_seeingSet_36 (by decide) rfl (by first | exact inc1 _ | exact inc1_ _) rfl ?_
          refine r_goto 9 dX1_seeingSet_39 (by decide) ?_
          have e := ih (i + 1) (by omega)
          first | (rw [setOf_t (f := seeG t l b n K) c27] at e; exact e) | (rw [setOf_f (f := seeG t l b n K) c27] at e; exact e)
        · refine r_iload_n dX1_seeingSet_30 rfl ?_
          refine r_iconst (v := nI 1) dX1_seeingSet_31 (by decide) ?_
          refine r_iload_n dX1_seeingSet_32 rfl ?_
          refine r_ishl dX1_seeingSet_33 ?_
          refine r_ior dX1_seeingSet_34 ?_
          refine r_istore_n (lv' := [_, _, _, _]) dX1_seeingSet_35 (by decide) rfl ?_
          refine r_iinc (lv' := [_, _, _, _]) dX1_seeingSet_36 (by decide) rfl (by first | exact inc1 _ | exact inc1_ _) rfl ?_
          refine r_goto 9 dX1_seeingSet_39 (by decide) ?_
          have e := ih (i + 1) (by omega)
          first | (rw [setOf_t (f := seeG t l b n K) c27] at e; exact e) | (rw [setOf_f (f := seeG t l b n K) c27] at e; exact e)
  refine r_aload_n dX1_seeingSet_0 rfl ?_
  refine r_v0r (S_X1_litSet hn) (Nat.le_of_ble_eq_true rfl) mrX1_litSet lkX1_70 rfl rfl rfl dX1_seeingSet_1 (Nat.le_of_ble_eq_true rfl) ?_
  refine r_istore_n (lv' := [_, _, _, _]) dX1_seeingSet_4 (by decide) rfl ?_
  refine r_iconst (v := nI 0) dX1_seeingSet_5 (by decide) ?_
  refine r_istore_n (lv' := [_, _, _, _]) dX1_seeingSet_6 (by decide) rfl ?_
  refine r_iconst (v := nI 0) dX1_seeingSet_7 (by decide) ?_
  refine r_istore_n (lv' := [_, _, _, _]) dX1_seeingSet_8 (by decide) rfl ?_
  exact L n 0 (by omega)
end
section
/-! bits (the first rows out of kit/laws/BITS.to-paste) -/
def bt (x : Int32) (i : Nat) : Bool := x.toBitVec.getLsbD i
theorem b_ext {x y : Int32} (h : ∀ i, i < 32 → bt x i = bt y i) : x = y := Int32.toBitVec_inj.mp (BitVec.eq_of_getLsbD_eq (fun i hi => h i hi))
theorem b_or (x y : Int32) (i : Nat) : bt (x ||| y) i = (bt x i || bt y i) := by unfold bt; rw [Int32.toBitVec_or, BitVec.getLsbD_or]
theorem b_and (x y : Int32) (i : Nat) : bt (x &&& y) i = (bt x i && bt y i) := by unfold bt; rw [Int32.toBitVec_and, BitVec.getLsbD_and]
theorem b_xor (x y : Int32) (i : Nat) : bt (x ^^^ y) i = (bt x i ^^ bt y i) := by unfold bt; rw [Int32.toBitVec_xor, BitVec.getLsbD_xor]
theorem b_big {x : Int32} {i : Nat} (h : 32 ≤ i) : bt x i = false := BitVec.getLsbD_of_ge _ _ h
theorem b_255 (i : Nat) : bt 255 i = decide (i < 8) := by
  rcases Nat.lt_or_ge i 32 with h | h
  · exact (by decide +kernel : ∀ i, i < 32 → bt 255 i = decide (i < 8)) i h
  · rw [b_big h, decide_eq_false (by omega)]
theorem b_65535 (i : Nat) : bt 65535 i = decide (i < 16) := by
  rcases Nat.lt_or_ge i 32 with h | h
  · exact (by decide +kernel : ∀ i, i < 32 → bt 65535 i = decide (i < 16)) i h
  · rw [b_big h, decide_eq_false (by omega)]
theorem b_m1 : ∀ i, i < 32 → bt (-1) i = true := by decide +kernel
theorem b_0 (i : Nat) : bt 0 i = false := BitVec.getLsbD_zero
theorem s_l : ∀ n, n < 32 → ((nI n &&& 31).toBitVec.smod 32).toNat = n := by decide +kernel
theorem s_u : ∀ n, n < 32 → (((nI n).toUInt32 &&& Int32.toUInt32 31).toBitVec % 32).toNat = n := by decide +kernel
theorem b_shl (n : Nat) (hn : n < 32) (x : Int32) {i : Nat} (hi : i < 32) : bt (x <<< (nI n &&& 31)) i = (decide (n ≤ i) && bt x (i - n)) := by
  unfold bt
  rw [Int32.toBitVec_shiftLeft]
  show (x.toBitVec <<< ((nI n &&& 31).toBitVec.smod 32).toNat).getLsbD i = _
  rw [s_l n hn, BitVec.getLsbD_shiftLeft]
  rcases Nat.lt_or_ge i n with h | h
  · simp [h, Nat.not_le.mpr h]
  · simp [hi, h, Nat.not_lt.mpr h]
theorem b_ushr (n : Nat) (hn : n < 32) (x : Int32) (i : Nat) : bt ((x.toUInt32 >>> ((nI n).toUInt32 &&& Int32.toUInt32 31)).toInt32) i = bt x (n + i) := by
  show (x.toUInt32 >>> ((nI n).toUInt32 &&& Int32.toUInt32 31)).toBitVec.getLsbD i = x.toUInt32.toBitVec.getLsbD (n + i)
  rw [UInt32.toBitVec_shiftRight]
  show (x.toUInt32.toBitVec >>> (((nI n).toUInt32 &&& Int32.toUInt32 31).toBitVec % 32).toNat).getLsbD i = _
  rw [s_u n hn, BitVec.getLsbD_ushiftRight]
theorem b_sshr (n : Nat) (hn : n < 32) (x : Int32) {i : Nat} (hi : i < 32) : bt (x >>> (nI n &&& 31)) i = if n + i < 32 then bt x (n + i) else bt x 31 := by
  unfold bt
  rw [Int32.toBitVec_shiftRight]
  show (x.toBitVec.sshiftRight ((nI n &&& 31).toBitVec.smod 32).toNat).getLsbD i = _
  rw [s_l n hn, BitVec.getLsbD_sshiftRight, BitVec.msb_eq_getLsbD_last]
  simp [hi]
theorem bt_1 : ∀ i, i < 32 → bt (nI 1) i = decide (i = 0) := by decide +kernel
theorem bt_sh {p : Nat} (hp : p < 32) {i : Nat} (hi : i < 32) : bt (nI 1 <<< (nI p &&& 31)) i = decide (i = p) := by
  rw [b_shl p hp _ hi]
  by_cases h : p ≤ i
  · rw [bt_1 _ (by omega)]
    by_cases q : i = p
    · subst q; simp
    · rw [decide_eq_true h, decide_eq_false (show ¬ i - p = 0 by omega), decide_eq_false q]; rfl
  · rw [decide_eq_false h, decide_eq_false (by omega)]; rfl
theorem and_1 (y : Int32) : (y &&& nI 1 = nI 1) ↔ bt y 0 = true := by
  constructor
  · intro h
    have h1 := congrArg (fun z => bt z 0) h
    simp only [b_and] at h1
    rw [bt_1 0 (by omega)] at h1
    simpa using h1
  · intro h
    apply b_ext
    intro i hi
    rw [b_and, bt_1 i hi]
    by_cases q : i = 0
    · subst q; rw [h]; rfl
    · rw [decide_eq_false q, Bool.and_false]
theorem isIn_bt (x : Int32) {p : Nat} (hp : p < 32) : isIn x (nI p) = bt x p := by
  unfold isIn
  rw [Bool.eq_iff_iff, decide_eq_true_iff, and_1, b_sshr p hp x (by omega), Nat.add_zero, if_pos hp]
theorem bt_setOf (f : Nat → Bool) : ∀ (n : Nat), n ≤ 32 → ∀ i, i < 32 → bt (setOf f n) i = (decide (i < n) && f i)
  | 0, _, i, _ => by
    rw [decide_eq_false (Nat.not_lt_zero i), setOf]
    exact b_0 i
  | n + 1, hn, i, hi => by
    have ih := bt_setOf f n (by omega) i hi
    have key : bt (setOf f (n + 1)) i = (bt (setOf f n) i || (f n && decide (i = n))) := by
      cases hf : f n with
      | true => rw [setOf_t hf, b_or, bt_sh (by omega) hi]; rfl
      | false => rw [setOf_f hf]; simp
    rw [key, ih]
    by_cases q : i = n
    · subst q
      rw [decide_eq_false (Nat.lt_irrefl i), decide_eq_true (Nat.lt_succ_self i)]
      simp
    · by_cases q2 : i < n
      · rw [decide_eq_true q2, decide_eq_true (show i < n + 1 by omega), decide_eq_false q]; simp
      · rw [decide_eq_false q2, decide_eq_false (show ¬ i < n + 1 by omega), decide_eq_false q]; simp
theorem isIn_setOf (f : Nat → Bool) {n p : Nat} (hn : n ≤ 32) (hp : p < n) : isIn (setOf f n) (nI p) = f p := by
  rw [isIn_bt _ (by omega), bt_setOf f n hn p (by omega), decide_eq_true hp, Bool.true_and]
theorem isIn_and (x y : Int32) {p : Nat} (hp : p < 32) : isIn (x &&& y) (nI p) = (isIn x (nI p) && isIn y (nI p)) := by
  rw [isIn_bt _ hp, isIn_bt _ hp, isIn_bt _ hp, b_and]
theorem isIn_not (x : Int32) {p : Nat} (hp : p < 32) : isIn (x ^^^ (-1)) (nI p) = !isIn x (nI p) := by
  rw [isIn_bt _ hp, isIn_bt _ hp, b_xor, b_m1 p hp, Bool.xor_true]
theorem isIn_sh1 (x : Int32) {p : Nat} (hp : p < 32) : isIn (x <<< (nI 1 &&& 31)) (nI p) = (decide (1 ≤ p) && isIn x (nI (p - 1))) := by
  rw [isIn_bt _ hp, isIn_bt _ (by omega), b_shl 1 (by omega) x hp]
theorem setOf_cong {f g : Nat → Bool} : ∀ {n : Nat}, (∀ p, p < n → f p = g p) → setOf f n = setOf g n
  | 0, _ => rfl
  | n + 1, h => by
    have ih := setOf_cong (n := n) (fun p hp => h p (by omega))
    cases hf : f n with
    | true => rw [setOf_t hf, setOf_t (by rw [← h n (by omega)]; exact hf), ih]
    | false => rw [setOf_f hf, setOf_f (by rw [← h n (by omega)]; exact hf), ih]
/-- a row half gone through -/
def prg (i : Nat) (f g : Nat → Int32) : Nat → Int32 := fun p => if p < i then f p else g p
theorem prg_0 (f g : Nat → Int32) : prg 0 f g = g := by funext p; simp [prg]
theorem prg_at {i : Nat} {f g : Nat → Int32} : prg i f g i = g i := by simp [prg]
theorem prg_lo {i p : Nat} {f g : Nat → Int32} (h : p < i) : prg i f g p = f p := by simp [prg, h]
theorem prg_hi {i p : Nat} {f g : Nat → Int32} (h : i ≤ p) : prg i f g p = g p := by simp [prg, Nat.not_lt.mpr h]
theorem prg_upd {i : Nat} {f g : Nat → Int32} {x : Int32} (h : f i = x) : upd (prg i f g) i x = prg (i + 1) f g := by
  funext p
  simp only [upd, prg]
  by_cases q : p = i
  · subst q; simp [h]
  · by_cases q2 : p < i
    · simp [q, q2, show p < i + 1 by omega]
    · simp [q, q2, show ¬ p < i + 1 by omega]
theorem prg_skip {i : Nat} {f g : Nat → Int32} (h : f i = g i) : prg i f g = prg (i + 1) f g := by
  funext p
  simp only [prg]
  by_cases q : p = i
  · subst q; simp [h]
  · by_cases q2 : p < i
    · simp [q2, show p < i + 1 by omega]
    · simp [q2, show ¬ p < i + 1 by omega]
theorem prg_cong {i : Nat} {f f' g : Nat → Int32} (h : ∀ p, p < i → f p = f' p) : prg i f g = prg i f' g := by
  funext p
  simp only [prg]
  split
  · rename_i q; exact h p q
  · rfl
end
section
/-! a STEP in the class -/
def nwS (fell : Bool) (x : Int32) : Int32 := match fell with
  | true => if nI 9999 < x + nI 1 then nI 9999 else x + nI 1
  | false => x
def nwN (fell : Bool) (x : Int32) : Int32 := match fell with
  | true => if x - nI 10 < nI 0 then nI 0 else x - nI 10
  | false => if nI 99 < x + nI 1 then nI 99 else x + nI 1
theorem S_X1_walk {t r l b : Int32} {n : Nat} {K Hd St Nv : Nat → Int32} {fl un : Int32} (hn : n ≤ 8) (F : Nat → Bool) (hF : ∀ p, p < n → F p = (isIn un (nI p) && !warnF (K p) (Hd p) (Nv p))) : Sp 2 mX1_walk [.ref 0, .int un] (hRc t r l b n K Hd St Nv fl) none (hRc t r l b n K Hd (prg n (fun p => nwS (F p) (St p)) St) (prg n (fun p => nwN (F p) (Nv p)) Nv) (setOf F n)) := by
  refine Sp.of [some (.ref 0), some (.int un), none] mrX1_walk.1 rfl (Nat.le_of_ble_eq_true rfl) rfl (fun X => ?_)
  have L : ∀ (k i : Nat), i + k = n → Run X 2 mX1_walk 7 [some (.ref 0), some (.int un), some (.int (nI i))] [] (hRc t r l b n K Hd (prg i (fun p => nwS (F p) (St p)) St) (prg i (fun p => nwN (F p) (Nv p)) Nv) (setOf F i)) none (hRc t r l b n K Hd (prg n (fun p => nwS (F p) (St p)) St) (prg n (fun p => nwN (F p) (Nv p)) Nv) (setOf F n)) := by
    intro k
    induction k with
    | zero =>
      intro i hi
      obtain rfl : i = n := by omega
      refine r_iload_n dX1_walk_7 rfl ?_
      refine r_aload_n dX1_walk_8 rfl ?_
      refine r_getfield dX1_walk_9 gfX1_38 rfl rfl ?_
      refine r_icmp_ge 110 dX1_walk_12 (by decide) (fun c12 => ?_) (fun c12 => ?_)
      · refine r_vret dX1_walk_110 rfl ?_ ?_
        · rfl
        · exact HE.rf
      · exact absurd (nI_le (Nat.le_refl _) (by omega)) c12
    | succ k ih =>
      intro i hi
      refine r_iload_n dX1_walk_7 rfl ?_
      refine r_aload_n dX1_walk_8 rfl ?_
      refine r_getfield dX1_walk_9 gfX1_38 rfl rfl ?_
      refine r_icmp_ge 110 dX1_walk_12 (by decide) (fun c12 => ?_) (fun c12 => ?_)
      · exact absurd c12 (nI_ge (by omega) (by omega))
      · refine r_iload_n dX1_walk_15 rfl ?_
        refine r_iload_n dX1_walk_16 rfl ?_
        refine r_s2r S_X4_isIn (Nat.le_of_ble_eq_true rfl) mrX4_isIn lkX1_66 dX1_walk_17 (Nat.le_of_ble_eq_true rfl) ?_
        refine r_if_eqB 85 dX1_walk_20 (by decide) (fun c20 => ?_) (fun c20 => ?_)
        · refine r_aload_n dX1_walk_85 rfl ?_
          refine r_getfield dX1_walk_86 gfX1_29 rfl rfl ?_
          refine r_iload_n dX1_walk_89 rfl ?_
          refine r_aload_n dX1_walk_90 rfl ?_
          refine r_getfield dX1_walk_91 gfX1_29 rfl rfl ?_
          refine r_iload_n dX1_walk_94 rfl ?_
          refine r_ialdN dX1_walk_95 rfl (by first | decide | omega) (Nat.le_of_ble_eq_true rfl) prg_at ?_
          refine r_iconst (v := nI 1) dX1_walk_96 (by decide) ?_
          refine r_iadd dX1_walk_97 ?_
          refine r_bipush (v := nI 99) dX1_walk_98 (by decide) ?_
          refine r_s2r S_J9_min_7cf53 (Nat.le_of_ble_eq_true rfl) mrJ9_min_7cf53 lkX1_106 dX1_walk_100 (Nat.le_of_ble_eq_true rfl) ?_
          refine r_iastN (h' := [_, _, _, _, _]) dX1_walk_103 rfl (by first | decide | omega) (Nat.le_of_ble_eq_true rfl) rfl ?_
          refine r_iinc (lv' := [_, _, _]) dX1_walk_104 (by decide) rfl (inc1 _) rfl ?_
          refine r_goto 7 dX1_walk_107 (by decide) ?_
          have e := ih (i + 1) (by omega)
          first
          | (have hf : F i = true := by rw [hF i (by omega), c20]; rw [prg_at] at c28; rw [c28]; rfl
             rw [setOf_t hf, ← prg_upd (f := fun p => nwS (F p) (St p)) (x := if nI 9999 < St i + nI 1 then nI 9999 else St i + nI 1) (by show nwS (F i) (St i) = _; rw [hf]; rfl), ← prg_upd (f := fun p => nwN (F p) (Nv p)) (x := if Nv i - nI 10 < nI 0 then nI 0 else Nv i - nI 10) (by show nwN (F i) (Nv i) = _; rw [hf]; rfl)] at e
             exact e)
          | (have hf : F i = false := by first | (rw [hF i (by omega), c20]; rfl) | (rw [hF i (by omega), c20]; rw [prg_at] at c28; rw [c28]; rfl)
             rw [setOf_f hf, ← prg_skip (f := fun p => nwS (F p) (St p)) (by show nwS (F i) (St i) = _; rw [hf]; rfl), ← prg_upd (f := fun p => nwN (F p) (Nv p)) (x := if nI 99 < Nv i + nI 1 then nI 99 else Nv i + nI 1) (by show nwN (F i) (Nv i) = _; rw [hf]; rfl)] at e
             exact e)
        · refine r_aload_n dX1_walk_23 rfl ?_
          refine r_iload_n dX1_walk_24 rfl ?_
          refine r_v1r (S_X1_isWarned (by omega)) (Nat.le_of_ble_eq_true rfl) mrX1_isWarned lkX1_103 rfl rfl rfl dX1_walk_25 (Nat.le_of_ble_eq_true rfl) ?_
          refine r_if_neB 85 dX1_walk_28 (by decide) (fun c28 => ?_) (fun c28 => ?_)
          · refine r_aload_n dX1_walk_85 rfl ?_
            refine r_getfield dX1_walk_86 gfX1_29 rfl rfl ?_
            refine r_iload_n dX1_walk_89 rfl ?_
            refine r_aload_n dX1_walk_90 rfl ?_
            refine r_getfield dX1_walk_91 gfX1_29 rfl rfl ?_
            refine r_iload_n dX1_walk_94 rfl ?_
            refine r_ialdN dX1_walk_95 rfl (by first | decide | omega) (Nat.le_of_ble_eq_true rfl) prg_at ?_
            refine r_iconst (v := nI 1) dX1_walk_96 (by decide) ?_
            refine r_iadd dX1_walk_97 ?_
            refine r_bipush (v := nI 99) dX1_walk_98 (by decide) ?_
            refine r_s2r S_J9_min_7cf53 (Nat.le_of_ble_eq_true rfl) mrJ9_min_7cf53 lkX1_106 dX1_walk_100 (Nat.le_of_ble_eq_true rfl) ?_
            refine r_iastN (h' := [_, _, _, _, _]) dX1_walk_103 rfl (by first | decide | omega) (Nat.le_of_ble_eq_true rfl) rfl ?_
            refine r_iinc (lv' := [_, _, _]) dX1_walk_104 (by decide) rfl (inc1 _) rfl ?_
            refine r_goto 7 dX1_walk_107 (by decide) ?_
            have e := ih (i + 1) (by omega)
            first
            | (have hf : F i = true := by rw [hF i (by omega), c20]; rw [prg_at] at c28; rw [c28]; rfl
               rw [setOf_t hf, ← prg_upd (f := fun p => nwS (F p) (St p)) (x := if nI 9999 < St i + nI 1 then nI 9999 else St i + nI 1) (by show nwS (F i) (St i) = _; rw [hf]; rfl), ← prg_upd (f := fun p => nwN (F p) (Nv p)) (x := if Nv i - nI 10 < nI 0 then nI 0 else Nv i - nI 10) (by show nwN (F i) (Nv i) = _; rw [hf]; rfl)] at e
               exact e)
            | (have hf : F i = false := by first | (rw [hF i (by omega), c20]; rfl) | (rw [hF i (by omega), c20]; rw [prg_at] at c28; rw [c28]; rfl)
               rw [setOf_f hf, ← prg_skip (f := fun p => nwS (F p) (St p)) (by show nwS (F i) (St i) = _; rw [hf]; rfl), ← prg_upd (f := fun p => nwN (F p) (Nv p)) (x := if nI 99 < Nv i + nI 1 then nI 99 else Nv i + nI 1) (by show nwN (F i) (Nv i) = _; rw [hf]; rfl)] at e
               exact e)
          · refine r_aload_n dX1_walk_31 rfl ?_
            refine r_dup dX1_walk_32 rfl ?_
            refine r_getfield dX1_walk_33 gfX1_81 rfl rfl ?_
            refine r_iconst (v := nI 1) dX1_walk_36 (by decide) ?_
            refine r_iload_n dX1_walk_37 rfl ?_
            refine r_ishl dX1_walk_38 ?_
            refine r_ior dX1_walk_39 ?_
            refine r_putfield (fs' := [_, _, _, _, _, _, _, _, _, _]) (h' := [_, _, _, _, _]) dX1_walk_40 pfX1_81 rfl (Nat.le_of_ble_eq_true rfl) (fun _ => rfl) rfl rfl rfl rfl ?_
            refine r_aload_n dX1_walk_43 rfl ?_
            refine r_getfield dX1_walk_44 gfX1_26 rfl rfl ?_
            refine r_iload_n dX1_walk_47 rfl ?_
            refine r_aload_n dX1_walk_48 rfl ?_
            refine r_getfield dX1_walk_49 gfX1_26 rfl rfl ?_
            refine r_iload_n dX1_walk_52 rfl ?_
            refine r_ialdN dX1_walk_53 rfl (by first | decide | omega) (Nat.le_of_ble_eq_true rfl) prg_at ?_
            refine r_iconst (v := nI 1) dX1_walk_54 (by decide) ?_
            refine r_iadd dX1_walk_55 ?_
            refine r_sipush (v := nI 9999) dX1_walk_56 (by decide) ?_
            refine r_s2r S_J9_min_7cf53 (Nat.le_of_ble_eq_true rfl) mrJ9_min_7cf53 lkX1_106 dX1_walk_59 (Nat.le_of_ble_eq_true rfl) ?_
            refine r_iastN (h' := [_, _, _, _, _]) dX1_walk_62 rfl (by first | decide | omega) (Nat.le_of_ble_eq_true rfl) rfl ?_
            refine r_aload_n dX1_walk_63 rfl ?_
            refine r_getfield dX1_walk_64 gfX1_29 rfl rfl ?_
            refine r_iload_n dX1_walk_67 rfl ?_
            refine r_aload_n dX1_walk_68 rfl ?_
            refine r_getfield dX1_walk_69 gfX1_29 rfl rfl ?_
            refine r_iload_n dX1_walk_72 rfl ?_
            refine r_ialdN dX1_walk_73 rfl (by first | decide | omega) (Nat.le_of_ble_eq_true rfl) prg_at ?_
            refine r_bipush (v := nI 10) dX1_walk_74 (by decide) ?_
            refine r_isub dX1_walk_76 ?_
            refine r_iconst (v := nI 0) dX1_walk_77 (by decide) ?_
            refine r_s2r S_J9_max_7cf53 (Nat.le_of_ble_eq_true rfl) mrJ9_max_7cf53 lkX1_109 dX1_walk_78 (Nat.le_of_ble_eq_true rfl) ?_
            refine r_iastN (h' := [_, _, _, _, _]) dX1_walk_81 rfl (by first | decide | omega) (Nat.le_of_ble_eq_true rfl) rfl ?_
            refine r_goto 104 dX1_walk_82 (by decide) ?_
            refine r_iinc (lv' := [_, _, _]) dX1_walk_104 (by decide) rfl (inc1 _) rfl ?_
            refine r_goto 7 dX1_walk_107 (by decide) ?_
            have e := ih (i + 1) (by omega)
            first
            | (have hf : F i = true := by rw [hF i (by omega), c20]; rw [prg_at] at c28; rw [c28]; rfl
               rw [setOf_t hf, ← prg_upd (f := fun p => nwS (F p) (St p)) (x := if nI 9999 < St i + nI 1 then nI 9999 else St i + nI 1) (by show nwS (F i) (St i) = _; rw [hf]; rfl), ← prg_upd (f := fun p => nwN (F p) (Nv p)) (x := if Nv i - nI 10 < nI 0 then nI 0 else Nv i - nI 10) (by show nwN (F i) (Nv i) = _; rw [hf]; rfl)] at e
               exact e)
            | (have hf : F i = false := by first | (rw [hF i (by omega), c20]; rfl) | (rw [hF i (by omega), c20]; rw [prg_at] at c28; rw [c28]; rfl)
               rw [setOf_f hf, ← prg_skip (f := fun p => nwS (F p) (St p)) (by show nwS (F i) (St i) = _; rw [hf]; rfl), ← prg_upd (f := fun p => nwN (F p) (Nv p)) (x := if nI 99 < Nv i + nI 1 then nI 99 else Nv i + nI 1) (by show nwN (F i) (Nv i) = _; rw [hf]; rfl)] at e
               exact e)
  refine r_aload_n dX1_walk_0 rfl ?_
  refine r_iconst (v := nI 0) dX1_walk_1 (by decide) ?_
  refine r_putfield (fs' := [_, _, _, _, _, _, _, _, _, _]) (h' := [_, _, _, _, _]) dX1_walk_2 pfX1_81 rfl (Nat.le_of_ble_eq_true rfl) (fun _ => rfl) rfl rfl rfl rfl ?_
  refine r_iconst (v := nI 0) dX1_walk_5 (by decide) ?_
  refine r_istore_n (lv' := [_, _, _]) dX1_walk_6 (by decide) rfl ?_
  have e := L n 0 (by omega)
  rw [prg_0, prg_0] at e
  exact e
theorem S_X1_sayOn {t r l b : Int32} {n : Nat} {K Hd St Nv : Nat → Int32} {fl sn : Int32} (hn : n ≤ 8) (G : Nat → Bool) (hG : ∀ p, p < n → G p = saysF (K p) (Hd p) (Nv p) (isIn fl (nI p)) (isIn sn (nI p))) : Sp 2 mX1_sayOn [.ref 0, .int sn] (hRc t r l b n K Hd St Nv fl) none (hRc t r l b n K (prg n (fun p => bI (decide (1 ≤ p) && G (p - 1))) Hd) St Nv fl) := by
  refine Sp.of [some (.ref 0), some (.int sn), none, none] mrX1_sayOn.1 rfl (Nat.le_of_ble_eq_true rfl) rfl (fun X => ?_)
  have L2 : ∀ (k i : Nat), i + k = n → Run X 2 mX1_sayOn 35 [some (.ref 0), some (.int sn), some (.int (setOf G n)), some (.int (nI i))] [] (hRc t r l b n K (prg i (fun p => bI (decide (1 ≤ p) && G (p - 1))) Hd) St Nv fl) none (hRc t r l b n K (prg n (fun p => bI (decide (1 ≤ p) && G (p - 1))) Hd) St Nv fl) := by
    intro k
    induction k with
    | zero =>
      intro i hi
      obtain rfl : i = n := by omega
      refine r_iload_n dX1_sayOn_35 rfl ?_
      refine r_aload_n dX1_sayOn_36 rfl ?_
      refine r_getfield dX1_sayOn_37 gfX1_38 rfl rfl ?_
      refine r_icmp_ge 70 dX1_sayOn_40 (by decide) (fun c40 => ?_) (fun c40 => ?_)
      · refine r_vret dX1_sayOn_70 rfl ?_ ?_
        · rfl
        · exact HE.rf
      · exact absurd (nI_le (Nat.le_refl _) (by omega)) c40
    | succ k ih =>
      intro i hi
      refine r_iload_n dX1_sayOn_35 rfl ?_
      refine r_aload_n dX1_sayOn_36 rfl ?_
      refine r_getfield dX1_sayOn_37 gfX1_38 rfl rfl ?_
      refine r_icmp_ge 70 dX1_sayOn_40 (by decide) (fun c40 => ?_) (fun c40 => ?_)
      · exact absurd c40 (nI_ge (by omega) (by omega))
      · refine r_aload_n dX1_sayOn_43 rfl ?_
        refine r_getfield dX1_sayOn_44 gfX1_23 rfl rfl ?_
        refine r_iload_n dX1_sayOn_47 rfl ?_
        refine r_iload_n dX1_sayOn_48 rfl ?_
        refine r_iconst (v := nI 1) dX1_sayOn_49 (by decide) ?_
        refine r_ishl dX1_sayOn_50 ?_
        refine r_iload_n dX1_sayOn_51 rfl ?_
        refine r_s2r S_X4_isIn (Nat.le_of_ble_eq_true rfl) mrX4_isIn lkX1_66 dX1_sayOn_52 (Nat.le_of_ble_eq_true rfl) ?_
        refine r_if_eqB 62 dX1_sayOn_55 (by decide) (fun c55 => ?_) (fun c55 => ?_)
        · refine r_iconst (v := nI 0) dX1_sayOn_62 (by decide) ?_
          refine r_iastN (h' := [_, _, _, _, _]) dX1_sayOn_63 rfl (by first | decide | omega) (Nat.le_of_ble_eq_true rfl) rfl ?_
          refine r_iinc (lv' := [_, _, _, _]) dX1_sayOn_64 (by decide) rfl (by first | exact inc1 _ | exact inc1_ _) rfl ?_
          refine r_goto 35 dX1_sayOn_67 (by decide) ?_
          have e := ih (i + 1) (by omega)
          rw [← prg_upd (x := bI (decide (1 ≤ i) && G (i - 1))) rfl] at e
          have q : isIn (setOf G n <<< (nI 1 &&& 31)) (nI i) = (decide (1 ≤ i) && G (i - 1)) := by
            rw [isIn_sh1 _ (by omega)]
            by_cases z : 1 ≤ i
            · rw [isIn_setOf G (by omega) (by omega)]
            · rw [decide_eq_false z]; rfl
          rw [← q, c55] at e
          exact e
        · refine r_iconst (v := nI 1) dX1_sayOn_58 (by decide) ?_
          refine r_goto 63 dX1_sayOn_59 (by decide) ?_
          refine r_iastN (h' := [_, _, _, _, _]) dX1_sayOn_63 rfl (by first | decide | omega) (Nat.le_of_ble_eq_true rfl) rfl ?_
          refine r_iinc (lv' := [_, _, _, _]) dX1_sayOn_64 (by decide) rfl (by first | exact inc1 _ | exact inc1_ _) rfl ?_
          refine r_goto 35 dX1_sayOn_67 (by decide) ?_
          have e := ih (i + 1) (by omega)
          rw [← prg_upd (x := bI (decide (1 ≤ i) && G (i - 1))) rfl] at e
          have q : isIn (setOf G n <<< (nI 1 &&& 31)) (nI i) = (decide (1 ≤ i) && G (i - 1)) := by
            rw [isIn_sh1 _ (by omega)]
            by_cases z : 1 ≤ i
            · rw [isIn_setOf G (by omega) (by omega)]
            · rw [decide_eq_false z]; rfl
          rw [← q, c55] at e
          exact e
  have L1 : ∀ (k i : Nat), i + k = n → Run X 2 mX1_sayOn 4 [some (.ref 0), some (.int sn), some (.int (setOf G i)), some (.int (nI i))] [] (hRc t r l b n K Hd St Nv fl) none (hRc t r l b n K (prg n (fun p => bI (decide (1 ≤ p) && G (p - 1))) Hd) St Nv fl) := by
    intro k
    induction k with
    | zero =>
      intro i hi
      obtain rfl : i = n := by omega
      refine r_iload_n dX1_sayOn_4 rfl ?_
      refine r_aload_n dX1_sayOn_5 rfl ?_
      refine r_getfield dX1_sayOn_6 gfX1_38 rfl rfl ?_
      refine r_icmp_ge 33 dX1_sayOn_9 (by decide) (fun c9 => ?_) (fun c9 => ?_)
      · refine r_iconst (v := nI 0) dX1_sayOn_33 (by decide) ?_
        refine r_istore_n (lv' := [_, _, _, _]) dX1_sayOn_34 (by decide) rfl ?_
        have e := L2 i 0 (by omega)
        rw [prg_0] at e
        exact e
      · exact absurd (nI_le (Nat.le_refl _) (by omega)) c9
    | succ k ih =>
      intro i hi
      refine r_iload_n dX1_sayOn_4 rfl ?_
      refine r_aload_n dX1_sayOn_5 rfl ?_
      refine r_getfield dX1_sayOn_6 gfX1_38 rfl rfl ?_
      refine r_icmp_ge 33 dX1_sayOn_9 (by decide) (fun c9 => ?_) (fun c9 => ?_)
      · exact absurd c9 (nI_ge (by omega) (by omega))
      · refine r_aload_n dX1_sayOn_12 rfl ?_
        refine r_iload_n dX1_sayOn_13 rfl ?_
        refine r_iload_n dX1_sayOn_14 rfl ?_
        refine r_v2r (S_X1_says (by omega)) (Nat.le_of_ble_eq_true rfl) mrX1_says lkX1_112 rfl rfl rfl dX1_sayOn_15 (Nat.le_of_ble_eq_true rfl) ?_
        refine r_if_eqB 27 dX1_sayOn_18 (by decide) (fun c18 => ?_) (fun c18 => ?_)
        · refine r_iinc (lv' := [_, _, _, _]) dX1_sayOn_27 (by decide) rfl (by first | exact inc1 _ | exact inc1_ _) rfl ?_
          refine r_goto 4 dX1_sayOn_30 (by decide) ?_
          have e := ih (i + 1) (by omega)
          rw [← hG i (by omega)] at c18
          first | (rw [setOf_t (f := G) c18] at e; exact e) | (rw [setOf_f (f := G) c18] at e; exact e)
        · refine r_iload_n dX1_sayOn_21 rfl ?_
          refine r_iconst (v := nI 1) dX1_sayOn_22 (by decide) ?_
          refine r_iload_n dX1_sayOn_23 rfl ?_
          refine r_ishl dX1_sayOn_24 ?_
          refine r_ior dX1_sayOn_25 ?_
          refine r_istore_n (lv' := [_, _, _, _]) dX1_sayOn_26 (by decide) rfl ?_
          refine r_iinc (lv' := [_, _, _, _]) dX1_sayOn_27 (by decide) rfl (by first | exact inc1 _ | exact inc1_ _) rfl ?_
          refine r_goto 4 dX1_sayOn_30 (by decide) ?_
          have e := ih (i + 1) (by omega)
          rw [← hG i (by omega)] at c18
          first | (rw [setOf_t (f := G) c18] at e; exact e) | (rw [setOf_f (f := G) c18] at e; exact e)
  refine r_iconst (v := nI 0) dX1_sayOn_0 (by decide) ?_
  refine r_istore_n (lv' := [_, _, _, _]) dX1_sayOn_1 (by decide) rfl ?_
  refine r_iconst (v := nI 0) dX1_sayOn_2 (by decide) ?_
  refine r_istore_n (lv' := [_, _, _, _]) dX1_sayOn_3 (by decide) rfl ?_
  exact L1 n 0 (by omega)
/-! the STEP in plain words -/
def seeP (t l b : Int32) (n : Nat) (K : Nat → Int32) (p : Nat) : Bool := seesF t l (K p) (nI p) (lit l b n K p)
def fellP (t r l b : Int32) (n : Nat) (K Hd Nv : Nat → Int32) (p : Nat) : Bool := (atR t r p && !seeP t l b n K p) && !warnF (K p) (Hd p) (Nv p)
def sayP (t r l b : Int32) (n : Nat) (K Hd Nv : Nat → Int32) (p : Nat) : Bool := saysF (K p) (Hd p) (nwN (fellP t r l b n K Hd Nv p) (Nv p)) (fellP t r l b n K Hd Nv p) (atR t r p && seeP t l b n K p)
def stHd (t r l b : Int32) (n : Nat) (K Hd Nv : Nat → Int32) : Nat → Int32 := prg n (fun p => bI (decide (1 ≤ p) && sayP t r l b n K Hd Nv (p - 1))) Hd
def stSt (t r l b : Int32) (n : Nat) (K Hd St Nv : Nat → Int32) : Nat → Int32 := prg n (fun p => nwS (fellP t r l b n K Hd Nv p) (St p)) St
def stNv (t r l b : Int32) (n : Nat) (K Hd Nv : Nat → Int32) : Nat → Int32 := prg n (fun p => nwN (fellP t r l b n K Hd Nv p) (Nv p)) Nv
def stFl (t r l b : Int32) (n : Nat) (K Hd Nv : Nat → Int32) : Int32 := setOf (fellP t r l b n K Hd Nv) n
theorem lit_S {l b : Int32} {n p : Nat} {K : Nat → Int32} (hn : n ≤ 8) (hp : p < n) : isIn (litS l b n K) (nI p) = lit l b n K p := by
  unfold litS lit
  cases hasB n l with
  | true => rw [Bool.true_and]; exact isIn_setOf _ (by omega) hp
  | false =>
    rw [Bool.false_and]
    show isIn (setOf (fun _ => false) 0) (nI p) = false
    rw [isIn_bt _ (by omega), bt_setOf _ 0 (by omega) p (by omega)]
    rfl
theorem seeG_P {t l b : Int32} {n p : Nat} {K : Nat → Int32} (hn : n ≤ 8) (hp : p < n) : seeG t l b n K p = seeP t l b n K p := by rw [seeG, seeP, lit_S hn hp]
theorem S_X1_goStep {t r l b : Int32} {n : Nat} {K Hd St Nv : Nat → Int32} {fl : Int32} (hn : n ≤ 8) : Sp 3 mX1_goStep [.ref 0] (hRc t r l b n K Hd St Nv fl) none (hRc (t + nI 1) r l b n K (stHd (t + nI 1) r l b n K Hd Nv) (stSt (t + nI 1) r l b n K Hd St Nv) (stNv (t + nI 1) r l b n K Hd Nv) (stFl (t + nI 1) r l b n K Hd Nv)) := by
  refine Sp.of [some (.ref 0), none, none] mrX1_goStep.1 rfl (Nat.le_of_ble_eq_true rfl) rfl (fun X => ?_)
  have hF : ∀ p, p < n → fellP (t + nI 1) r l b n K Hd Nv p = (isIn (setOf (atR (t + nI 1) r) n &&& (setOf (seeG (t + nI 1) l b n K) n ^^^ (-1))) (nI p) && !warnF (K p) (Hd p) (Nv p)) := by
    intro p hp
    rw [isIn_and _ _ (by omega), isIn_not _ (by omega), isIn_setOf _ (by omega) hp, isIn_setOf _ (by omega) hp, seeG_P hn hp]
    rfl
  have hG : ∀ p, p < n → sayP (t + nI 1) r l b n K Hd Nv p = saysF (K p) (Hd p) (prg n (fun p => nwN (fellP (t + nI 1) r l b n K Hd Nv p) (Nv p)) Nv p) (isIn (setOf (fellP (t + nI 1) r l b n K Hd Nv) n) (nI p)) (isIn (setOf (atR (t + nI 1) r) n &&& setOf (seeG (t + nI 1) l b n K) n) (nI p)) := by
    intro p hp
    rw [isIn_and _ _ (by omega), isIn_setOf _ (by omega) hp, isIn_setOf _ (by omega) hp, isIn_setOf _ (by omega) hp, seeG_P hn hp, prg_lo hp]
    rfl
  refine r_aload_n dX1_goStep_0 rfl ?_
  refine r_dup dX1_goStep_1 rfl ?_
  refine r_getfield dX1_goStep_2 gfX1_32 rfl rfl ?_
  refine r_iconst (v := nI 1) dX1_goStep_5 (by decide) ?_
  refine r_iadd dX1_goStep_6 ?_
  refine r_putfield (fs' := [_, _, _, _, _, _, _, _, _, _]) (h' := [_, _, _, _, _]) dX1_goStep_7 pfX1_32 rfl (Nat.le_of_ble_eq_true rfl) (fun _ => rfl) rfl rfl rfl rfl ?_
  refine r_aload_n dX1_goStep_10 rfl ?_
  refine r_v0r (S_X1_atRootSet hn) (Nat.le_of_ble_eq_true rfl) mrX1_atRootSet lkX1_90 rfl rfl rfl dX1_goStep_11 (Nat.le_of_ble_eq_true rfl) ?_
  refine r_istore_n (lv' := [_, _, _]) dX1_goStep_14 (by decide) rfl ?_
  refine r_aload_n dX1_goStep_15 rfl ?_
  refine r_v0r (S_X1_seeingSet hn) (Nat.le_of_ble_eq_true rfl) mrX1_seeingSet lkX1_93 rfl rfl rfl dX1_goStep_16 (Nat.le_of_ble_eq_true rfl) ?_
  refine r_istore_n (lv' := [_, _, _]) dX1_goStep_19 (by decide) rfl ?_
  refine r_aload_n dX1_goStep_20 rfl ?_
  refine r_iload_n dX1_goStep_21 rfl ?_
  refine r_iload_n dX1_goStep_22 rfl ?_
  refine r_iconst (v := (-1)) dX1_goStep_23 (by decide) ?_
  refine r_ixor dX1_goStep_24 ?_
  refine r_iand dX1_goStep_25 ?_
  refine r_v1n (S_X1_walk hn (fellP (t + nI 1) r l b n K Hd Nv) hF) (Nat.le_of_ble_eq_true rfl) mrX1_walk lkX1_96 rfl rfl rfl dX1_goStep_26 (Nat.le_of_ble_eq_true rfl) ?_
  refine r_aload_n dX1_goStep_29 rfl ?_
  refine r_iload_n dX1_goStep_30 rfl ?_
  refine r_iload_n dX1_goStep_31 rfl ?_
  refine r_iand dX1_goStep_32 ?_
  refine r_v1n (S_X1_sayOn hn (sayP (t + nI 1) r l b n K Hd Nv) hG) (Nat.le_of_ble_eq_true rfl) mrX1_sayOn lkX1_100 rfl rfl rfl dX1_goStep_33 (Nat.le_of_ble_eq_true rfl) ?_
  refine r_vret dX1_goStep_36 rfl ?_ ?_
  · rfl
  · exact HE.rf
end
section
/-! taking over a Row, and many STEPS -/
def hR (R : RS) (fl : Int32) : AH := hRc R.1.1 R.1.2.1 R.1.2.2.1 R.1.2.2.2.1 R.1.2.2.2.2 R.2.1 R.2.2.1 R.2.2.2.1 R.2.2.2.2 fl
/-- two Rows side by side -/
abbrev hR2c (t r l b : Int32) (n : Nat) (K Hd St Nv : Nat → Int32) (fl : Int32) (t' r' l' b' : Int32) (n' : Nat) (K' Hd' St' Nv' : Nat → Int32) (fl' : Int32) : AH := [.inr (1, [.int t, .int r, .int l, .int b, .int (nI n), .ref 1, .ref 2, .ref 3, .ref 4, .int fl]), .inl (0, 8, .inl K), .inl (0, 8, .inl Hd), .inl (0, 8, .inl St), .inl (0, 8, .inl Nv), .inr (1, [.int t', .int r', .int l', .int b', .int (nI n'), .ref 6, .ref 7, .ref 8, .ref 9, .int fl']), .inl (0, 8, .inl K'), .inl (0, 8, .inl Hd'), .inl (0, 8, .inl St'), .inl (0, 8, .inl Nv')]
def hR2 (R : RS) (fl : Int32) (R' : RS) (fl' : Int32) : AH := hR2c R.1.1 R.1.2.1 R.1.2.2.1 R.1.2.2.2.1 R.1.2.2.2.2 R.2.1 R.2.2.1 R.2.2.2.1 R.2.2.2.2 fl R'.1.1 R'.1.2.1 R'.1.2.2.1 R'.1.2.2.2.1 R'.1.2.2.2.2 R'.2.1 R'.2.2.1 R'.2.2.2.1 R'.2.2.2.2 fl'
theorem S_X1_takeFrom {R R' : RS} {fl fl' : Int32} : Sp 0 mX1_takeFrom [.ref 0, .ref 5] (hR2 R fl R' fl') none (hR2 R' fl R' fl') := by
  obtain ⟨⟨t, r, l, b, n⟩, K, Hd, St, Nv⟩ := R
  obtain ⟨⟨t', r', l', b', n'⟩, K', Hd', St', Nv'⟩ := R'
  refine Sp.of [some (.ref 0), some (.ref 5), none] mrX1_takeFrom.1 rfl (Nat.le_of_ble_eq_true rfl) rfl (fun X => ?_)
  have L : ∀ (k i : Nat), i + k = 8 → Run X 0 mX1_takeFrom 42 [some (.ref 0), some (.ref 5), some (.int (nI i))] [] (hR2c t' r' l' b' n' (prg i K' K) (prg i Hd' Hd) (prg i St' St) (prg i Nv' Nv) fl t' r' l' b' n' K' Hd' St' Nv' fl') none (hR2c t' r' l' b' n' K' Hd' St' Nv' fl t' r' l' b' n' K' Hd' St' Nv' fl') := by
    intro k
    induction k with
    | zero =>
      intro i hi
      obtain rfl : i = 8 := by omega
      refine r_iload_n dX1_takeFrom_42 rfl ?_
      refine r_bipush (v := nI 8) dX1_takeFrom_43 (by decide) ?_
      refine r_icmp_ge 102 dX1_takeFrom_45 (by decide) (fun c45 => ?_) (fun c45 => ?_)
      · refine r_vret dX1_takeFrom_102 rfl ?_ ?_
        · rfl
        · exact ⟨CE.rf, CE.ints (fun i hi => prg_lo hi), CE.ints (fun i hi => prg_lo hi), CE.ints (fun i hi => prg_lo hi), CE.ints (fun i hi => prg_lo hi), CE.rf, CE.rf, CE.rf, CE.rf, CE.rf, trivial⟩
      · exact absurd (nI_le (Nat.le_refl _) (by omega)) c45
    | succ k ih =>
      intro i hi
      refine r_iload_n dX1_takeFrom_42 rfl ?_
      refine r_bipush (v := nI 8) dX1_takeFrom_43 (by decide) ?_
      refine r_icmp_ge 102 dX1_takeFrom_45 (by decide) (fun c45 => ?_) (fun c45 => ?_)
      · exact absurd c45 (nI_ge (by omega) (by omega))
      · refine r_aload_n dX1_takeFrom_48 rfl ?_
        refine r_getfield dX1_takeFrom_49 gfX1_19 rfl rfl ?_
        refine r_iload_n dX1_takeFrom_52 rfl ?_
        refine r_aload_n dX1_takeFrom_53 rfl ?_
        refine r_getfield dX1_takeFrom_54 gfX1_19 rfl rfl ?_
        refine r_iload_n dX1_takeFrom_57 rfl ?_
        refine r_ialdN dX1_takeFrom_58 rfl (by first | decide | omega) (Nat.le_of_ble_eq_true rfl) rfl ?_
        refine r_iastN (h' := [_, _, _, _, _, _, _, _, _, _]) dX1_takeFrom_59 rfl (by first | decide | omega) (Nat.le_of_ble_eq_true rfl) rfl ?_
        refine r_aload_n dX1_takeFrom_60 rfl ?_
        refine r_getfield dX1_takeFrom_61 gfX1_23 rfl rfl ?_
        refine r_iload_n dX1_takeFrom_64 rfl ?_
        refine r_aload_n dX1_takeFrom_65 rfl ?_
        refine r_getfield dX1_takeFrom_66 gfX1_23 rfl rfl ?_
        refine r_iload_n dX1_takeFrom_69 rfl ?_
        refine r_ialdN dX1_takeFrom_70 rfl (by first | decide | omega) (Nat.le_of_ble_eq_true rfl) rfl ?_
        refine r_iastN (h' := [_, _, _, _, _, _, _, _, _, _]) dX1_takeFrom_71 rfl (by first | decide | omega) (Nat.le_of_ble_eq_true rfl) rfl ?_
        refine r_aload_n dX1_takeFrom_72 rfl ?_
        refine r_getfield dX1_takeFrom_73 gfX1_26 rfl rfl ?_
        refine r_iload_n dX1_takeFrom_76 rfl ?_
        refine r_aload_n dX1_takeFrom_77 rfl ?_
        refine r_getfield dX1_takeFrom_78 gfX1_26 rfl rfl ?_
        refine r_iload_n dX1_takeFrom_81 rfl ?_
        refine r_ialdN dX1_takeFrom_82 rfl (by first | decide | omega) (Nat.le_of_ble_eq_true rfl) rfl ?_
        refine r_iastN (h' := [_, _, _, _, _, _, _, _, _, _]) dX1_takeFrom_83 rfl (by first | decide | omega) (Nat.le_of_ble_eq_true rfl) rfl ?_
        refine r_aload_n dX1_takeFrom_84 rfl ?_
        refine r_getfield dX1_takeFrom_85 gfX1_29 rfl rfl ?_
        refine r_iload_n dX1_takeFrom_88 rfl ?_
        refine r_aload_n dX1_takeFrom_89 rfl ?_
        refine r_getfield dX1_takeFrom_90 gfX1_29 rfl rfl ?_
        refine r_iload_n dX1_takeFrom_93 rfl ?_
        refine r_ialdN dX1_takeFrom_94 rfl (by first | decide | omega) (Nat.le_of_ble_eq_true rfl) rfl ?_
        refine r_iastN (h' := [_, _, _, _, _, _, _, _, _, _]) dX1_takeFrom_95 rfl (by first | decide | omega) (Nat.le_of_ble_eq_true rfl) rfl ?_
        refine r_iinc (lv' := [_, _, _]) dX1_takeFrom_96 (by decide) rfl (by first | exact inc1 _ | exact inc1_ _) rfl ?_
        refine r_goto 42 dX1_takeFrom_99 (by decide) ?_
        rw [prg_upd rfl, prg_upd rfl, prg_upd rfl, prg_upd rfl]
        exact ih (i + 1) (by omega)
  show Run X 0 mX1_takeFrom 0 _ _ (hR2c t r l b n K Hd St Nv fl t' r' l' b' n' K' Hd' St' Nv' fl') _ (hR2c t' r' l' b' n' K' Hd' St' Nv' fl t' r' l' b' n' K' Hd' St' Nv' fl')
  refine r_aload_n dX1_takeFrom_0 rfl ?_
  refine r_aload_n dX1_takeFrom_1 rfl ?_
  refine r_getfield dX1_takeFrom_2 gfX1_32 rfl rfl ?_
  refine r_putfield (fs' := [_, _, _, _, _, _, _, _, _, _]) (h' := [_, _, _, _, _, _, _, _, _, _]) dX1_takeFrom_5 pfX1_32 rfl (Nat.le_of_ble_eq_true rfl) (fun _ => rfl) rfl rfl rfl rfl ?_
  refine r_aload_n dX1_takeFrom_8 rfl ?_
  refine r_aload_n dX1_takeFrom_9 rfl ?_
  refine r_getfield dX1_takeFrom_10 gfX1_10 rfl rfl ?_
  refine r_putfield (fs' := [_, _, _, _, _, _, _, _, _, _]) (h' := [_, _, _, _, _, _, _, _, _, _]) dX1_takeFrom_13 pfX1_10 rfl (Nat.le_of_ble_eq_true rfl) (fun _ => rfl) rfl rfl rfl rfl ?_
  refine r_aload_n dX1_takeFrom_16 rfl ?_
  refine r_aload_n dX1_takeFrom_17 rfl ?_
  refine r_getfield dX1_takeFrom_18 gfX1_35 rfl rfl ?_
  refine r_putfield (fs' := [_, _, _, _, _, _, _, _, _, _]) (h' := [_, _, _, _, _, _, _, _, _, _]) dX1_takeFrom_21 pfX1_35 rfl (Nat.le_of_ble_eq_true rfl) (fun _ => rfl) rfl rfl rfl rfl ?_
  refine r_aload_n dX1_takeFrom_24 rfl ?_
  refine r_aload_n dX1_takeFrom_25 rfl ?_
  refine r_getfield dX1_takeFrom_26 gfX1_16 rfl rfl ?_
  refine r_putfield (fs' := [_, _, _, _, _, _, _, _, _, _]) (h' := [_, _, _, _, _, _, _, _, _, _]) dX1_takeFrom_29 pfX1_16 rfl (Nat.le_of_ble_eq_true rfl) (fun _ => rfl) rfl rfl rfl rfl ?_
  refine r_aload_n dX1_takeFrom_32 rfl ?_
  refine r_aload_n dX1_takeFrom_33 rfl ?_
  refine r_getfield dX1_takeFrom_34 gfX1_38 rfl rfl ?_
  refine r_putfield (fs' := [_, _, _, _, _, _, _, _, _, _]) (h' := [_, _, _, _, _, _, _, _, _, _]) dX1_takeFrom_37 pfX1_38 rfl (Nat.le_of_ble_eq_true rfl) (fun _ => rfl) rfl rfl rfl rfl ?_
  refine r_iconst (v := nI 0) dX1_takeFrom_40 (by decide) ?_
  refine r_istore_n (lv' := [_, _, _]) dX1_takeFrom_41 (by decide) rfl ?_
  have e := L 8 0 (by omega)
  rw [prg_0, prg_0, prg_0, prg_0] at e
  exact e
/-- one STEP of a Row -/
def stp (R : RS) : RS := ((R.1.1 + nI 1, R.1.2), (R.2.1, stHd (R.1.1 + nI 1) R.1.2.1 R.1.2.2.1 R.1.2.2.2.1 R.1.2.2.2.2 R.2.1 R.2.2.1 R.2.2.2.2, stSt (R.1.1 + nI 1) R.1.2.1 R.1.2.2.1 R.1.2.2.2.1 R.1.2.2.2.2 R.2.1 R.2.2.1 R.2.2.2.1 R.2.2.2.2, stNv (R.1.1 + nI 1) R.1.2.1 R.1.2.2.1 R.1.2.2.2.1 R.1.2.2.2.2 R.2.1 R.2.2.1 R.2.2.2.2))
/-- who stumbled in it -/
def stpF (R : RS) : Int32 := stFl (R.1.1 + nI 1) R.1.2.1 R.1.2.2.1 R.1.2.2.2.1 R.1.2.2.2.2 R.2.1 R.2.2.1 R.2.2.2.2
def stpN : Nat → RS → RS
  | 0, R => R
  | k + 1, R => stpN k (stp R)
def stpFN : Nat → RS → Int32 → Int32
  | 0, _, fl => fl
  | k + 1, R, _ => stpFN k (stp R) (stpF R)
abbrev cnt (R : RS) : Nat := R.1.2.2.2.2
theorem stp_cnt (R : RS) : cnt (stp R) = cnt R := rfl
theorem S_goStep {R : RS} {fl : Int32} (hn : cnt R ≤ 8) : Sp 3 mX1_goStep [.ref 0] (hR R fl) none (hR (stp R) (stpF R)) := S_X1_goStep hn
theorem S_X1_goSteps {R : RS} {fl : Int32} {m : Nat} (hn : cnt R ≤ 8) (hm : m < 2 ^ 31) : Sp 4 mX1_goSteps [.ref 0, .int (nI m)] (hR R fl) none (hR (stpN m R) (stpFN m R fl)) := by
  refine Sp.of [some (.ref 0), some (.int (nI m)), none] mrX1_goSteps.1 rfl (Nat.le_of_ble_eq_true rfl) rfl (fun X => ?_)
  have L : ∀ (k i : Nat) (R : RS) (fl : Int32), cnt R ≤ 8 → i + k = m → Run X 4 mX1_goSteps 2 [some (.ref 0), some (.int (nI m)), some (.int (nI i))] [] (hR R fl) none (hR (stpN k R) (stpFN k R fl)) := by
    intro k
    induction k with
    | zero =>
      intro i R fl hn hi
      obtain rfl : i = m := by omega
      refine r_iload_n dX1_goSteps_2 rfl ?_
      refine r_iload_n dX1_goSteps_3 rfl ?_
      refine r_icmp_ge 17 dX1_goSteps_4 (by decide) (fun c4 => ?_) (fun c4 => ?_)
      · refine r_vret dX1_goSteps_17 rfl ?_ ?_
        · rfl
        · exact HE.rf
      · exact absurd (nI_le (Nat.le_refl _) (by omega)) c4
    | succ k ih =>
      intro i R fl hn hi
      refine r_iload_n dX1_goSteps_2 rfl ?_
      refine r_iload_n dX1_goSteps_3 rfl ?_
      refine r_icmp_ge 17 dX1_goSteps_4 (by decide) (fun c4 => ?_) (fun c4 => ?_)
      · exact absurd c4 (nI_ge (by omega) (by omega))
      · refine r_aload_n dX1_goSteps_7 rfl ?_
        refine r_v0n (S_goStep hn) (Nat.le_of_ble_eq_true rfl) mrX1_goStep lkX1_87 rfl rfl rfl dX1_goSteps_8 (Nat.le_of_ble_eq_true rfl) ?_
        refine r_iinc (lv' := [_, _, _]) dX1_goSteps_11 (by decide) rfl (by first | exact inc1 _ | exact inc1_ _) rfl ?_
        refine r_goto 2 dX1_goSteps_14 (by decide) ?_
        exact ih (i + 1) (stp R) (stpF R) hn (by omega)
  refine r_iconst (v := nI 0) dX1_goSteps_0 (by decide) ?_
  refine r_istore_n (lv' := [_, _, _]) dX1_goSteps_1 (by decide) rfl ?_
  exact L m 0 R fl hn (by omega)
end
