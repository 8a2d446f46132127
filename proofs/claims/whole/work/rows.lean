section
-- ===== PART A: goes FIRST, ahead of the names: the tables' words, and 'selects' of the private methods out of them =====
/-- a private method of a class that the tables say can be made, by its rows of tables_1 -/
def lw_okq (q : MethodName × Nat) : Prop := (q.1.cls ≠ "java/lang/invoke/MethodHandle" ∧ q.1.cls ≠ "java/lang/invoke/VarHandle") ∧ Cond.instantiable q.1.cls q.2 ∈ tables_1 ∧ Cond.privateMethod q.1 ∈ tables_1 ∧ Cond.instanceMethod q.1 ∈ tables_1
theorem lw_p0 : lw_okq (⟨"VictimHeap", "take", "(I)I"⟩, 9) := ⟨⟨by decide +kernel, by decide +kernel⟩, List.mem_of_getElem? (i := 7) (by decide +kernel), List.mem_of_getElem? (i := 60) (by decide +kernel), List.mem_of_getElem? (i := 61) (by decide +kernel)⟩
theorem lw_p1 : lw_okq (⟨"VictimHeap", "takeSmall", "(I)I"⟩, 9) := ⟨⟨by decide +kernel, by decide +kernel⟩, List.mem_of_getElem? (i := 7) (by decide +kernel), List.mem_of_getElem? (i := 64) (by decide +kernel), List.mem_of_getElem? (i := 65) (by decide +kernel)⟩
theorem lw_p2 : lw_okq (⟨"VictimHeap", "bestStored", "(I)I"⟩, 9) := ⟨⟨by decide +kernel, by decide +kernel⟩, List.mem_of_getElem? (i := 7) (by decide +kernel), List.mem_of_getElem? (i := 68) (by decide +kernel), List.mem_of_getElem? (i := 69) (by decide +kernel)⟩
theorem lw_p3 : lw_okq (⟨"VictimHeap", "isStored", "(I)Z"⟩, 9) := ⟨⟨by decide +kernel, by decide +kernel⟩, List.mem_of_getElem? (i := 7) (by decide +kernel), List.mem_of_getElem? (i := 72) (by decide +kernel), List.mem_of_getElem? (i := 73) (by decide +kernel)⟩
theorem lw_p4 : lw_okq (⟨"VictimHeap", "isBetter", "(II)Z"⟩, 9) := ⟨⟨by decide +kernel, by decide +kernel⟩, List.mem_of_getElem? (i := 7) (by decide +kernel), List.mem_of_getElem? (i := 76) (by decide +kernel), List.mem_of_getElem? (i := 77) (by decide +kernel)⟩
theorem lw_p5 : lw_okq (⟨"VictimHeap", "cut", "(III)I"⟩, 9) := ⟨⟨by decide +kernel, by decide +kernel⟩, List.mem_of_getElem? (i := 7) (by decide +kernel), List.mem_of_getElem? (i := 80) (by decide +kernel), List.mem_of_getElem? (i := 81) (by decide +kernel)⟩
theorem lw_p6 : lw_okq (⟨"VictimHeap", "lift", "(I)I"⟩, 9) := ⟨⟨by decide +kernel, by decide +kernel⟩, List.mem_of_getElem? (i := 7) (by decide +kernel), List.mem_of_getElem? (i := 84) (by decide +kernel), List.mem_of_getElem? (i := 85) (by decide +kernel)⟩
theorem lw_p7 : lw_okq (⟨"VictimHeap", "lay", "(III)V"⟩, 9) := ⟨⟨by decide +kernel, by decide +kernel⟩, List.mem_of_getElem? (i := 7) (by decide +kernel), List.mem_of_getElem? (i := 88) (by decide +kernel), List.mem_of_getElem? (i := 89) (by decide +kernel)⟩
theorem lw_p8 : lw_okq (⟨"VictimHeap", "sizeAt", "(I)I"⟩, 9) := ⟨⟨by decide +kernel, by decide +kernel⟩, List.mem_of_getElem? (i := 7) (by decide +kernel), List.mem_of_getElem? (i := 92) (by decide +kernel), List.mem_of_getElem? (i := 93) (by decide +kernel)⟩
theorem lw_p9 : lw_okq (⟨"VictimHeap", "cutForVictim", "(II)I"⟩, 9) := ⟨⟨by decide +kernel, by decide +kernel⟩, List.mem_of_getElem? (i := 7) (by decide +kernel), List.mem_of_getElem? (i := 96) (by decide +kernel), List.mem_of_getElem? (i := 97) (by decide +kernel)⟩
theorem lw_p10 : lw_okq (⟨"VictimHeap", "takeLarge", "(I)I"⟩, 9) := ⟨⟨by decide +kernel, by decide +kernel⟩, List.mem_of_getElem? (i := 7) (by decide +kernel), List.mem_of_getElem? (i := 100) (by decide +kernel), List.mem_of_getElem? (i := 101) (by decide +kernel)⟩
theorem lw_p11 : lw_okq (⟨"VictimHeap", "takeFromTop", "(I)I"⟩, 9) := ⟨⟨by decide +kernel, by decide +kernel⟩, List.mem_of_getElem? (i := 7) (by decide +kernel), List.mem_of_getElem? (i := 104) (by decide +kernel), List.mem_of_getElem? (i := 105) (by decide +kernel)⟩
theorem lw_p12 : lw_okq (⟨"VictimHeap", "grow", "(I)Z"⟩, 9) := ⟨⟨by decide +kernel, by decide +kernel⟩, List.mem_of_getElem? (i := 7) (by decide +kernel), List.mem_of_getElem? (i := 108) (by decide +kernel), List.mem_of_getElem? (i := 109) (by decide +kernel)⟩
theorem lw_p13 : lw_okq (⟨"VictimHeap", "isPointer", "(I)Z"⟩, 9) := ⟨⟨by decide +kernel, by decide +kernel⟩, List.mem_of_getElem? (i := 7) (by decide +kernel), List.mem_of_getElem? (i := 126) (by decide +kernel), List.mem_of_getElem? (i := 127) (by decide +kernel)⟩
theorem lw_p14 : lw_okq (⟨"VictimHeap", "isChunk", "(I)Z"⟩, 9) := ⟨⟨by decide +kernel, by decide +kernel⟩, List.mem_of_getElem? (i := 7) (by decide +kernel), List.mem_of_getElem? (i := 130) (by decide +kernel), List.mem_of_getElem? (i := 131) (by decide +kernel)⟩
theorem lw_p15 : lw_okq (⟨"VictimHeap", "release", "(I)V"⟩, 9) := ⟨⟨by decide +kernel, by decide +kernel⟩, List.mem_of_getElem? (i := 7) (by decide +kernel), List.mem_of_getElem? (i := 142) (by decide +kernel), List.mem_of_getElem? (i := 143) (by decide +kernel)⟩
def lw_privs_1 : List (MethodName × Nat) := [(⟨"VictimHeap", "take", "(I)I"⟩, 9), (⟨"VictimHeap", "takeSmall", "(I)I"⟩, 9), (⟨"VictimHeap", "bestStored", "(I)I"⟩, 9), (⟨"VictimHeap", "isStored", "(I)Z"⟩, 9), (⟨"VictimHeap", "isBetter", "(II)Z"⟩, 9), (⟨"VictimHeap", "cut", "(III)I"⟩, 9), (⟨"VictimHeap", "lift", "(I)I"⟩, 9), (⟨"VictimHeap", "lay", "(III)V"⟩, 9), (⟨"VictimHeap", "sizeAt", "(I)I"⟩, 9), (⟨"VictimHeap", "cutForVictim", "(II)I"⟩, 9), (⟨"VictimHeap", "takeLarge", "(I)I"⟩, 9), (⟨"VictimHeap", "takeFromTop", "(I)I"⟩, 9), (⟨"VictimHeap", "grow", "(I)Z"⟩, 9), (⟨"VictimHeap", "isPointer", "(I)Z"⟩, 9), (⟨"VictimHeap", "isChunk", "(I)Z"⟩, 9), (⟨"VictimHeap", "release", "(I)V"⟩, 9)]
theorem lw_r1 : ∀ q ∈ lw_privs_1, lw_okq q := List.forall_mem_cons.mpr ⟨lw_p0, List.forall_mem_cons.mpr ⟨lw_p1, List.forall_mem_cons.mpr ⟨lw_p2, List.forall_mem_cons.mpr ⟨lw_p3, List.forall_mem_cons.mpr ⟨lw_p4, List.forall_mem_cons.mpr ⟨lw_p5, List.forall_mem_cons.mpr ⟨lw_p6, List.forall_mem_cons.mpr ⟨lw_p7, List.forall_mem_cons.mpr ⟨lw_p8, List.forall_mem_cons.mpr ⟨lw_p9, List.forall_mem_cons.mpr ⟨lw_p10, List.forall_mem_cons.mpr ⟨lw_p11, List.forall_mem_cons.mpr ⟨lw_p12, List.forall_mem_cons.mpr ⟨lw_p13, List.forall_mem_cons.mpr ⟨lw_p14, List.forall_mem_cons.mpr ⟨lw_p15, fun _ h => absurd h List.not_mem_nil⟩⟩⟩⟩⟩⟩⟩⟩⟩⟩⟩⟩⟩⟩⟩⟩
theorem lw_p16 : lw_okq (⟨"VictimHeap", "chunkBefore", "(I)I"⟩, 9) := ⟨⟨by decide +kernel, by decide +kernel⟩, List.mem_of_getElem? (i := 7) (by decide +kernel), List.mem_of_getElem? (i := 146) (by decide +kernel), List.mem_of_getElem? (i := 147) (by decide +kernel)⟩
theorem lw_p17 : lw_okq (⟨"VictimHeap", "isFree", "(I)Z"⟩, 9) := ⟨⟨by decide +kernel, by decide +kernel⟩, List.mem_of_getElem? (i := 7) (by decide +kernel), List.mem_of_getElem? (i := 150) (by decide +kernel), List.mem_of_getElem? (i := 151) (by decide +kernel)⟩
theorem lw_p18 : lw_okq (⟨"VictimHeap", "shorten", "(II)V"⟩, 9) := ⟨⟨by decide +kernel, by decide +kernel⟩, List.mem_of_getElem? (i := 7) (by decide +kernel), List.mem_of_getElem? (i := 158) (by decide +kernel), List.mem_of_getElem? (i := 159) (by decide +kernel)⟩
theorem lw_p19 : lw_okq (⟨"VictimHeap", "lengthen", "(II)Z"⟩, 9) := ⟨⟨by decide +kernel, by decide +kernel⟩, List.mem_of_getElem? (i := 7) (by decide +kernel), List.mem_of_getElem? (i := 162) (by decide +kernel), List.mem_of_getElem? (i := 163) (by decide +kernel)⟩
theorem lw_p20 : lw_okq (⟨"VictimHeap", "move", "(II)I"⟩, 9) := ⟨⟨by decide +kernel, by decide +kernel⟩, List.mem_of_getElem? (i := 7) (by decide +kernel), List.mem_of_getElem? (i := 166) (by decide +kernel), List.mem_of_getElem? (i := 167) (by decide +kernel)⟩
theorem lw_p21 : lw_okq (⟨"VictimHeap", "shrinkTop", "(I)V"⟩, 9) := ⟨⟨by decide +kernel, by decide +kernel⟩, List.mem_of_getElem? (i := 7) (by decide +kernel), List.mem_of_getElem? (i := 187) (by decide +kernel), List.mem_of_getElem? (i := 188) (by decide +kernel)⟩
theorem lw_p22 : lw_okq (⟨"VictimHeap", "hasData", "(II)Z"⟩, 9) := ⟨⟨by decide +kernel, by decide +kernel⟩, List.mem_of_getElem? (i := 7) (by decide +kernel), List.mem_of_getElem? (i := 196) (by decide +kernel), List.mem_of_getElem? (i := 197) (by decide +kernel)⟩
theorem lw_p23 : lw_okq (⟨"VictimHeap", "isCountedBy", "(II)Z"⟩, 9) := ⟨⟨by decide +kernel, by decide +kernel⟩, List.mem_of_getElem? (i := 7) (by decide +kernel), List.mem_of_getElem? (i := 216) (by decide +kernel), List.mem_of_getElem? (i := 217) (by decide +kernel)⟩
theorem lw_p24 : lw_okq (⟨"VictimHeapModel", "take", "(I)I"⟩, 10) := ⟨⟨by decide +kernel, by decide +kernel⟩, List.mem_of_getElem? (i := 231) (by decide +kernel), List.mem_of_getElem? (i := 273) (by decide +kernel), List.mem_of_getElem? (i := 274) (by decide +kernel)⟩
theorem lw_p25 : lw_okq (⟨"VictimHeapModel", "takeSmall", "(I)I"⟩, 10) := ⟨⟨by decide +kernel, by decide +kernel⟩, List.mem_of_getElem? (i := 231) (by decide +kernel), List.mem_of_getElem? (i := 277) (by decide +kernel), List.mem_of_getElem? (i := 278) (by decide +kernel)⟩
theorem lw_p26 : lw_okq (⟨"VictimHeapModel", "best", "(II)I"⟩, 10) := ⟨⟨by decide +kernel, by decide +kernel⟩, List.mem_of_getElem? (i := 231) (by decide +kernel), List.mem_of_getElem? (i := 281) (by decide +kernel), List.mem_of_getElem? (i := 282) (by decide +kernel)⟩
theorem lw_p27 : lw_okq (⟨"VictimHeapModel", "stateOf", "(I)I"⟩, 10) := ⟨⟨by decide +kernel, by decide +kernel⟩, List.mem_of_getElem? (i := 231) (by decide +kernel), List.mem_of_getElem? (i := 285) (by decide +kernel), List.mem_of_getElem? (i := 286) (by decide +kernel)⟩
theorem lw_p28 : lw_okq (⟨"VictimHeapModel", "fromVictim", "(I)I"⟩, 10) := ⟨⟨by decide +kernel, by decide +kernel⟩, List.mem_of_getElem? (i := 231) (by decide +kernel), List.mem_of_getElem? (i := 289) (by decide +kernel), List.mem_of_getElem? (i := 290) (by decide +kernel)⟩
theorem lw_p29 : lw_okq (⟨"VictimHeapModel", "at", "(I)I"⟩, 10) := ⟨⟨by decide +kernel, by decide +kernel⟩, List.mem_of_getElem? (i := 231) (by decide +kernel), List.mem_of_getElem? (i := 293) (by decide +kernel), List.mem_of_getElem? (i := 294) (by decide +kernel)⟩
theorem lw_p30 : lw_okq (⟨"VictimHeapModel", "cut", "(II)Z"⟩, 10) := ⟨⟨by decide +kernel, by decide +kernel⟩, List.mem_of_getElem? (i := 231) (by decide +kernel), List.mem_of_getElem? (i := 297) (by decide +kernel), List.mem_of_getElem? (i := 298) (by decide +kernel)⟩
theorem lw_p31 : lw_okq (⟨"VictimHeapModel", "part", "(II)V"⟩, 10) := ⟨⟨by decide +kernel, by decide +kernel⟩, List.mem_of_getElem? (i := 231) (by decide +kernel), List.mem_of_getElem? (i := 301) (by decide +kernel), List.mem_of_getElem? (i := 302) (by decide +kernel)⟩
def lw_privs_2 : List (MethodName × Nat) := [(⟨"VictimHeap", "chunkBefore", "(I)I"⟩, 9), (⟨"VictimHeap", "isFree", "(I)Z"⟩, 9), (⟨"VictimHeap", "shorten", "(II)V"⟩, 9), (⟨"VictimHeap", "lengthen", "(II)Z"⟩, 9), (⟨"VictimHeap", "move", "(II)I"⟩, 9), (⟨"VictimHeap", "shrinkTop", "(I)V"⟩, 9), (⟨"VictimHeap", "hasData", "(II)Z"⟩, 9), (⟨"VictimHeap", "isCountedBy", "(II)Z"⟩, 9), (⟨"VictimHeapModel", "take", "(I)I"⟩, 10), (⟨"VictimHeapModel", "takeSmall", "(I)I"⟩, 10), (⟨"VictimHeapModel", "best", "(II)I"⟩, 10), (⟨"VictimHeapModel", "stateOf", "(I)I"⟩, 10), (⟨"VictimHeapModel", "fromVictim", "(I)I"⟩, 10), (⟨"VictimHeapModel", "at", "(I)I"⟩, 10), (⟨"VictimHeapModel", "cut", "(II)Z"⟩, 10), (⟨"VictimHeapModel", "part", "(II)V"⟩, 10)]
theorem lw_r2 : ∀ q ∈ lw_privs_2, lw_okq q := List.forall_mem_cons.mpr ⟨lw_p16, List.forall_mem_cons.mpr ⟨lw_p17, List.forall_mem_cons.mpr ⟨lw_p18, List.forall_mem_cons.mpr ⟨lw_p19, List.forall_mem_cons.mpr ⟨lw_p20, List.forall_mem_cons.mpr ⟨lw_p21, List.forall_mem_cons.mpr ⟨lw_p22, List.forall_mem_cons.mpr ⟨lw_p23, List.forall_mem_cons.mpr ⟨lw_p24, List.forall_mem_cons.mpr ⟨lw_p25, List.forall_mem_cons.mpr ⟨lw_p26, List.forall_mem_cons.mpr ⟨lw_p27, List.forall_mem_cons.mpr ⟨lw_p28, List.forall_mem_cons.mpr ⟨lw_p29, List.forall_mem_cons.mpr ⟨lw_p30, List.forall_mem_cons.mpr ⟨lw_p31, fun _ h => absurd h List.not_mem_nil⟩⟩⟩⟩⟩⟩⟩⟩⟩⟩⟩⟩⟩⟩⟩⟩
theorem lw_p32 : lw_okq (⟨"VictimHeapModel", "store", "(I)V"⟩, 10) := ⟨⟨by decide +kernel, by decide +kernel⟩, List.mem_of_getElem? (i := 231) (by decide +kernel), List.mem_of_getElem? (i := 305) (by decide +kernel), List.mem_of_getElem? (i := 306) (by decide +kernel)⟩
theorem lw_p33 : lw_okq (⟨"VictimHeapModel", "takeLarge", "(I)I"⟩, 10) := ⟨⟨by decide +kernel, by decide +kernel⟩, List.mem_of_getElem? (i := 231) (by decide +kernel), List.mem_of_getElem? (i := 309) (by decide +kernel), List.mem_of_getElem? (i := 310) (by decide +kernel)⟩
theorem lw_p34 : lw_okq (⟨"VictimHeapModel", "top", "()I"⟩, 10) := ⟨⟨by decide +kernel, by decide +kernel⟩, List.mem_of_getElem? (i := 231) (by decide +kernel), List.mem_of_getElem? (i := 313) (by decide +kernel), List.mem_of_getElem? (i := 314) (by decide +kernel)⟩
theorem lw_p35 : lw_okq (⟨"VictimHeapModel", "grow", "(I)Z"⟩, 10) := ⟨⟨by decide +kernel, by decide +kernel⟩, List.mem_of_getElem? (i := 231) (by decide +kernel), List.mem_of_getElem? (i := 317) (by decide +kernel), List.mem_of_getElem? (i := 318) (by decide +kernel)⟩
theorem lw_p36 : lw_okq (⟨"VictimHeapModel", "holder", "(I)I"⟩, 10) := ⟨⟨by decide +kernel, by decide +kernel⟩, List.mem_of_getElem? (i := 231) (by decide +kernel), List.mem_of_getElem? (i := 326) (by decide +kernel), List.mem_of_getElem? (i := 327) (by decide +kernel)⟩
theorem lw_p37 : lw_okq (⟨"VictimHeapModel", "give", "(I)V"⟩, 10) := ⟨⟨by decide +kernel, by decide +kernel⟩, List.mem_of_getElem? (i := 231) (by decide +kernel), List.mem_of_getElem? (i := 334) (by decide +kernel), List.mem_of_getElem? (i := 335) (by decide +kernel)⟩
theorem lw_p38 : lw_okq (⟨"VictimHeapModel", "join", "(I)V"⟩, 10) := ⟨⟨by decide +kernel, by decide +kernel⟩, List.mem_of_getElem? (i := 231) (by decide +kernel), List.mem_of_getElem? (i := 338) (by decide +kernel), List.mem_of_getElem? (i := 339) (by decide +kernel)⟩
theorem lw_p39 : lw_okq (⟨"VictimHeapModel", "shorten", "(II)V"⟩, 10) := ⟨⟨by decide +kernel, by decide +kernel⟩, List.mem_of_getElem? (i := 231) (by decide +kernel), List.mem_of_getElem? (i := 346) (by decide +kernel), List.mem_of_getElem? (i := 347) (by decide +kernel)⟩
theorem lw_p40 : lw_okq (⟨"VictimHeapModel", "lengthen", "(II)Z"⟩, 10) := ⟨⟨by decide +kernel, by decide +kernel⟩, List.mem_of_getElem? (i := 231) (by decide +kernel), List.mem_of_getElem? (i := 350) (by decide +kernel), List.mem_of_getElem? (i := 351) (by decide +kernel)⟩
theorem lw_p41 : lw_okq (⟨"VictimHeapModel", "moveTo", "(II)I"⟩, 10) := ⟨⟨by decide +kernel, by decide +kernel⟩, List.mem_of_getElem? (i := 231) (by decide +kernel), List.mem_of_getElem? (i := 354) (by decide +kernel), List.mem_of_getElem? (i := 355) (by decide +kernel)⟩
theorem lw_p42 : lw_okq (⟨"VictimHeapModel", "isData", "(II)Z"⟩, 10) := ⟨⟨by decide +kernel, by decide +kernel⟩, List.mem_of_getElem? (i := 231) (by decide +kernel), List.mem_of_getElem? (i := 374) (by decide +kernel), List.mem_of_getElem? (i := 375) (by decide +kernel)⟩
def lw_privs_3 : List (MethodName × Nat) := [(⟨"VictimHeapModel", "store", "(I)V"⟩, 10), (⟨"VictimHeapModel", "takeLarge", "(I)I"⟩, 10), (⟨"VictimHeapModel", "top", "()I"⟩, 10), (⟨"VictimHeapModel", "grow", "(I)Z"⟩, 10), (⟨"VictimHeapModel", "holder", "(I)I"⟩, 10), (⟨"VictimHeapModel", "give", "(I)V"⟩, 10), (⟨"VictimHeapModel", "join", "(I)V"⟩, 10), (⟨"VictimHeapModel", "shorten", "(II)V"⟩, 10), (⟨"VictimHeapModel", "lengthen", "(II)Z"⟩, 10), (⟨"VictimHeapModel", "moveTo", "(II)I"⟩, 10), (⟨"VictimHeapModel", "isData", "(II)Z"⟩, 10)]
theorem lw_r3 : ∀ q ∈ lw_privs_3, lw_okq q := List.forall_mem_cons.mpr ⟨lw_p32, List.forall_mem_cons.mpr ⟨lw_p33, List.forall_mem_cons.mpr ⟨lw_p34, List.forall_mem_cons.mpr ⟨lw_p35, List.forall_mem_cons.mpr ⟨lw_p36, List.forall_mem_cons.mpr ⟨lw_p37, List.forall_mem_cons.mpr ⟨lw_p38, List.forall_mem_cons.mpr ⟨lw_p39, List.forall_mem_cons.mpr ⟨lw_p40, List.forall_mem_cons.mpr ⟨lw_p41, List.forall_mem_cons.mpr ⟨lw_p42, fun _ h => absurd h List.not_mem_nil⟩⟩⟩⟩⟩⟩⟩⟩⟩⟩⟩
def lw_privs : List (MethodName × Nat) := lw_privs_1 ++ (lw_privs_2 ++ (lw_privs_3))
def lw_tbl : List Cond := k2_sels lw_privs ++ tables_1
theorem lw_privs_ok : ∀ q ∈ lw_privs, lw_okq q := by
  show ∀ q ∈ lw_privs_1 ++ (lw_privs_2 ++ (lw_privs_3)), lw_okq q
  exact List.forall_mem_append.mpr ⟨lw_r1, List.forall_mem_append.mpr ⟨lw_r2, lw_r3⟩⟩
end
section
def RX0 : String := "VictimHeap"
def TX0 : u_T := fun k => match k with
  | 0 => ("VictimHeap", "limit", "I", true)
  | 1 => ("VictimHeap", "units", "[I", true)
  | 2 => ("VictimHeap", "sizes", "[I", true)
  | 3 => ("VictimHeap", "states", "[I", true)
  | 4 => ("VictimHeap", "arrivals", "[I", true)
  | 5 => ("VictimHeap", "lastArrival", "I", false)
  | 6 => ("VictimHeap", "end", "I", false)
  | 7 => ("VictimHeap", "victim", "I", false)
  | _ => ("VictimHeap", "top", "I", false)
def tyX0 : Nat → FieldType := fun k => match k with
  | 0 => .int
  | 1 => .array .int
  | 2 => .array .int
  | 3 => .array .int
  | 4 => .array .int
  | 5 => .int
  | 6 => .int
  | 7 => .int
  | _ => .int
theorem nmX0 : ∀ a, a < 9 → ∀ b, b < 9 → a ≠ b → (TX0 a).2.1 ≠ (TX0 b).2.1 := by decide +kernel
theorem tyX0_ok : ∀ k, k < 9 → parseFieldDescriptor (TX0 k).2.2.1 = some (tyX0 k) := by decide +kernel
abbrev cX0_init : ByteArray := prog_1_method_1_code
def yX0_init : MethodName := ⟨RX0, "<init>", "(I)V"⟩
abbrev cX0_malloc : ByteArray := prog_1_method_2_code
def yX0_malloc : MethodName := ⟨RX0, "malloc", "(I)I"⟩
abbrev cX0_calloc : ByteArray := prog_1_method_3_code
def yX0_calloc : MethodName := ⟨RX0, "calloc", "(I)I"⟩
abbrev cX0_free : ByteArray := prog_1_method_4_code
def yX0_free : MethodName := ⟨RX0, "free", "(I)Z"⟩
abbrev cX0_realloc : ByteArray := prog_1_method_5_code
def yX0_realloc : MethodName := ⟨RX0, "realloc", "(II)I"⟩
abbrev cX0_align : ByteArray := prog_1_method_6_code
def yX0_align : MethodName := ⟨RX0, "align", "(II)I"⟩
abbrev cX0_trim : ByteArray := prog_1_method_7_code
def yX0_trim : MethodName := ⟨RX0, "trim", "(I)I"⟩
abbrev cX0_usable : ByteArray := prog_1_method_8_code
def yX0_usable : MethodName := ⟨RX0, "usable", "(I)I"⟩
abbrev cX0_read : ByteArray := prog_1_method_9_code
def yX0_read : MethodName := ⟨RX0, "read", "(II)I"⟩
abbrev cX0_write : ByteArray := prog_1_method_10_code
def yX0_write : MethodName := ⟨RX0, "write", "(III)Z"⟩
abbrev cX0_size : ByteArray := prog_1_method_11_code
def yX0_size : MethodName := ⟨RX0, "size", "(I)I"⟩
abbrev cX0_state : ByteArray := prog_1_method_12_code
def yX0_state : MethodName := ⟨RX0, "state", "(I)I"⟩
abbrev cX0_count : ByteArray := prog_1_method_13_code
def yX0_count : MethodName := ⟨RX0, "count", "(I)I"⟩
abbrev cX0_end : ByteArray := prog_1_method_14_code
def yX0_end : MethodName := ⟨RX0, "end", "()I"⟩
abbrev cX0_total : ByteArray := prog_1_method_15_code
def yX0_total : MethodName := ⟨RX0, "total", "(I)I"⟩
abbrev cX0_unitsFor : ByteArray := prog_1_method_16_code
def yX0_unitsFor : MethodName := ⟨RX0, "unitsFor", "(I)I"⟩
abbrev cX0_pointerTo : ByteArray := prog_1_method_17_code
def yX0_pointerTo : MethodName := ⟨RX0, "pointerTo", "(I)I"⟩
abbrev cX0_isAlignment : ByteArray := prog_1_method_18_code
def yX0_isAlignment : MethodName := ⟨RX0, "isAlignment", "(I)Z"⟩
abbrev cX0_unitsInFront : ByteArray := prog_1_method_19_code
def yX0_unitsInFront : MethodName := ⟨RX0, "unitsInFront", "(II)I"⟩
abbrev cX0_isChunk : ByteArray := prog_1_method_20_code
def yX0_isChunk : MethodName := ⟨RX0, "isChunk", "(I)Z"⟩
abbrev cX0_isFree : ByteArray := prog_1_method_21_code
def yX0_isFree : MethodName := ⟨RX0, "isFree", "(I)Z"⟩
abbrev cX0_isPointer : ByteArray := prog_1_method_22_code
def yX0_isPointer : MethodName := ⟨RX0, "isPointer", "(I)Z"⟩
abbrev cX0_hasData : ByteArray := prog_1_method_23_code
def yX0_hasData : MethodName := ⟨RX0, "hasData", "(II)Z"⟩
abbrev cX0_isCountedBy : ByteArray := prog_1_method_24_code
def yX0_isCountedBy : MethodName := ⟨RX0, "isCountedBy", "(II)Z"⟩
abbrev cX0_sizeAt : ByteArray := prog_1_method_25_code
def yX0_sizeAt : MethodName := ⟨RX0, "sizeAt", "(I)I"⟩
abbrev cX0_take : ByteArray := prog_1_method_26_code
def yX0_take : MethodName := ⟨RX0, "take", "(I)I"⟩
abbrev cX0_takeSmall : ByteArray := prog_1_method_27_code
def yX0_takeSmall : MethodName := ⟨RX0, "takeSmall", "(I)I"⟩
abbrev cX0_takeLarge : ByteArray := prog_1_method_28_code
def yX0_takeLarge : MethodName := ⟨RX0, "takeLarge", "(I)I"⟩
abbrev cX0_takeFromTop : ByteArray := prog_1_method_29_code
def yX0_takeFromTop : MethodName := ⟨RX0, "takeFromTop", "(I)I"⟩
abbrev cX0_cutForVictim : ByteArray := prog_1_method_30_code
def yX0_cutForVictim : MethodName := ⟨RX0, "cutForVictim", "(II)I"⟩
abbrev cX0_bestStored : ByteArray := prog_1_method_31_code
def yX0_bestStored : MethodName := ⟨RX0, "bestStored", "(I)I"⟩
abbrev cX0_isStored : ByteArray := prog_1_method_32_code
def yX0_isStored : MethodName := ⟨RX0, "isStored", "(I)Z"⟩
abbrev cX0_isBetter : ByteArray := prog_1_method_33_code
def yX0_isBetter : MethodName := ⟨RX0, "isBetter", "(II)Z"⟩
abbrev cX0_release : ByteArray := prog_1_method_34_code
def yX0_release : MethodName := ⟨RX0, "release", "(I)V"⟩
abbrev cX0_chunkBefore : ByteArray := prog_1_method_35_code
def yX0_chunkBefore : MethodName := ⟨RX0, "chunkBefore", "(I)I"⟩
abbrev cX0_shorten : ByteArray := prog_1_method_36_code
def yX0_shorten : MethodName := ⟨RX0, "shorten", "(II)V"⟩
abbrev cX0_lengthen : ByteArray := prog_1_method_37_code
def yX0_lengthen : MethodName := ⟨RX0, "lengthen", "(II)Z"⟩
abbrev cX0_move : ByteArray := prog_1_method_38_code
def yX0_move : MethodName := ⟨RX0, "move", "(II)I"⟩
abbrev cX0_grow : ByteArray := prog_1_method_39_code
def yX0_grow : MethodName := ⟨RX0, "grow", "(I)Z"⟩
abbrev cX0_shrinkTop : ByteArray := prog_1_method_40_code
def yX0_shrinkTop : MethodName := ⟨RX0, "shrinkTop", "(I)V"⟩
abbrev cX0_cut : ByteArray := prog_1_method_41_code
def yX0_cut : MethodName := ⟨RX0, "cut", "(III)I"⟩
abbrev cX0_lay : ByteArray := prog_1_method_42_code
def yX0_lay : MethodName := ⟨RX0, "lay", "(III)V"⟩
abbrev cX0_lift : ByteArray := prog_1_method_43_code
def yX0_lift : MethodName := ⟨RX0, "lift", "(I)I"⟩
def RX1 : String := "VictimHeapModel"
def TX1 : u_T := fun k => match k with
  | 0 => ("VictimHeapModel", "limit", "I", true)
  | 1 => ("VictimHeapModel", "end", "I", false)
  | 2 => ("VictimHeapModel", "unit", "[I", true)
  | 3 => ("VictimHeapModel", "chunks", "I", false)
  | 4 => ("VictimHeapModel", "first", "[I", true)
  | 5 => ("VictimHeapModel", "size", "[I", true)
  | 6 => ("VictimHeapModel", "used", "[Z", true)
  | 7 => ("VictimHeapModel", "came", "[I", true)
  | 8 => ("VictimHeapModel", "clock", "I", false)
  | _ => ("VictimHeapModel", "victim", "I", false)
def tyX1 : Nat → FieldType := fun k => match k with
  | 0 => .int
  | 1 => .int
  | 2 => .array .int
  | 3 => .int
  | 4 => .array .int
  | 5 => .array .int
  | 6 => .array .boolean
  | 7 => .array .int
  | 8 => .int
  | _ => .int
theorem nmX1 : ∀ a, a < 10 → ∀ b, b < 10 → a ≠ b → (TX1 a).2.1 ≠ (TX1 b).2.1 := by decide +kernel
theorem tyX1_ok : ∀ k, k < 10 → parseFieldDescriptor (TX1 k).2.2.1 = some (tyX1 k) := by decide +kernel
abbrev cX1_init : ByteArray := prog_3_method_1_code
def yX1_init : MethodName := ⟨RX1, "<init>", "(I)V"⟩
abbrev cX1_at : ByteArray := prog_3_method_2_code
def yX1_at : MethodName := ⟨RX1, "at", "(I)I"⟩
abbrev cX1_holder : ByteArray := prog_3_method_3_code
def yX1_holder : MethodName := ⟨RX1, "holder", "(I)I"⟩
abbrev cX1_stateOf : ByteArray := prog_3_method_4_code
def yX1_stateOf : MethodName := ⟨RX1, "stateOf", "(I)I"⟩
abbrev cX1_top : ByteArray := prog_3_method_5_code
def yX1_top : MethodName := ⟨RX1, "top", "()I"⟩
abbrev cX1_part : ByteArray := prog_3_method_6_code
def yX1_part : MethodName := ⟨RX1, "part", "(II)V"⟩
abbrev cX1_join : ByteArray := prog_3_method_7_code
def yX1_join : MethodName := ⟨RX1, "join", "(I)V"⟩
abbrev cX1_store : ByteArray := prog_3_method_8_code
def yX1_store : MethodName := ⟨RX1, "store", "(I)V"⟩
abbrev cX1_cut : ByteArray := prog_3_method_9_code
def yX1_cut : MethodName := ⟨RX1, "cut", "(II)Z"⟩
abbrev cX1_best : ByteArray := prog_3_method_10_code
def yX1_best : MethodName := ⟨RX1, "best", "(II)I"⟩
abbrev cX1_fromVictim : ByteArray := prog_3_method_11_code
def yX1_fromVictim : MethodName := ⟨RX1, "fromVictim", "(I)I"⟩
abbrev cX1_takeSmall : ByteArray := prog_3_method_12_code
def yX1_takeSmall : MethodName := ⟨RX1, "takeSmall", "(I)I"⟩
abbrev cX1_takeLarge : ByteArray := prog_3_method_13_code
def yX1_takeLarge : MethodName := ⟨RX1, "takeLarge", "(I)I"⟩
abbrev cX1_grow : ByteArray := prog_3_method_14_code
def yX1_grow : MethodName := ⟨RX1, "grow", "(I)Z"⟩
abbrev cX1_take : ByteArray := prog_3_method_15_code
def yX1_take : MethodName := ⟨RX1, "take", "(I)I"⟩
abbrev cX1_give : ByteArray := prog_3_method_16_code
def yX1_give : MethodName := ⟨RX1, "give", "(I)V"⟩
abbrev cX1_malloc : ByteArray := prog_3_method_17_code
def yX1_malloc : MethodName := ⟨RX1, "malloc", "(I)I"⟩
abbrev cX1_calloc : ByteArray := prog_3_method_18_code
def yX1_calloc : MethodName := ⟨RX1, "calloc", "(I)I"⟩
abbrev cX1_free : ByteArray := prog_3_method_19_code
def yX1_free : MethodName := ⟨RX1, "free", "(I)Z"⟩
abbrev cX1_shorten : ByteArray := prog_3_method_20_code
def yX1_shorten : MethodName := ⟨RX1, "shorten", "(II)V"⟩
abbrev cX1_lengthen : ByteArray := prog_3_method_21_code
def yX1_lengthen : MethodName := ⟨RX1, "lengthen", "(II)Z"⟩
abbrev cX1_moveTo : ByteArray := prog_3_method_22_code
def yX1_moveTo : MethodName := ⟨RX1, "moveTo", "(II)I"⟩
abbrev cX1_realloc : ByteArray := prog_3_method_23_code
def yX1_realloc : MethodName := ⟨RX1, "realloc", "(II)I"⟩
abbrev cX1_align : ByteArray := prog_3_method_24_code
def yX1_align : MethodName := ⟨RX1, "align", "(II)I"⟩
abbrev cX1_trim : ByteArray := prog_3_method_25_code
def yX1_trim : MethodName := ⟨RX1, "trim", "(I)I"⟩
abbrev cX1_usable : ByteArray := prog_3_method_26_code
def yX1_usable : MethodName := ⟨RX1, "usable", "(I)I"⟩
abbrev cX1_isData : ByteArray := prog_3_method_27_code
def yX1_isData : MethodName := ⟨RX1, "isData", "(II)Z"⟩
abbrev cX1_read : ByteArray := prog_3_method_28_code
def yX1_read : MethodName := ⟨RX1, "read", "(II)I"⟩
abbrev cX1_write : ByteArray := prog_3_method_29_code
def yX1_write : MethodName := ⟨RX1, "write", "(III)Z"⟩
abbrev cX1_size : ByteArray := prog_3_method_30_code
def yX1_size : MethodName := ⟨RX1, "size", "(I)I"⟩
abbrev cX1_state : ByteArray := prog_3_method_31_code
def yX1_state : MethodName := ⟨RX1, "state", "(I)I"⟩
abbrev cX1_count : ByteArray := prog_3_method_32_code
def yX1_count : MethodName := ⟨RX1, "count", "(I)I"⟩
abbrev cX1_end : ByteArray := prog_3_method_33_code
def yX1_end : MethodName := ⟨RX1, "end", "()I"⟩
abbrev cX1_total : ByteArray := prog_3_method_34_code
def yX1_total : MethodName := ⟨RX1, "total", "(I)I"⟩
def RJ : String := "java/util/Arrays"
abbrev cJ_fill : ByteArray := prog_6_method_103_code
def yJ_fill : MethodName := ⟨RJ, "fill", "([II)V"⟩
abbrev cJ_fillr : ByteArray := prog_6_method_104_code
def yJ_fillr : MethodName := ⟨RJ, "fill", "([IIII)V"⟩
abbrev cJ_rangeCheck : ByteArray := prog_6_method_30_code
def yJ_rangeCheck : MethodName := ⟨RJ, "rangeCheck", "(III)V"⟩
def RL : String := "VictimHeapLaw"
abbrev cL_cell : ByteArray := method_2_code
def yL_cell : MethodName := ⟨RL, "cell", "([II)I"⟩
abbrev cL_law : ByteArray := code
def yL_law : MethodName := ⟨RL, "law", "([I)Z"⟩
def lw_g : List Cond := lw_tbl.filter goodWord
theorem lw_g_in {w : Cond} (h : w ∈ lw_g) : w ∈ lw_tbl := (List.mem_filter.mp h).1
theorem gm (i : Nat) {w : Cond} (h : lw_tbl[i]? = some w) (hg : goodWord w = true) : w ∈ lw_g := List.mem_filter.mpr ⟨List.mem_of_getElem? h, hg⟩
theorem lw_good : ∀ w ∈ lw_g, (w.onTables && w.keeps) = true ∨ ∃ ty, w = .arrayClass ty := fun w h => good_of_word (List.mem_filter.mp h).2
theorem gw_all {ws : List Cond} (h : ∀ w ∈ ws, w ∈ lw_g) : GoodIn lw_g ws := fun w hw => ⟨h w hw, lw_good w (h w hw)⟩
theorem gw_v {own R : String} {idx maxL : Nat} {y : MethodName} {bytes : ByteArray} {rt : Option FieldType} (h1 : Cond.methodLink own idx y ∈ lw_g) (h2 : Cond.instanceMethod y ∈ lw_g) (h3 : Cond.selects R y y ∈ lw_g) (h4 : Cond.initialized R ∈ lw_g) (h5 : Cond.code y bytes maxL rt ∈ lw_g) : GoodIn lw_g (wsV own idx R y (.code y bytes maxL rt :: lw_g)) := by
  refine gw_all fun w hw => ?_
  unfold wsV at hw
  simp only [List.cons_append, List.nil_append, List.mem_cons] at hw
  rcases hw with rfl | rfl | rfl | rfl | rfl | hw
  · exact h1
  · exact h2
  · exact h3
  · exact h4
  · exact h5
  · exact hw
theorem gw_s {own : String} {idx maxL : Nat} {y : MethodName} {bytes : ByteArray} {rt : Option FieldType} (h1 : Cond.methodLink own idx y ∈ lw_g) (h2 : Cond.static y ∈ lw_g) (h4 : Cond.initialized own ∈ lw_g) (h5 : Cond.code y bytes maxL rt ∈ lw_g) : GoodIn lw_g (wsS own idx y (.code y bytes maxL rt :: lw_g)) := by
  refine gw_all fun w hw => ?_
  unfold wsS at hw
  simp only [List.cons_append, List.nil_append, List.mem_cons] at hw
  rcases hw with rfl | rfl | rfl | rfl | hw
  · exact h1
  · exact h2
  · exact h4
  · exact h5
  · exact hw
theorem gw_e {own : String} {idx maxL : Nat} {y : MethodName} {bytes : ByteArray} {rt : Option FieldType} (h1 : Cond.methodLink own idx y ∈ lw_g) (h2 : Cond.static y ∈ lw_g) (h4 : Cond.initialized y.cls ∈ lw_g) (h5 : Cond.code y bytes maxL rt ∈ lw_g) : GoodIn lw_g (va_wsS own idx y (.code y bytes maxL rt :: lw_g)) := by
  refine gw_all fun w hw => ?_
  unfold va_wsS at hw
  simp only [List.cons_append, List.nil_append, List.mem_cons] at hw
  rcases hw with rfl | rfl | rfl | rfl | hw
  · exact h1
  · exact h2
  · exact h4
  · exact h5
  · exact hw
abbrev vcl : List vw_C := [(RX0, TX0, 9), (RX1, TX1, 10)]
end
section
theorem dX0_init_0 : decode cX0_init 0 = .ok (.aload_n 0, 1) := by decide +kernel
theorem dX0_init_1 : decode cX0_init 1 = .ok (.invokespecial 3, 3) := by decide +kernel
theorem dX0_init_4 : decode cX0_init 4 = .ok (.aload_n 0, 1) := by decide +kernel
theorem dX0_init_5 : decode cX0_init 5 = .ok (.bipush 16, 2) := by decide +kernel
theorem dX0_init_7 : decode cX0_init 7 = .ok (.sipush 512, 3) := by decide +kernel
theorem dX0_init_10 : decode cX0_init 10 = .ok (.iload_n 1, 1) := by decide +kernel
theorem dX0_init_11 : decode cX0_init 11 = .ok (.invokestatic 9, 3) := by decide +kernel
theorem dX0_init_14 : decode cX0_init 14 = .ok (.invokestatic 15, 3) := by decide +kernel
theorem dX0_init_17 : decode cX0_init 17 = .ok (.putfield 18, 3) := by decide +kernel
theorem dX0_init_20 : decode cX0_init 20 = .ok (.aload_n 0, 1) := by decide +kernel
theorem dX0_init_21 : decode cX0_init 21 = .ok (.aload_n 0, 1) := by decide +kernel
theorem dX0_init_22 : decode cX0_init 22 = .ok (.getfield 18, 3) := by decide +kernel
theorem dX0_init_25 : decode cX0_init 25 = .ok (.newarray .int, 2) := by decide +kernel
theorem dX0_init_27 : decode cX0_init 27 = .ok (.putfield 22, 3) := by decide +kernel
theorem dX0_init_30 : decode cX0_init 30 = .ok (.aload_n 0, 1) := by decide +kernel
theorem dX0_init_31 : decode cX0_init 31 = .ok (.aload_n 0, 1) := by decide +kernel
theorem dX0_init_32 : decode cX0_init 32 = .ok (.getfield 18, 3) := by decide +kernel
theorem dX0_init_35 : decode cX0_init 35 = .ok (.newarray .int, 2) := by decide +kernel
theorem dX0_init_37 : decode cX0_init 37 = .ok (.putfield 26, 3) := by decide +kernel
theorem dX0_init_40 : decode cX0_init 40 = .ok (.aload_n 0, 1) := by decide +kernel
theorem dX0_init_41 : decode cX0_init 41 = .ok (.aload_n 0, 1) := by decide +kernel
theorem dX0_init_42 : decode cX0_init 42 = .ok (.getfield 18, 3) := by decide +kernel
theorem dX0_init_45 : decode cX0_init 45 = .ok (.newarray .int, 2) := by decide +kernel
theorem dX0_init_47 : decode cX0_init 47 = .ok (.putfield 29, 3) := by decide +kernel
theorem dX0_init_50 : decode cX0_init 50 = .ok (.aload_n 0, 1) := by decide +kernel
theorem dX0_init_51 : decode cX0_init 51 = .ok (.aload_n 0, 1) := by decide +kernel
theorem dX0_init_52 : decode cX0_init 52 = .ok (.getfield 18, 3) := by decide +kernel
theorem dX0_init_55 : decode cX0_init 55 = .ok (.newarray .int, 2) := by decide +kernel
theorem dX0_init_57 : decode cX0_init 57 = .ok (.putfield 32, 3) := by decide +kernel
theorem dX0_init_60 : decode cX0_init 60 = .ok (.aload_n 0, 1) := by decide +kernel
theorem dX0_init_61 : decode cX0_init 61 = .ok (.getfield 29, 3) := by decide +kernel
theorem dX0_init_64 : decode cX0_init 64 = .ok (.iconst (-1), 1) := by decide +kernel
theorem dX0_init_65 : decode cX0_init 65 = .ok (.invokestatic 35, 3) := by decide +kernel
theorem dX0_init_68 : decode cX0_init 68 = .ok (.aload_n 0, 1) := by decide +kernel
theorem dX0_init_69 : decode cX0_init 69 = .ok (.iconst 0, 1) := by decide +kernel
theorem dX0_init_70 : decode cX0_init 70 = .ok (.putfield 41, 3) := by decide +kernel
theorem dX0_init_73 : decode cX0_init 73 = .ok (.aload_n 0, 1) := by decide +kernel
theorem dX0_init_74 : decode cX0_init 74 = .ok (.iconst 0, 1) := by decide +kernel
theorem dX0_init_75 : decode cX0_init 75 = .ok (.putfield 44, 3) := by decide +kernel
theorem dX0_init_78 : decode cX0_init 78 = .ok (.aload_n 0, 1) := by decide +kernel
theorem dX0_init_79 : decode cX0_init 79 = .ok (.iconst (-1), 1) := by decide +kernel
theorem dX0_init_80 : decode cX0_init 80 = .ok (.putfield 47, 3) := by decide +kernel
theorem dX0_init_83 : decode cX0_init 83 = .ok (.aload_n 0, 1) := by decide +kernel
theorem dX0_init_84 : decode cX0_init 84 = .ok (.iconst (-1), 1) := by decide +kernel
theorem dX0_init_85 : decode cX0_init 85 = .ok (.putfield 50, 3) := by decide +kernel
theorem dX0_init_88 : decode cX0_init 88 = .ok (.return_, 1) := by decide +kernel
theorem dX0_malloc_0 : decode cX0_malloc 0 = .ok (.iload_n 1, 1) := by decide +kernel
theorem dX0_malloc_1 : decode cX0_malloc 1 = .ok (.sipush 511, 3) := by decide +kernel
theorem dX0_malloc_4 : decode cX0_malloc 4 = .ok (.if_icmp .le 5, 3) := by decide +kernel
theorem dX0_malloc_7 : decode cX0_malloc 7 = .ok (.iconst 0, 1) := by decide +kernel
theorem dX0_malloc_8 : decode cX0_malloc 8 = .ok (.ireturn, 1) := by decide +kernel
theorem dX0_malloc_9 : decode cX0_malloc 9 = .ok (.aload_n 0, 1) := by decide +kernel
theorem dX0_malloc_10 : decode cX0_malloc 10 = .ok (.iload_n 1, 1) := by decide +kernel
theorem dX0_malloc_11 : decode cX0_malloc 11 = .ok (.invokestatic 53, 3) := by decide +kernel
theorem dX0_malloc_14 : decode cX0_malloc 14 = .ok (.invokevirtual 57, 3) := by decide +kernel
theorem dX0_malloc_17 : decode cX0_malloc 17 = .ok (.invokestatic 60, 3) := by decide +kernel
theorem dX0_malloc_20 : decode cX0_malloc 20 = .ok (.ireturn, 1) := by decide +kernel
theorem dX0_calloc_0 : decode cX0_calloc 0 = .ok (.aload_n 0, 1) := by decide +kernel
theorem dX0_calloc_1 : decode cX0_calloc 1 = .ok (.iload_n 1, 1) := by decide +kernel
theorem dX0_calloc_2 : decode cX0_calloc 2 = .ok (.invokevirtual 63, 3) := by decide +kernel
theorem dX0_calloc_5 : decode cX0_calloc 5 = .ok (.istore_n 2, 1) := by decide +kernel
theorem dX0_calloc_6 : decode cX0_calloc 6 = .ok (.aload_n 0, 1) := by decide +kernel
theorem dX0_calloc_7 : decode cX0_calloc 7 = .ok (.iload_n 2, 1) := by decide +kernel
theorem dX0_calloc_8 : decode cX0_calloc 8 = .ok (.invokevirtual 66, 3) := by decide +kernel
theorem dX0_calloc_11 : decode cX0_calloc 11 = .ok (.ifCond .eq 19, 3) := by decide +kernel
theorem dX0_calloc_14 : decode cX0_calloc 14 = .ok (.aload_n 0, 1) := by decide +kernel
theorem dX0_calloc_15 : decode cX0_calloc 15 = .ok (.getfield 22, 3) := by decide +kernel
theorem dX0_calloc_18 : decode cX0_calloc 18 = .ok (.iload_n 2, 1) := by decide +kernel
theorem dX0_calloc_19 : decode cX0_calloc 19 = .ok (.iload_n 2, 1) := by decide +kernel
theorem dX0_calloc_20 : decode cX0_calloc 20 = .ok (.aload_n 0, 1) := by decide +kernel
theorem dX0_calloc_21 : decode cX0_calloc 21 = .ok (.iload_n 2, 1) := by decide +kernel
theorem dX0_calloc_22 : decode cX0_calloc 22 = .ok (.invokevirtual 70, 3) := by decide +kernel
theorem dX0_calloc_25 : decode cX0_calloc 25 = .ok (.iadd, 1) := by decide +kernel
theorem dX0_calloc_26 : decode cX0_calloc 26 = .ok (.iconst 0, 1) := by decide +kernel
theorem dX0_calloc_27 : decode cX0_calloc 27 = .ok (.invokestatic 73, 3) := by decide +kernel
theorem dX0_calloc_30 : decode cX0_calloc 30 = .ok (.iload_n 2, 1) := by decide +kernel
theorem dX0_calloc_31 : decode cX0_calloc 31 = .ok (.ireturn, 1) := by decide +kernel
theorem dX0_free_0 : decode cX0_free 0 = .ok (.aload_n 0, 1) := by decide +kernel
theorem dX0_free_1 : decode cX0_free 1 = .ok (.iload_n 1, 1) := by decide +kernel
theorem dX0_free_2 : decode cX0_free 2 = .ok (.invokevirtual 66, 3) := by decide +kernel
theorem dX0_free_5 : decode cX0_free 5 = .ok (.ifCond .ne 5, 3) := by decide +kernel
theorem dX0_free_8 : decode cX0_free 8 = .ok (.iconst 0, 1) := by decide +kernel
theorem dX0_free_9 : decode cX0_free 9 = .ok (.ireturn, 1) := by decide +kernel
theorem dX0_free_10 : decode cX0_free 10 = .ok (.aload_n 0, 1) := by decide +kernel
theorem dX0_free_11 : decode cX0_free 11 = .ok (.iload_n 1, 1) := by decide +kernel
theorem dX0_free_12 : decode cX0_free 12 = .ok (.iconst 1, 1) := by decide +kernel
theorem dX0_free_13 : decode cX0_free 13 = .ok (.isub, 1) := by decide +kernel
theorem dX0_free_14 : decode cX0_free 14 = .ok (.invokevirtual 76, 3) := by decide +kernel
theorem dX0_free_17 : decode cX0_free 17 = .ok (.iconst 1, 1) := by decide +kernel
theorem dX0_free_18 : decode cX0_free 18 = .ok (.ireturn, 1) := by decide +kernel
theorem dX0_realloc_0 : decode cX0_realloc 0 = .ok (.aload_n 0, 1) := by decide +kernel
theorem dX0_realloc_1 : decode cX0_realloc 1 = .ok (.iload_n 1, 1) := by decide +kernel
theorem dX0_realloc_2 : decode cX0_realloc 2 = .ok (.invokevirtual 66, 3) := by decide +kernel
theorem dX0_realloc_5 : decode cX0_realloc 5 = .ok (.ifCond .eq 10, 3) := by decide +kernel
theorem dX0_realloc_8 : decode cX0_realloc 8 = .ok (.iload_n 2, 1) := by decide +kernel
theorem dX0_realloc_9 : decode cX0_realloc 9 = .ok (.sipush 511, 3) := by decide +kernel
theorem dX0_realloc_12 : decode cX0_realloc 12 = .ok (.if_icmp .le 5, 3) := by decide +kernel
theorem dX0_realloc_15 : decode cX0_realloc 15 = .ok (.iconst 0, 1) := by decide +kernel
theorem dX0_realloc_16 : decode cX0_realloc 16 = .ok (.ireturn, 1) := by decide +kernel
theorem dX0_realloc_17 : decode cX0_realloc 17 = .ok (.iload_n 1, 1) := by decide +kernel
theorem dX0_realloc_18 : decode cX0_realloc 18 = .ok (.iconst 1, 1) := by decide +kernel
theorem dX0_realloc_19 : decode cX0_realloc 19 = .ok (.isub, 1) := by decide +kernel
theorem dX0_realloc_20 : decode cX0_realloc 20 = .ok (.istore_n 3, 1) := by decide +kernel
theorem dX0_realloc_21 : decode cX0_realloc 21 = .ok (.iload_n 2, 1) := by decide +kernel
theorem dX0_realloc_22 : decode cX0_realloc 22 = .ok (.invokestatic 53, 3) := by decide +kernel
theorem dX0_realloc_25 : decode cX0_realloc 25 = .ok (.istore 4, 2) := by decide +kernel
theorem dX0_realloc_27 : decode cX0_realloc 27 = .ok (.aload_n 0, 1) := by decide +kernel
theorem dX0_realloc_28 : decode cX0_realloc 28 = .ok (.getfield 26, 3) := by decide +kernel
theorem dX0_realloc_31 : decode cX0_realloc 31 = .ok (.iload_n 3, 1) := by decide +kernel
theorem dX0_realloc_32 : decode cX0_realloc 32 = .ok (.iaload, 1) := by decide +kernel
theorem dX0_realloc_33 : decode cX0_realloc 33 = .ok (.iload 4, 2) := by decide +kernel
theorem dX0_realloc_35 : decode cX0_realloc 35 = .ok (.if_icmp .lt 12, 3) := by decide +kernel
theorem dX0_realloc_38 : decode cX0_realloc 38 = .ok (.aload_n 0, 1) := by decide +kernel
theorem dX0_realloc_39 : decode cX0_realloc 39 = .ok (.iload_n 3, 1) := by decide +kernel
theorem dX0_realloc_40 : decode cX0_realloc 40 = .ok (.iload 4, 2) := by decide +kernel
theorem dX0_realloc_42 : decode cX0_realloc 42 = .ok (.invokevirtual 80, 3) := by decide +kernel
theorem dX0_realloc_45 : decode cX0_realloc 45 = .ok (.iload_n 1, 1) := by decide +kernel
theorem dX0_realloc_46 : decode cX0_realloc 46 = .ok (.ireturn, 1) := by decide +kernel
theorem dX0_realloc_47 : decode cX0_realloc 47 = .ok (.aload_n 0, 1) := by decide +kernel
theorem dX0_realloc_48 : decode cX0_realloc 48 = .ok (.iload_n 3, 1) := by decide +kernel
theorem dX0_realloc_49 : decode cX0_realloc 49 = .ok (.iload 4, 2) := by decide +kernel
theorem dX0_realloc_51 : decode cX0_realloc 51 = .ok (.invokevirtual 84, 3) := by decide +kernel
theorem dX0_realloc_54 : decode cX0_realloc 54 = .ok (.ifCond .eq 7, 3) := by decide +kernel
theorem dX0_realloc_57 : decode cX0_realloc 57 = .ok (.iload_n 1, 1) := by decide +kernel
theorem dX0_realloc_58 : decode cX0_realloc 58 = .ok (.goto 13, 3) := by decide +kernel
theorem dX0_realloc_61 : decode cX0_realloc 61 = .ok (.aload_n 0, 1) := by decide +kernel
theorem dX0_realloc_62 : decode cX0_realloc 62 = .ok (.iload_n 3, 1) := by decide +kernel
theorem dX0_realloc_63 : decode cX0_realloc 63 = .ok (.iload 4, 2) := by decide +kernel
theorem dX0_realloc_65 : decode cX0_realloc 65 = .ok (.invokevirtual 88, 3) := by decide +kernel
theorem dX0_realloc_68 : decode cX0_realloc 68 = .ok (.invokestatic 60, 3) := by decide +kernel
theorem dX0_realloc_71 : decode cX0_realloc 71 = .ok (.ireturn, 1) := by decide +kernel
theorem dX0_align_0 : decode cX0_align 0 = .ok (.iload_n 1, 1) := by decide +kernel
theorem dX0_align_1 : decode cX0_align 1 = .ok (.sipush 511, 3) := by decide +kernel
theorem dX0_align_4 : decode cX0_align 4 = .ok (.if_icmp .gt 10, 3) := by decide +kernel
theorem dX0_align_7 : decode cX0_align 7 = .ok (.iload_n 2, 1) := by decide +kernel
theorem dX0_align_8 : decode cX0_align 8 = .ok (.invokestatic 91, 3) := by decide +kernel
theorem dX0_align_11 : decode cX0_align 11 = .ok (.ifCond .ne 5, 3) := by decide +kernel
theorem dX0_align_14 : decode cX0_align 14 = .ok (.iconst 0, 1) := by decide +kernel
theorem dX0_align_15 : decode cX0_align 15 = .ok (.ireturn, 1) := by decide +kernel
theorem dX0_align_16 : decode cX0_align 16 = .ok (.iload_n 1, 1) := by decide +kernel
theorem dX0_align_17 : decode cX0_align 17 = .ok (.invokestatic 53, 3) := by decide +kernel
theorem dX0_align_20 : decode cX0_align 20 = .ok (.istore_n 3, 1) := by decide +kernel
theorem dX0_align_21 : decode cX0_align 21 = .ok (.aload_n 0, 1) := by decide +kernel
theorem dX0_align_22 : decode cX0_align 22 = .ok (.iload_n 3, 1) := by decide +kernel
theorem dX0_align_23 : decode cX0_align 23 = .ok (.iload_n 2, 1) := by decide +kernel
theorem dX0_align_24 : decode cX0_align 24 = .ok (.iadd, 1) := by decide +kernel
theorem dX0_align_25 : decode cX0_align 25 = .ok (.iconst 2, 1) := by decide +kernel
theorem dX0_align_26 : decode cX0_align 26 = .ok (.iadd, 1) := by decide +kernel
theorem dX0_align_27 : decode cX0_align 27 = .ok (.invokevirtual 57, 3) := by decide +kernel
theorem dX0_align_30 : decode cX0_align 30 = .ok (.istore 4, 2) := by decide +kernel
theorem dX0_align_32 : decode cX0_align 32 = .ok (.iload 4, 2) := by decide +kernel
theorem dX0_align_34 : decode cX0_align 34 = .ok (.iconst (-1), 1) := by decide +kernel
theorem dX0_align_35 : decode cX0_align 35 = .ok (.if_icmp .ne 5, 3) := by decide +kernel
theorem dX0_align_38 : decode cX0_align 38 = .ok (.iconst 0, 1) := by decide +kernel
theorem dX0_align_39 : decode cX0_align 39 = .ok (.ireturn, 1) := by decide +kernel
theorem dX0_align_40 : decode cX0_align 40 = .ok (.iload 4, 2) := by decide +kernel
theorem dX0_align_42 : decode cX0_align 42 = .ok (.iconst 1, 1) := by decide +kernel
theorem dX0_align_43 : decode cX0_align 43 = .ok (.iadd, 1) := by decide +kernel
theorem dX0_align_44 : decode cX0_align 44 = .ok (.iload_n 2, 1) := by decide +kernel
theorem dX0_align_45 : decode cX0_align 45 = .ok (.invokestatic 94, 3) := by decide +kernel
theorem dX0_align_48 : decode cX0_align 48 = .ok (.istore 5, 2) := by decide +kernel
theorem dX0_align_50 : decode cX0_align 50 = .ok (.iload 5, 2) := by decide +kernel
theorem dX0_align_52 : decode cX0_align 52 = .ok (.ifCond .le 19, 3) := by decide +kernel
theorem dX0_align_55 : decode cX0_align 55 = .ok (.aload_n 0, 1) := by decide +kernel
theorem dX0_align_56 : decode cX0_align 56 = .ok (.iload 4, 2) := by decide +kernel
theorem dX0_align_58 : decode cX0_align 58 = .ok (.iload 5, 2) := by decide +kernel
theorem dX0_align_60 : decode cX0_align 60 = .ok (.iconst 0, 1) := by decide +kernel
theorem dX0_align_61 : decode cX0_align 61 = .ok (.invokevirtual 97, 3) := by decide +kernel
theorem dX0_align_64 : decode cX0_align 64 = .ok (.pop, 1) := by decide +kernel
theorem dX0_align_65 : decode cX0_align 65 = .ok (.aload_n 0, 1) := by decide +kernel
theorem dX0_align_66 : decode cX0_align 66 = .ok (.iload 4, 2) := by decide +kernel
theorem dX0_align_68 : decode cX0_align 68 = .ok (.invokevirtual 76, 3) := by decide +kernel
theorem dX0_align_71 : decode cX0_align 71 = .ok (.aload_n 0, 1) := by decide +kernel
theorem dX0_align_72 : decode cX0_align 72 = .ok (.iload 4, 2) := by decide +kernel
theorem dX0_align_74 : decode cX0_align 74 = .ok (.iload 5, 2) := by decide +kernel
theorem dX0_align_76 : decode cX0_align 76 = .ok (.iadd, 1) := by decide +kernel
theorem dX0_align_77 : decode cX0_align 77 = .ok (.iload_n 3, 1) := by decide +kernel
theorem dX0_align_78 : decode cX0_align 78 = .ok (.invokevirtual 80, 3) := by decide +kernel
theorem dX0_align_81 : decode cX0_align 81 = .ok (.iload 4, 2) := by decide +kernel
theorem dX0_align_83 : decode cX0_align 83 = .ok (.iload 5, 2) := by decide +kernel
theorem dX0_align_85 : decode cX0_align 85 = .ok (.iadd, 1) := by decide +kernel
theorem dX0_align_86 : decode cX0_align 86 = .ok (.invokestatic 60, 3) := by decide +kernel
theorem dX0_align_89 : decode cX0_align 89 = .ok (.ireturn, 1) := by decide +kernel
theorem dX0_trim_0 : decode cX0_trim 0 = .ok (.aload_n 0, 1) := by decide +kernel
theorem dX0_trim_1 : decode cX0_trim 1 = .ok (.aload_n 0, 1) := by decide +kernel
theorem dX0_trim_2 : decode cX0_trim 2 = .ok (.getfield 50, 3) := by decide +kernel
theorem dX0_trim_5 : decode cX0_trim 5 = .ok (.invokevirtual 101, 3) := by decide +kernel
theorem dX0_trim_8 : decode cX0_trim 8 = .ok (.istore_n 2, 1) := by decide +kernel
theorem dX0_trim_9 : decode cX0_trim 9 = .ok (.iload_n 2, 1) := by decide +kernel
theorem dX0_trim_10 : decode cX0_trim 10 = .ok (.iload_n 1, 1) := by decide +kernel
theorem dX0_trim_11 : decode cX0_trim 11 = .ok (.iconst 0, 1) := by decide +kernel
theorem dX0_trim_12 : decode cX0_trim 12 = .ok (.invokestatic 15, 3) := by decide +kernel
theorem dX0_trim_15 : decode cX0_trim 15 = .ok (.isub, 1) := by decide +kernel
theorem dX0_trim_16 : decode cX0_trim 16 = .ok (.istore_n 3, 1) := by decide +kernel
theorem dX0_trim_17 : decode cX0_trim 17 = .ok (.iload_n 3, 1) := by decide +kernel
theorem dX0_trim_18 : decode cX0_trim 18 = .ok (.bipush 16, 2) := by decide +kernel
theorem dX0_trim_20 : decode cX0_trim 20 = .ok (.if_icmp .ge 5, 3) := by decide +kernel
theorem dX0_trim_23 : decode cX0_trim 23 = .ok (.iconst 0, 1) := by decide +kernel
theorem dX0_trim_24 : decode cX0_trim 24 = .ok (.ireturn, 1) := by decide +kernel
theorem dX0_trim_25 : decode cX0_trim 25 = .ok (.iload_n 3, 1) := by decide +kernel
theorem dX0_trim_26 : decode cX0_trim 26 = .ok (.iload_n 3, 1) := by decide +kernel
theorem dX0_trim_27 : decode cX0_trim 27 = .ok (.bipush 16, 2) := by decide +kernel
theorem dX0_trim_29 : decode cX0_trim 29 = .ok (.irem, 1) := by decide +kernel
theorem dX0_trim_30 : decode cX0_trim 30 = .ok (.isub, 1) := by decide +kernel
theorem dX0_trim_31 : decode cX0_trim 31 = .ok (.istore 4, 2) := by decide +kernel
theorem dX0_trim_33 : decode cX0_trim 33 = .ok (.iload_n 2, 1) := by decide +kernel
theorem dX0_trim_34 : decode cX0_trim 34 = .ok (.iload 4, 2) := by decide +kernel
theorem dX0_trim_36 : decode cX0_trim 36 = .ok (.isub, 1) := by decide +kernel
theorem dX0_trim_37 : decode cX0_trim 37 = .ok (.iconst 1, 1) := by decide +kernel
theorem dX0_trim_38 : decode cX0_trim 38 = .ok (.if_icmp .ne 6, 3) := by decide +kernel
theorem dX0_trim_41 : decode cX0_trim 41 = .ok (.iinc 4 (-16), 3) := by decide +kernel
theorem dX0_trim_44 : decode cX0_trim 44 = .ok (.aload_n 0, 1) := by decide +kernel
theorem dX0_trim_45 : decode cX0_trim 45 = .ok (.iload 4, 2) := by decide +kernel
theorem dX0_trim_47 : decode cX0_trim 47 = .ok (.invokevirtual 104, 3) := by decide +kernel
theorem dX0_trim_50 : decode cX0_trim 50 = .ok (.iload 4, 2) := by decide +kernel
theorem dX0_trim_52 : decode cX0_trim 52 = .ok (.ireturn, 1) := by decide +kernel
theorem dX0_usable_0 : decode cX0_usable 0 = .ok (.aload_n 0, 1) := by decide +kernel
theorem dX0_usable_1 : decode cX0_usable 1 = .ok (.iload_n 1, 1) := by decide +kernel
theorem dX0_usable_2 : decode cX0_usable 2 = .ok (.invokevirtual 66, 3) := by decide +kernel
theorem dX0_usable_5 : decode cX0_usable 5 = .ok (.ifCond .eq 16, 3) := by decide +kernel
theorem dX0_usable_8 : decode cX0_usable 8 = .ok (.aload_n 0, 1) := by decide +kernel
theorem dX0_usable_9 : decode cX0_usable 9 = .ok (.getfield 26, 3) := by decide +kernel
theorem dX0_usable_12 : decode cX0_usable 12 = .ok (.iload_n 1, 1) := by decide +kernel
theorem dX0_usable_13 : decode cX0_usable 13 = .ok (.iconst 1, 1) := by decide +kernel
theorem dX0_usable_14 : decode cX0_usable 14 = .ok (.isub, 1) := by decide +kernel
theorem dX0_usable_15 : decode cX0_usable 15 = .ok (.iaload, 1) := by decide +kernel
theorem dX0_usable_16 : decode cX0_usable 16 = .ok (.iconst 1, 1) := by decide +kernel
theorem dX0_usable_17 : decode cX0_usable 17 = .ok (.isub, 1) := by decide +kernel
theorem dX0_usable_18 : decode cX0_usable 18 = .ok (.goto 4, 3) := by decide +kernel
theorem dX0_usable_21 : decode cX0_usable 21 = .ok (.iconst 0, 1) := by decide +kernel
theorem dX0_usable_22 : decode cX0_usable 22 = .ok (.ireturn, 1) := by decide +kernel
theorem dX0_read_0 : decode cX0_read 0 = .ok (.aload_n 0, 1) := by decide +kernel
theorem dX0_read_1 : decode cX0_read 1 = .ok (.iload_n 1, 1) := by decide +kernel
theorem dX0_read_2 : decode cX0_read 2 = .ok (.iload_n 2, 1) := by decide +kernel
theorem dX0_read_3 : decode cX0_read 3 = .ok (.invokevirtual 107, 3) := by decide +kernel
theorem dX0_read_6 : decode cX0_read 6 = .ok (.ifCond .eq 14, 3) := by decide +kernel
theorem dX0_read_9 : decode cX0_read 9 = .ok (.aload_n 0, 1) := by decide +kernel
theorem dX0_read_10 : decode cX0_read 10 = .ok (.getfield 22, 3) := by decide +kernel
theorem dX0_read_13 : decode cX0_read 13 = .ok (.iload_n 1, 1) := by decide +kernel
theorem dX0_read_14 : decode cX0_read 14 = .ok (.iload_n 2, 1) := by decide +kernel
theorem dX0_read_15 : decode cX0_read 15 = .ok (.iadd, 1) := by decide +kernel
theorem dX0_read_16 : decode cX0_read 16 = .ok (.iaload, 1) := by decide +kernel
theorem dX0_read_17 : decode cX0_read 17 = .ok (.goto 4, 3) := by decide +kernel
theorem dX0_read_20 : decode cX0_read 20 = .ok (.iconst 0, 1) := by decide +kernel
theorem dX0_read_21 : decode cX0_read 21 = .ok (.ireturn, 1) := by decide +kernel
theorem dX0_write_0 : decode cX0_write 0 = .ok (.aload_n 0, 1) := by decide +kernel
theorem dX0_write_1 : decode cX0_write 1 = .ok (.iload_n 1, 1) := by decide +kernel
theorem dX0_write_2 : decode cX0_write 2 = .ok (.iload_n 2, 1) := by decide +kernel
theorem dX0_write_3 : decode cX0_write 3 = .ok (.invokevirtual 107, 3) := by decide +kernel
theorem dX0_write_6 : decode cX0_write 6 = .ok (.ifCond .ne 5, 3) := by decide +kernel
theorem dX0_write_9 : decode cX0_write 9 = .ok (.iconst 0, 1) := by decide +kernel
theorem dX0_write_10 : decode cX0_write 10 = .ok (.ireturn, 1) := by decide +kernel
theorem dX0_write_11 : decode cX0_write 11 = .ok (.aload_n 0, 1) := by decide +kernel
theorem dX0_write_12 : decode cX0_write 12 = .ok (.getfield 22, 3) := by decide +kernel
theorem dX0_write_15 : decode cX0_write 15 = .ok (.iload_n 1, 1) := by decide +kernel
theorem dX0_write_16 : decode cX0_write 16 = .ok (.iload_n 2, 1) := by decide +kernel
theorem dX0_write_17 : decode cX0_write 17 = .ok (.iadd, 1) := by decide +kernel
theorem dX0_write_18 : decode cX0_write 18 = .ok (.iload_n 3, 1) := by decide +kernel
theorem dX0_write_19 : decode cX0_write 19 = .ok (.iastore, 1) := by decide +kernel
theorem dX0_write_20 : decode cX0_write 20 = .ok (.iconst 1, 1) := by decide +kernel
theorem dX0_write_21 : decode cX0_write 21 = .ok (.ireturn, 1) := by decide +kernel
theorem dX0_size_0 : decode cX0_size 0 = .ok (.aload_n 0, 1) := by decide +kernel
theorem dX0_size_1 : decode cX0_size 1 = .ok (.iload_n 1, 1) := by decide +kernel
theorem dX0_size_2 : decode cX0_size 2 = .ok (.invokevirtual 110, 3) := by decide +kernel
theorem dX0_size_5 : decode cX0_size 5 = .ok (.ifCond .eq 12, 3) := by decide +kernel
theorem dX0_size_8 : decode cX0_size 8 = .ok (.aload_n 0, 1) := by decide +kernel
theorem dX0_size_9 : decode cX0_size 9 = .ok (.getfield 26, 3) := by decide +kernel
theorem dX0_size_12 : decode cX0_size 12 = .ok (.iload_n 1, 1) := by decide +kernel
theorem dX0_size_13 : decode cX0_size 13 = .ok (.iaload, 1) := by decide +kernel
theorem dX0_size_14 : decode cX0_size 14 = .ok (.goto 4, 3) := by decide +kernel
theorem dX0_size_17 : decode cX0_size 17 = .ok (.iconst (-1), 1) := by decide +kernel
theorem dX0_size_18 : decode cX0_size 18 = .ok (.ireturn, 1) := by decide +kernel
theorem dX0_state_0 : decode cX0_state 0 = .ok (.aload_n 0, 1) := by decide +kernel
theorem dX0_state_1 : decode cX0_state 1 = .ok (.iload_n 1, 1) := by decide +kernel
theorem dX0_state_2 : decode cX0_state 2 = .ok (.invokevirtual 110, 3) := by decide +kernel
theorem dX0_state_5 : decode cX0_state 5 = .ok (.ifCond .eq 12, 3) := by decide +kernel
theorem dX0_state_8 : decode cX0_state 8 = .ok (.aload_n 0, 1) := by decide +kernel
theorem dX0_state_9 : decode cX0_state 9 = .ok (.getfield 29, 3) := by decide +kernel
theorem dX0_state_12 : decode cX0_state 12 = .ok (.iload_n 1, 1) := by decide +kernel
theorem dX0_state_13 : decode cX0_state 13 = .ok (.iaload, 1) := by decide +kernel
theorem dX0_state_14 : decode cX0_state 14 = .ok (.goto 4, 3) := by decide +kernel
theorem dX0_state_17 : decode cX0_state 17 = .ok (.iconst (-1), 1) := by decide +kernel
theorem dX0_state_18 : decode cX0_state 18 = .ok (.ireturn, 1) := by decide +kernel
theorem dX0_count_0 : decode cX0_count 0 = .ok (.iload_n 1, 1) := by decide +kernel
theorem dX0_count_1 : decode cX0_count 1 = .ok (.ifCond .lt 9, 3) := by decide +kernel
theorem dX0_count_4 : decode cX0_count 4 = .ok (.iload_n 1, 1) := by decide +kernel
theorem dX0_count_5 : decode cX0_count 5 = .ok (.bipush 16, 2) := by decide +kernel
theorem dX0_count_7 : decode cX0_count 7 = .ok (.if_icmp .le 5, 3) := by decide +kernel
theorem dX0_count_10 : decode cX0_count 10 = .ok (.iconst (-1), 1) := by decide +kernel
theorem dX0_count_11 : decode cX0_count 11 = .ok (.ireturn, 1) := by decide +kernel
theorem dX0_count_12 : decode cX0_count 12 = .ok (.iconst 0, 1) := by decide +kernel
theorem dX0_count_13 : decode cX0_count 13 = .ok (.istore_n 2, 1) := by decide +kernel
theorem dX0_count_14 : decode cX0_count 14 = .ok (.iconst 0, 1) := by decide +kernel
theorem dX0_count_15 : decode cX0_count 15 = .ok (.istore_n 3, 1) := by decide +kernel
theorem dX0_count_16 : decode cX0_count 16 = .ok (.iload_n 3, 1) := by decide +kernel
theorem dX0_count_17 : decode cX0_count 17 = .ok (.aload_n 0, 1) := by decide +kernel
theorem dX0_count_18 : decode cX0_count 18 = .ok (.getfield 44, 3) := by decide +kernel
theorem dX0_count_21 : decode cX0_count 21 = .ok (.if_icmp .ge 31, 3) := by decide +kernel
theorem dX0_count_24 : decode cX0_count 24 = .ok (.aload_n 0, 1) := by decide +kernel
theorem dX0_count_25 : decode cX0_count 25 = .ok (.getfield 29, 3) := by decide +kernel
theorem dX0_count_28 : decode cX0_count 28 = .ok (.iload_n 3, 1) := by decide +kernel
theorem dX0_count_29 : decode cX0_count 29 = .ok (.iaload, 1) := by decide +kernel
theorem dX0_count_30 : decode cX0_count 30 = .ok (.iconst (-1), 1) := by decide +kernel
theorem dX0_count_31 : decode cX0_count 31 = .ok (.if_icmp .eq 15, 3) := by decide +kernel
theorem dX0_count_34 : decode cX0_count 34 = .ok (.aload_n 0, 1) := by decide +kernel
theorem dX0_count_35 : decode cX0_count 35 = .ok (.iload_n 1, 1) := by decide +kernel
theorem dX0_count_36 : decode cX0_count 36 = .ok (.iload_n 3, 1) := by decide +kernel
theorem dX0_count_37 : decode cX0_count 37 = .ok (.invokevirtual 113, 3) := by decide +kernel
theorem dX0_count_40 : decode cX0_count 40 = .ok (.ifCond .eq 6, 3) := by decide +kernel
theorem dX0_count_43 : decode cX0_count 43 = .ok (.iinc 2 1, 3) := by decide +kernel
theorem dX0_count_46 : decode cX0_count 46 = .ok (.iinc 3 1, 3) := by decide +kernel
theorem dX0_count_49 : decode cX0_count 49 = .ok (.goto (-33), 3) := by decide +kernel
theorem dX0_count_52 : decode cX0_count 52 = .ok (.iload_n 2, 1) := by decide +kernel
theorem dX0_count_53 : decode cX0_count 53 = .ok (.ireturn, 1) := by decide +kernel
theorem dX0_end_0 : decode cX0_end 0 = .ok (.aload_n 0, 1) := by decide +kernel
theorem dX0_end_1 : decode cX0_end 1 = .ok (.getfield 44, 3) := by decide +kernel
theorem dX0_end_4 : decode cX0_end 4 = .ok (.ireturn, 1) := by decide +kernel
theorem dX0_total_0 : decode cX0_total 0 = .ok (.iload_n 1, 1) := by decide +kernel
theorem dX0_total_1 : decode cX0_total 1 = .ok (.ifCond .lt 8, 3) := by decide +kernel
theorem dX0_total_4 : decode cX0_total 4 = .ok (.iload_n 1, 1) := by decide +kernel
theorem dX0_total_5 : decode cX0_total 5 = .ok (.iconst 4, 1) := by decide +kernel
theorem dX0_total_6 : decode cX0_total 6 = .ok (.if_icmp .le 5, 3) := by decide +kernel
theorem dX0_total_9 : decode cX0_total 9 = .ok (.iconst (-1), 1) := by decide +kernel
theorem dX0_total_10 : decode cX0_total 10 = .ok (.ireturn, 1) := by decide +kernel
theorem dX0_total_11 : decode cX0_total 11 = .ok (.iconst 0, 1) := by decide +kernel
theorem dX0_total_12 : decode cX0_total 12 = .ok (.istore_n 2, 1) := by decide +kernel
theorem dX0_total_13 : decode cX0_total 13 = .ok (.iconst 0, 1) := by decide +kernel
theorem dX0_total_14 : decode cX0_total 14 = .ok (.istore_n 3, 1) := by decide +kernel
theorem dX0_total_15 : decode cX0_total 15 = .ok (.iload_n 3, 1) := by decide +kernel
theorem dX0_total_16 : decode cX0_total 16 = .ok (.aload_n 0, 1) := by decide +kernel
theorem dX0_total_17 : decode cX0_total 17 = .ok (.getfield 44, 3) := by decide +kernel
theorem dX0_total_20 : decode cX0_total 20 = .ok (.if_icmp .ge 28, 3) := by decide +kernel
theorem dX0_total_23 : decode cX0_total 23 = .ok (.aload_n 0, 1) := by decide +kernel
theorem dX0_total_24 : decode cX0_total 24 = .ok (.getfield 29, 3) := by decide +kernel
theorem dX0_total_27 : decode cX0_total 27 = .ok (.iload_n 3, 1) := by decide +kernel
theorem dX0_total_28 : decode cX0_total 28 = .ok (.iaload, 1) := by decide +kernel
theorem dX0_total_29 : decode cX0_total 29 = .ok (.iload_n 1, 1) := by decide +kernel
theorem dX0_total_30 : decode cX0_total 30 = .ok (.if_icmp .ne 12, 3) := by decide +kernel
theorem dX0_total_33 : decode cX0_total 33 = .ok (.iload_n 2, 1) := by decide +kernel
theorem dX0_total_34 : decode cX0_total 34 = .ok (.aload_n 0, 1) := by decide +kernel
theorem dX0_total_35 : decode cX0_total 35 = .ok (.getfield 26, 3) := by decide +kernel
theorem dX0_total_38 : decode cX0_total 38 = .ok (.iload_n 3, 1) := by decide +kernel
theorem dX0_total_39 : decode cX0_total 39 = .ok (.iaload, 1) := by decide +kernel
theorem dX0_total_40 : decode cX0_total 40 = .ok (.iadd, 1) := by decide +kernel
theorem dX0_total_41 : decode cX0_total 41 = .ok (.istore_n 2, 1) := by decide +kernel
theorem dX0_total_42 : decode cX0_total 42 = .ok (.iinc 3 1, 3) := by decide +kernel
theorem dX0_total_45 : decode cX0_total 45 = .ok (.goto (-30), 3) := by decide +kernel
theorem dX0_total_48 : decode cX0_total 48 = .ok (.iload_n 2, 1) := by decide +kernel
theorem dX0_total_49 : decode cX0_total 49 = .ok (.ireturn, 1) := by decide +kernel
theorem dX0_unitsFor_0 : decode cX0_unitsFor 0 = .ok (.iload_n 0, 1) := by decide +kernel
theorem dX0_unitsFor_1 : decode cX0_unitsFor 1 = .ok (.iconst 1, 1) := by decide +kernel
theorem dX0_unitsFor_2 : decode cX0_unitsFor 2 = .ok (.invokestatic 15, 3) := by decide +kernel
theorem dX0_unitsFor_5 : decode cX0_unitsFor 5 = .ok (.iconst 1, 1) := by decide +kernel
theorem dX0_unitsFor_6 : decode cX0_unitsFor 6 = .ok (.iadd, 1) := by decide +kernel
theorem dX0_unitsFor_7 : decode cX0_unitsFor 7 = .ok (.ireturn, 1) := by decide +kernel
theorem dX0_pointerTo_0 : decode cX0_pointerTo 0 = .ok (.iload_n 0, 1) := by decide +kernel
theorem dX0_pointerTo_1 : decode cX0_pointerTo 1 = .ok (.iconst (-1), 1) := by decide +kernel
theorem dX0_pointerTo_2 : decode cX0_pointerTo 2 = .ok (.if_icmp .ne 7, 3) := by decide +kernel
theorem dX0_pointerTo_5 : decode cX0_pointerTo 5 = .ok (.iconst 0, 1) := by decide +kernel
theorem dX0_pointerTo_6 : decode cX0_pointerTo 6 = .ok (.goto 6, 3) := by decide +kernel
theorem dX0_pointerTo_9 : decode cX0_pointerTo 9 = .ok (.iload_n 0, 1) := by decide +kernel
theorem dX0_pointerTo_10 : decode cX0_pointerTo 10 = .ok (.iconst 1, 1) := by decide +kernel
theorem dX0_pointerTo_11 : decode cX0_pointerTo 11 = .ok (.iadd, 1) := by decide +kernel
theorem dX0_pointerTo_12 : decode cX0_pointerTo 12 = .ok (.ireturn, 1) := by decide +kernel
theorem dX0_isAlignment_0 : decode cX0_isAlignment 0 = .ok (.iload_n 0, 1) := by decide +kernel
theorem dX0_isAlignment_1 : decode cX0_isAlignment 1 = .ok (.iconst 2, 1) := by decide +kernel
theorem dX0_isAlignment_2 : decode cX0_isAlignment 2 = .ok (.if_icmp .eq 20, 3) := by decide +kernel
theorem dX0_isAlignment_5 : decode cX0_isAlignment 5 = .ok (.iload_n 0, 1) := by decide +kernel
theorem dX0_isAlignment_6 : decode cX0_isAlignment 6 = .ok (.iconst 4, 1) := by decide +kernel
theorem dX0_isAlignment_7 : decode cX0_isAlignment 7 = .ok (.if_icmp .eq 15, 3) := by decide +kernel
theorem dX0_isAlignment_10 : decode cX0_isAlignment 10 = .ok (.iload_n 0, 1) := by decide +kernel
theorem dX0_isAlignment_11 : decode cX0_isAlignment 11 = .ok (.bipush 8, 2) := by decide +kernel
theorem dX0_isAlignment_13 : decode cX0_isAlignment 13 = .ok (.if_icmp .eq 9, 3) := by decide +kernel
theorem dX0_isAlignment_16 : decode cX0_isAlignment 16 = .ok (.iload_n 0, 1) := by decide +kernel
theorem dX0_isAlignment_17 : decode cX0_isAlignment 17 = .ok (.bipush 16, 2) := by decide +kernel
theorem dX0_isAlignment_19 : decode cX0_isAlignment 19 = .ok (.if_icmp .ne 7, 3) := by decide +kernel
theorem dX0_isAlignment_22 : decode cX0_isAlignment 22 = .ok (.iconst 1, 1) := by decide +kernel
theorem dX0_isAlignment_23 : decode cX0_isAlignment 23 = .ok (.goto 4, 3) := by decide +kernel
theorem dX0_isAlignment_26 : decode cX0_isAlignment 26 = .ok (.iconst 0, 1) := by decide +kernel
theorem dX0_isAlignment_27 : decode cX0_isAlignment 27 = .ok (.ireturn, 1) := by decide +kernel
theorem dX0_unitsInFront_0 : decode cX0_unitsInFront 0 = .ok (.iload_n 0, 1) := by decide +kernel
theorem dX0_unitsInFront_1 : decode cX0_unitsInFront 1 = .ok (.iload_n 1, 1) := by decide +kernel
theorem dX0_unitsInFront_2 : decode cX0_unitsInFront 2 = .ok (.irem, 1) := by decide +kernel
theorem dX0_unitsInFront_3 : decode cX0_unitsInFront 3 = .ok (.istore_n 2, 1) := by decide +kernel
theorem dX0_unitsInFront_4 : decode cX0_unitsInFront 4 = .ok (.iload_n 2, 1) := by decide +kernel
theorem dX0_unitsInFront_5 : decode cX0_unitsInFront 5 = .ok (.ifCond .ne 5, 3) := by decide +kernel
theorem dX0_unitsInFront_8 : decode cX0_unitsInFront 8 = .ok (.iconst 0, 1) := by decide +kernel
theorem dX0_unitsInFront_9 : decode cX0_unitsInFront 9 = .ok (.ireturn, 1) := by decide +kernel
theorem dX0_unitsInFront_10 : decode cX0_unitsInFront 10 = .ok (.iload_n 1, 1) := by decide +kernel
theorem dX0_unitsInFront_11 : decode cX0_unitsInFront 11 = .ok (.iload_n 2, 1) := by decide +kernel
theorem dX0_unitsInFront_12 : decode cX0_unitsInFront 12 = .ok (.isub, 1) := by decide +kernel
theorem dX0_unitsInFront_13 : decode cX0_unitsInFront 13 = .ok (.istore_n 3, 1) := by decide +kernel
theorem dX0_unitsInFront_14 : decode cX0_unitsInFront 14 = .ok (.iload_n 3, 1) := by decide +kernel
theorem dX0_unitsInFront_15 : decode cX0_unitsInFront 15 = .ok (.iconst 2, 1) := by decide +kernel
theorem dX0_unitsInFront_16 : decode cX0_unitsInFront 16 = .ok (.if_icmp .ge 9, 3) := by decide +kernel
theorem dX0_unitsInFront_19 : decode cX0_unitsInFront 19 = .ok (.iload_n 3, 1) := by decide +kernel
theorem dX0_unitsInFront_20 : decode cX0_unitsInFront 20 = .ok (.iload_n 1, 1) := by decide +kernel
theorem dX0_unitsInFront_21 : decode cX0_unitsInFront 21 = .ok (.iadd, 1) := by decide +kernel
theorem dX0_unitsInFront_22 : decode cX0_unitsInFront 22 = .ok (.goto 4, 3) := by decide +kernel
theorem dX0_unitsInFront_25 : decode cX0_unitsInFront 25 = .ok (.iload_n 3, 1) := by decide +kernel
theorem dX0_unitsInFront_26 : decode cX0_unitsInFront 26 = .ok (.ireturn, 1) := by decide +kernel
theorem dX0_isChunk_0 : decode cX0_isChunk 0 = .ok (.iload_n 1, 1) := by decide +kernel
theorem dX0_isChunk_1 : decode cX0_isChunk 1 = .ok (.ifCond .lt 25, 3) := by decide +kernel
theorem dX0_isChunk_4 : decode cX0_isChunk 4 = .ok (.iload_n 1, 1) := by decide +kernel
theorem dX0_isChunk_5 : decode cX0_isChunk 5 = .ok (.aload_n 0, 1) := by decide +kernel
theorem dX0_isChunk_6 : decode cX0_isChunk 6 = .ok (.getfield 44, 3) := by decide +kernel
theorem dX0_isChunk_9 : decode cX0_isChunk 9 = .ok (.if_icmp .ge 17, 3) := by decide +kernel
theorem dX0_isChunk_12 : decode cX0_isChunk 12 = .ok (.aload_n 0, 1) := by decide +kernel
theorem dX0_isChunk_13 : decode cX0_isChunk 13 = .ok (.getfield 29, 3) := by decide +kernel
theorem dX0_isChunk_16 : decode cX0_isChunk 16 = .ok (.iload_n 1, 1) := by decide +kernel
theorem dX0_isChunk_17 : decode cX0_isChunk 17 = .ok (.iaload, 1) := by decide +kernel
theorem dX0_isChunk_18 : decode cX0_isChunk 18 = .ok (.iconst (-1), 1) := by decide +kernel
theorem dX0_isChunk_19 : decode cX0_isChunk 19 = .ok (.if_icmp .eq 7, 3) := by decide +kernel
theorem dX0_isChunk_22 : decode cX0_isChunk 22 = .ok (.iconst 1, 1) := by decide +kernel
theorem dX0_isChunk_23 : decode cX0_isChunk 23 = .ok (.goto 4, 3) := by decide +kernel
theorem dX0_isChunk_26 : decode cX0_isChunk 26 = .ok (.iconst 0, 1) := by decide +kernel
theorem dX0_isChunk_27 : decode cX0_isChunk 27 = .ok (.ireturn, 1) := by decide +kernel
theorem dX0_isFree_0 : decode cX0_isFree 0 = .ok (.aload_n 0, 1) := by decide +kernel
theorem dX0_isFree_1 : decode cX0_isFree 1 = .ok (.iload_n 1, 1) := by decide +kernel
theorem dX0_isFree_2 : decode cX0_isFree 2 = .ok (.invokevirtual 110, 3) := by decide +kernel
theorem dX0_isFree_5 : decode cX0_isFree 5 = .ok (.ifCond .eq 16, 3) := by decide +kernel
theorem dX0_isFree_8 : decode cX0_isFree 8 = .ok (.aload_n 0, 1) := by decide +kernel
theorem dX0_isFree_9 : decode cX0_isFree 9 = .ok (.getfield 29, 3) := by decide +kernel
theorem dX0_isFree_12 : decode cX0_isFree 12 = .ok (.iload_n 1, 1) := by decide +kernel
theorem dX0_isFree_13 : decode cX0_isFree 13 = .ok (.iaload, 1) := by decide +kernel
theorem dX0_isFree_14 : decode cX0_isFree 14 = .ok (.ifCond .eq 7, 3) := by decide +kernel
theorem dX0_isFree_17 : decode cX0_isFree 17 = .ok (.iconst 1, 1) := by decide +kernel
theorem dX0_isFree_18 : decode cX0_isFree 18 = .ok (.goto 4, 3) := by decide +kernel
theorem dX0_isFree_21 : decode cX0_isFree 21 = .ok (.iconst 0, 1) := by decide +kernel
theorem dX0_isFree_22 : decode cX0_isFree 22 = .ok (.ireturn, 1) := by decide +kernel
theorem dX0_isPointer_0 : decode cX0_isPointer 0 = .ok (.aload_n 0, 1) := by decide +kernel
theorem dX0_isPointer_1 : decode cX0_isPointer 1 = .ok (.iload_n 1, 1) := by decide +kernel
theorem dX0_isPointer_2 : decode cX0_isPointer 2 = .ok (.iconst 1, 1) := by decide +kernel
theorem dX0_isPointer_3 : decode cX0_isPointer 3 = .ok (.isub, 1) := by decide +kernel
theorem dX0_isPointer_4 : decode cX0_isPointer 4 = .ok (.invokevirtual 110, 3) := by decide +kernel
theorem dX0_isPointer_7 : decode cX0_isPointer 7 = .ok (.ifCond .eq 18, 3) := by decide +kernel
theorem dX0_isPointer_10 : decode cX0_isPointer 10 = .ok (.aload_n 0, 1) := by decide +kernel
theorem dX0_isPointer_11 : decode cX0_isPointer 11 = .ok (.getfield 29, 3) := by decide +kernel
theorem dX0_isPointer_14 : decode cX0_isPointer 14 = .ok (.iload_n 1, 1) := by decide +kernel
theorem dX0_isPointer_15 : decode cX0_isPointer 15 = .ok (.iconst 1, 1) := by decide +kernel
theorem dX0_isPointer_16 : decode cX0_isPointer 16 = .ok (.isub, 1) := by decide +kernel
theorem dX0_isPointer_17 : decode cX0_isPointer 17 = .ok (.iaload, 1) := by decide +kernel
theorem dX0_isPointer_18 : decode cX0_isPointer 18 = .ok (.ifCond .ne 7, 3) := by decide +kernel
theorem dX0_isPointer_21 : decode cX0_isPointer 21 = .ok (.iconst 1, 1) := by decide +kernel
theorem dX0_isPointer_22 : decode cX0_isPointer 22 = .ok (.goto 4, 3) := by decide +kernel
theorem dX0_isPointer_25 : decode cX0_isPointer 25 = .ok (.iconst 0, 1) := by decide +kernel
theorem dX0_isPointer_26 : decode cX0_isPointer 26 = .ok (.ireturn, 1) := by decide +kernel
theorem dX0_hasData_0 : decode cX0_hasData 0 = .ok (.iload_n 2, 1) := by decide +kernel
theorem dX0_hasData_1 : decode cX0_hasData 1 = .ok (.ifCond .lt 16, 3) := by decide +kernel
theorem dX0_hasData_4 : decode cX0_hasData 4 = .ok (.iload_n 2, 1) := by decide +kernel
theorem dX0_hasData_5 : decode cX0_hasData 5 = .ok (.aload_n 0, 1) := by decide +kernel
theorem dX0_hasData_6 : decode cX0_hasData 6 = .ok (.iload_n 1, 1) := by decide +kernel
theorem dX0_hasData_7 : decode cX0_hasData 7 = .ok (.invokevirtual 70, 3) := by decide +kernel
theorem dX0_hasData_10 : decode cX0_hasData 10 = .ok (.if_icmp .ge 7, 3) := by decide +kernel
theorem dX0_hasData_13 : decode cX0_hasData 13 = .ok (.iconst 1, 1) := by decide +kernel
theorem dX0_hasData_14 : decode cX0_hasData 14 = .ok (.goto 4, 3) := by decide +kernel
theorem dX0_hasData_17 : decode cX0_hasData 17 = .ok (.iconst 0, 1) := by decide +kernel
theorem dX0_hasData_18 : decode cX0_hasData 18 = .ok (.ireturn, 1) := by decide +kernel
theorem dX0_isCountedBy_0 : decode cX0_isCountedBy 0 = .ok (.iload_n 1, 1) := by decide +kernel
theorem dX0_isCountedBy_1 : decode cX0_isCountedBy 1 = .ok (.lookupswitch 68 #[(0, 35), (1, 50), (16, 52)], 35) := by decide +kernel
theorem dX0_isCountedBy_36 : decode cX0_isCountedBy 36 = .ok (.aload_n 0, 1) := by decide +kernel
theorem dX0_isCountedBy_37 : decode cX0_isCountedBy 37 = .ok (.getfield 29, 3) := by decide +kernel
theorem dX0_isCountedBy_40 : decode cX0_isCountedBy 40 = .ok (.iload_n 2, 1) := by decide +kernel
theorem dX0_isCountedBy_41 : decode cX0_isCountedBy 41 = .ok (.iaload, 1) := by decide +kernel
theorem dX0_isCountedBy_42 : decode cX0_isCountedBy 42 = .ok (.ifCond .ne 7, 3) := by decide +kernel
theorem dX0_isCountedBy_45 : decode cX0_isCountedBy 45 = .ok (.iconst 1, 1) := by decide +kernel
theorem dX0_isCountedBy_46 : decode cX0_isCountedBy 46 = .ok (.goto 4, 3) := by decide +kernel
theorem dX0_isCountedBy_49 : decode cX0_isCountedBy 49 = .ok (.iconst 0, 1) := by decide +kernel
theorem dX0_isCountedBy_50 : decode cX0_isCountedBy 50 = .ok (.ireturn, 1) := by decide +kernel
theorem dX0_isCountedBy_51 : decode cX0_isCountedBy 51 = .ok (.iconst 1, 1) := by decide +kernel
theorem dX0_isCountedBy_52 : decode cX0_isCountedBy 52 = .ok (.ireturn, 1) := by decide +kernel
theorem dX0_isCountedBy_53 : decode cX0_isCountedBy 53 = .ok (.aload_n 0, 1) := by decide +kernel
theorem dX0_isCountedBy_54 : decode cX0_isCountedBy 54 = .ok (.getfield 29, 3) := by decide +kernel
theorem dX0_isCountedBy_57 : decode cX0_isCountedBy 57 = .ok (.iload_n 2, 1) := by decide +kernel
theorem dX0_isCountedBy_58 : decode cX0_isCountedBy 58 = .ok (.iaload, 1) := by decide +kernel
theorem dX0_isCountedBy_59 : decode cX0_isCountedBy 59 = .ok (.iconst 2, 1) := by decide +kernel
theorem dX0_isCountedBy_60 : decode cX0_isCountedBy 60 = .ok (.if_icmp .ne 7, 3) := by decide +kernel
theorem dX0_isCountedBy_63 : decode cX0_isCountedBy 63 = .ok (.iconst 1, 1) := by decide +kernel
theorem dX0_isCountedBy_64 : decode cX0_isCountedBy 64 = .ok (.goto 4, 3) := by decide +kernel
theorem dX0_isCountedBy_67 : decode cX0_isCountedBy 67 = .ok (.iconst 0, 1) := by decide +kernel
theorem dX0_isCountedBy_68 : decode cX0_isCountedBy 68 = .ok (.ireturn, 1) := by decide +kernel
theorem dX0_isCountedBy_69 : decode cX0_isCountedBy 69 = .ok (.aload_n 0, 1) := by decide +kernel
theorem dX0_isCountedBy_70 : decode cX0_isCountedBy 70 = .ok (.getfield 29, 3) := by decide +kernel
theorem dX0_isCountedBy_73 : decode cX0_isCountedBy 73 = .ok (.iload_n 2, 1) := by decide +kernel
theorem dX0_isCountedBy_74 : decode cX0_isCountedBy 74 = .ok (.iaload, 1) := by decide +kernel
theorem dX0_isCountedBy_75 : decode cX0_isCountedBy 75 = .ok (.iconst 1, 1) := by decide +kernel
theorem dX0_isCountedBy_76 : decode cX0_isCountedBy 76 = .ok (.if_icmp .ne 17, 3) := by decide +kernel
theorem dX0_isCountedBy_79 : decode cX0_isCountedBy 79 = .ok (.aload_n 0, 1) := by decide +kernel
theorem dX0_isCountedBy_80 : decode cX0_isCountedBy 80 = .ok (.getfield 26, 3) := by decide +kernel
theorem dX0_isCountedBy_83 : decode cX0_isCountedBy 83 = .ok (.iload_n 2, 1) := by decide +kernel
theorem dX0_isCountedBy_84 : decode cX0_isCountedBy 84 = .ok (.iaload, 1) := by decide +kernel
theorem dX0_isCountedBy_85 : decode cX0_isCountedBy 85 = .ok (.iload_n 1, 1) := by decide +kernel
theorem dX0_isCountedBy_86 : decode cX0_isCountedBy 86 = .ok (.if_icmp .ne 7, 3) := by decide +kernel
theorem dX0_isCountedBy_89 : decode cX0_isCountedBy 89 = .ok (.iconst 1, 1) := by decide +kernel
theorem dX0_isCountedBy_90 : decode cX0_isCountedBy 90 = .ok (.goto 4, 3) := by decide +kernel
theorem dX0_isCountedBy_93 : decode cX0_isCountedBy 93 = .ok (.iconst 0, 1) := by decide +kernel
theorem dX0_isCountedBy_94 : decode cX0_isCountedBy 94 = .ok (.ireturn, 1) := by decide +kernel
theorem dX0_sizeAt_0 : decode cX0_sizeAt 0 = .ok (.iload_n 1, 1) := by decide +kernel
theorem dX0_sizeAt_1 : decode cX0_sizeAt 1 = .ok (.iconst (-1), 1) := by decide +kernel
theorem dX0_sizeAt_2 : decode cX0_sizeAt 2 = .ok (.if_icmp .ne 7, 3) := by decide +kernel
theorem dX0_sizeAt_5 : decode cX0_sizeAt 5 = .ok (.iconst 0, 1) := by decide +kernel
theorem dX0_sizeAt_6 : decode cX0_sizeAt 6 = .ok (.goto 9, 3) := by decide +kernel
theorem dX0_sizeAt_9 : decode cX0_sizeAt 9 = .ok (.aload_n 0, 1) := by decide +kernel
theorem dX0_sizeAt_10 : decode cX0_sizeAt 10 = .ok (.getfield 26, 3) := by decide +kernel
theorem dX0_sizeAt_13 : decode cX0_sizeAt 13 = .ok (.iload_n 1, 1) := by decide +kernel
theorem dX0_sizeAt_14 : decode cX0_sizeAt 14 = .ok (.iaload, 1) := by decide +kernel
theorem dX0_sizeAt_15 : decode cX0_sizeAt 15 = .ok (.ireturn, 1) := by decide +kernel
theorem dX0_take_0 : decode cX0_take 0 = .ok (.iload_n 1, 1) := by decide +kernel
theorem dX0_take_1 : decode cX0_take 1 = .ok (.bipush 16, 2) := by decide +kernel
theorem dX0_take_3 : decode cX0_take 3 = .ok (.if_icmp .ge 11, 3) := by decide +kernel
theorem dX0_take_6 : decode cX0_take 6 = .ok (.aload_n 0, 1) := by decide +kernel
theorem dX0_take_7 : decode cX0_take 7 = .ok (.iload_n 1, 1) := by decide +kernel
theorem dX0_take_8 : decode cX0_take 8 = .ok (.invokevirtual 116, 3) := by decide +kernel
theorem dX0_take_11 : decode cX0_take 11 = .ok (.goto 8, 3) := by decide +kernel
theorem dX0_take_14 : decode cX0_take 14 = .ok (.aload_n 0, 1) := by decide +kernel
theorem dX0_take_15 : decode cX0_take 15 = .ok (.iload_n 1, 1) := by decide +kernel
theorem dX0_take_16 : decode cX0_take 16 = .ok (.invokevirtual 119, 3) := by decide +kernel
theorem dX0_take_19 : decode cX0_take 19 = .ok (.istore_n 2, 1) := by decide +kernel
theorem dX0_take_20 : decode cX0_take 20 = .ok (.iload_n 2, 1) := by decide +kernel
theorem dX0_take_21 : decode cX0_take 21 = .ok (.iconst (-1), 1) := by decide +kernel
theorem dX0_take_22 : decode cX0_take 22 = .ok (.if_icmp .eq 7, 3) := by decide +kernel
theorem dX0_take_25 : decode cX0_take 25 = .ok (.iload_n 2, 1) := by decide +kernel
theorem dX0_take_26 : decode cX0_take 26 = .ok (.goto 8, 3) := by decide +kernel
theorem dX0_take_29 : decode cX0_take 29 = .ok (.aload_n 0, 1) := by decide +kernel
theorem dX0_take_30 : decode cX0_take 30 = .ok (.iload_n 1, 1) := by decide +kernel
theorem dX0_take_31 : decode cX0_take 31 = .ok (.invokevirtual 122, 3) := by decide +kernel
theorem dX0_take_34 : decode cX0_take 34 = .ok (.ireturn, 1) := by decide +kernel
theorem dX0_takeSmall_0 : decode cX0_takeSmall 0 = .ok (.aload_n 0, 1) := by decide +kernel
theorem dX0_takeSmall_1 : decode cX0_takeSmall 1 = .ok (.iload_n 1, 1) := by decide +kernel
theorem dX0_takeSmall_2 : decode cX0_takeSmall 2 = .ok (.invokevirtual 125, 3) := by decide +kernel
theorem dX0_takeSmall_5 : decode cX0_takeSmall 5 = .ok (.istore_n 2, 1) := by decide +kernel
theorem dX0_takeSmall_6 : decode cX0_takeSmall 6 = .ok (.iload_n 2, 1) := by decide +kernel
theorem dX0_takeSmall_7 : decode cX0_takeSmall 7 = .ok (.iconst (-1), 1) := by decide +kernel
theorem dX0_takeSmall_8 : decode cX0_takeSmall 8 = .ok (.if_icmp .eq 33, 3) := by decide +kernel
theorem dX0_takeSmall_11 : decode cX0_takeSmall 11 = .ok (.aload_n 0, 1) := by decide +kernel
theorem dX0_takeSmall_12 : decode cX0_takeSmall 12 = .ok (.getfield 29, 3) := by decide +kernel
theorem dX0_takeSmall_15 : decode cX0_takeSmall 15 = .ok (.iload_n 2, 1) := by decide +kernel
theorem dX0_takeSmall_16 : decode cX0_takeSmall 16 = .ok (.iaload, 1) := by decide +kernel
theorem dX0_takeSmall_17 : decode cX0_takeSmall 17 = .ok (.iconst 1, 1) := by decide +kernel
theorem dX0_takeSmall_18 : decode cX0_takeSmall 18 = .ok (.if_icmp .ne 23, 3) := by decide +kernel
theorem dX0_takeSmall_21 : decode cX0_takeSmall 21 = .ok (.aload_n 0, 1) := by decide +kernel
theorem dX0_takeSmall_22 : decode cX0_takeSmall 22 = .ok (.getfield 26, 3) := by decide +kernel
theorem dX0_takeSmall_25 : decode cX0_takeSmall 25 = .ok (.iload_n 2, 1) := by decide +kernel
theorem dX0_takeSmall_26 : decode cX0_takeSmall 26 = .ok (.iaload, 1) := by decide +kernel
theorem dX0_takeSmall_27 : decode cX0_takeSmall 27 = .ok (.iload_n 1, 1) := by decide +kernel
theorem dX0_takeSmall_28 : decode cX0_takeSmall 28 = .ok (.isub, 1) := by decide +kernel
theorem dX0_takeSmall_29 : decode cX0_takeSmall 29 = .ok (.iconst 2, 1) := by decide +kernel
theorem dX0_takeSmall_30 : decode cX0_takeSmall 30 = .ok (.if_icmp .ge 11, 3) := by decide +kernel
theorem dX0_takeSmall_33 : decode cX0_takeSmall 33 = .ok (.aload_n 0, 1) := by decide +kernel
theorem dX0_takeSmall_34 : decode cX0_takeSmall 34 = .ok (.iload_n 2, 1) := by decide +kernel
theorem dX0_takeSmall_35 : decode cX0_takeSmall 35 = .ok (.iload_n 1, 1) := by decide +kernel
theorem dX0_takeSmall_36 : decode cX0_takeSmall 36 = .ok (.iconst 2, 1) := by decide +kernel
theorem dX0_takeSmall_37 : decode cX0_takeSmall 37 = .ok (.invokevirtual 97, 3) := by decide +kernel
theorem dX0_takeSmall_40 : decode cX0_takeSmall 40 = .ok (.ireturn, 1) := by decide +kernel
theorem dX0_takeSmall_41 : decode cX0_takeSmall 41 = .ok (.aload_n 0, 1) := by decide +kernel
theorem dX0_takeSmall_42 : decode cX0_takeSmall 42 = .ok (.aload_n 0, 1) := by decide +kernel
theorem dX0_takeSmall_43 : decode cX0_takeSmall 43 = .ok (.getfield 47, 3) := by decide +kernel
theorem dX0_takeSmall_46 : decode cX0_takeSmall 46 = .ok (.invokevirtual 101, 3) := by decide +kernel
theorem dX0_takeSmall_49 : decode cX0_takeSmall 49 = .ok (.iload_n 1, 1) := by decide +kernel
theorem dX0_takeSmall_50 : decode cX0_takeSmall 50 = .ok (.if_icmp .lt 14, 3) := by decide +kernel
theorem dX0_takeSmall_53 : decode cX0_takeSmall 53 = .ok (.aload_n 0, 1) := by decide +kernel
theorem dX0_takeSmall_54 : decode cX0_takeSmall 54 = .ok (.aload_n 0, 1) := by decide +kernel
theorem dX0_takeSmall_55 : decode cX0_takeSmall 55 = .ok (.getfield 47, 3) := by decide +kernel
theorem dX0_takeSmall_58 : decode cX0_takeSmall 58 = .ok (.iload_n 1, 1) := by decide +kernel
theorem dX0_takeSmall_59 : decode cX0_takeSmall 59 = .ok (.iconst 3, 1) := by decide +kernel
theorem dX0_takeSmall_60 : decode cX0_takeSmall 60 = .ok (.invokevirtual 97, 3) := by decide +kernel
theorem dX0_takeSmall_63 : decode cX0_takeSmall 63 = .ok (.ireturn, 1) := by decide +kernel
theorem dX0_takeSmall_64 : decode cX0_takeSmall 64 = .ok (.iload_n 2, 1) := by decide +kernel
theorem dX0_takeSmall_65 : decode cX0_takeSmall 65 = .ok (.iconst (-1), 1) := by decide +kernel
theorem dX0_takeSmall_66 : decode cX0_takeSmall 66 = .ok (.if_icmp .ne 7, 3) := by decide +kernel
theorem dX0_takeSmall_69 : decode cX0_takeSmall 69 = .ok (.iconst (-1), 1) := by decide +kernel
theorem dX0_takeSmall_70 : decode cX0_takeSmall 70 = .ok (.goto 9, 3) := by decide +kernel
theorem dX0_takeSmall_73 : decode cX0_takeSmall 73 = .ok (.aload_n 0, 1) := by decide +kernel
theorem dX0_takeSmall_74 : decode cX0_takeSmall 74 = .ok (.iload_n 2, 1) := by decide +kernel
theorem dX0_takeSmall_75 : decode cX0_takeSmall 75 = .ok (.iload_n 1, 1) := by decide +kernel
theorem dX0_takeSmall_76 : decode cX0_takeSmall 76 = .ok (.invokevirtual 128, 3) := by decide +kernel
theorem dX0_takeSmall_79 : decode cX0_takeSmall 79 = .ok (.ireturn, 1) := by decide +kernel
theorem dX0_takeLarge_0 : decode cX0_takeLarge 0 = .ok (.aload_n 0, 1) := by decide +kernel
theorem dX0_takeLarge_1 : decode cX0_takeLarge 1 = .ok (.iload_n 1, 1) := by decide +kernel
theorem dX0_takeLarge_2 : decode cX0_takeLarge 2 = .ok (.invokevirtual 125, 3) := by decide +kernel
theorem dX0_takeLarge_5 : decode cX0_takeLarge 5 = .ok (.istore_n 2, 1) := by decide +kernel
theorem dX0_takeLarge_6 : decode cX0_takeLarge 6 = .ok (.aload_n 0, 1) := by decide +kernel
theorem dX0_takeLarge_7 : decode cX0_takeLarge 7 = .ok (.aload_n 0, 1) := by decide +kernel
theorem dX0_takeLarge_8 : decode cX0_takeLarge 8 = .ok (.getfield 47, 3) := by decide +kernel
theorem dX0_takeLarge_11 : decode cX0_takeLarge 11 = .ok (.invokevirtual 101, 3) := by decide +kernel
theorem dX0_takeLarge_14 : decode cX0_takeLarge 14 = .ok (.iload_n 1, 1) := by decide +kernel
theorem dX0_takeLarge_15 : decode cX0_takeLarge 15 = .ok (.if_icmp .lt 7, 3) := by decide +kernel
theorem dX0_takeLarge_18 : decode cX0_takeLarge 18 = .ok (.iconst 1, 1) := by decide +kernel
theorem dX0_takeLarge_19 : decode cX0_takeLarge 19 = .ok (.goto 4, 3) := by decide +kernel
theorem dX0_takeLarge_22 : decode cX0_takeLarge 22 = .ok (.iconst 0, 1) := by decide +kernel
theorem dX0_takeLarge_23 : decode cX0_takeLarge 23 = .ok (.istore_n 3, 1) := by decide +kernel
theorem dX0_takeLarge_24 : decode cX0_takeLarge 24 = .ok (.iload_n 2, 1) := by decide +kernel
theorem dX0_takeLarge_25 : decode cX0_takeLarge 25 = .ok (.iconst (-1), 1) := by decide +kernel
theorem dX0_takeLarge_26 : decode cX0_takeLarge 26 = .ok (.if_icmp .eq 33, 3) := by decide +kernel
theorem dX0_takeLarge_29 : decode cX0_takeLarge 29 = .ok (.iload_n 3, 1) := by decide +kernel
theorem dX0_takeLarge_30 : decode cX0_takeLarge 30 = .ok (.ifCond .eq 21, 3) := by decide +kernel
theorem dX0_takeLarge_33 : decode cX0_takeLarge 33 = .ok (.aload_n 0, 1) := by decide +kernel
theorem dX0_takeLarge_34 : decode cX0_takeLarge 34 = .ok (.getfield 26, 3) := by decide +kernel
theorem dX0_takeLarge_37 : decode cX0_takeLarge 37 = .ok (.iload_n 2, 1) := by decide +kernel
theorem dX0_takeLarge_38 : decode cX0_takeLarge 38 = .ok (.iaload, 1) := by decide +kernel
theorem dX0_takeLarge_39 : decode cX0_takeLarge 39 = .ok (.aload_n 0, 1) := by decide +kernel
theorem dX0_takeLarge_40 : decode cX0_takeLarge 40 = .ok (.getfield 26, 3) := by decide +kernel
theorem dX0_takeLarge_43 : decode cX0_takeLarge 43 = .ok (.aload_n 0, 1) := by decide +kernel
theorem dX0_takeLarge_44 : decode cX0_takeLarge 44 = .ok (.getfield 47, 3) := by decide +kernel
theorem dX0_takeLarge_47 : decode cX0_takeLarge 47 = .ok (.iaload, 1) := by decide +kernel
theorem dX0_takeLarge_48 : decode cX0_takeLarge 48 = .ok (.if_icmp .ge 11, 3) := by decide +kernel
theorem dX0_takeLarge_51 : decode cX0_takeLarge 51 = .ok (.aload_n 0, 1) := by decide +kernel
theorem dX0_takeLarge_52 : decode cX0_takeLarge 52 = .ok (.iload_n 2, 1) := by decide +kernel
theorem dX0_takeLarge_53 : decode cX0_takeLarge 53 = .ok (.iload_n 1, 1) := by decide +kernel
theorem dX0_takeLarge_54 : decode cX0_takeLarge 54 = .ok (.iconst 2, 1) := by decide +kernel
theorem dX0_takeLarge_55 : decode cX0_takeLarge 55 = .ok (.invokevirtual 97, 3) := by decide +kernel
theorem dX0_takeLarge_58 : decode cX0_takeLarge 58 = .ok (.ireturn, 1) := by decide +kernel
theorem dX0_takeLarge_59 : decode cX0_takeLarge 59 = .ok (.iload_n 3, 1) := by decide +kernel
theorem dX0_takeLarge_60 : decode cX0_takeLarge 60 = .ok (.ifCond .eq 16, 3) := by decide +kernel
theorem dX0_takeLarge_63 : decode cX0_takeLarge 63 = .ok (.aload_n 0, 1) := by decide +kernel
theorem dX0_takeLarge_64 : decode cX0_takeLarge 64 = .ok (.aload_n 0, 1) := by decide +kernel
theorem dX0_takeLarge_65 : decode cX0_takeLarge 65 = .ok (.getfield 47, 3) := by decide +kernel
theorem dX0_takeLarge_68 : decode cX0_takeLarge 68 = .ok (.iload_n 1, 1) := by decide +kernel
theorem dX0_takeLarge_69 : decode cX0_takeLarge 69 = .ok (.iconst 3, 1) := by decide +kernel
theorem dX0_takeLarge_70 : decode cX0_takeLarge 70 = .ok (.invokevirtual 97, 3) := by decide +kernel
theorem dX0_takeLarge_73 : decode cX0_takeLarge 73 = .ok (.goto 4, 3) := by decide +kernel
theorem dX0_takeLarge_76 : decode cX0_takeLarge 76 = .ok (.iconst (-1), 1) := by decide +kernel
theorem dX0_takeLarge_77 : decode cX0_takeLarge 77 = .ok (.ireturn, 1) := by decide +kernel
theorem dX0_takeFromTop_0 : decode cX0_takeFromTop 0 = .ok (.iload_n 1, 1) := by decide +kernel
theorem dX0_takeFromTop_1 : decode cX0_takeFromTop 1 = .ok (.aload_n 0, 1) := by decide +kernel
theorem dX0_takeFromTop_2 : decode cX0_takeFromTop 2 = .ok (.aload_n 0, 1) := by decide +kernel
theorem dX0_takeFromTop_3 : decode cX0_takeFromTop 3 = .ok (.getfield 50, 3) := by decide +kernel
theorem dX0_takeFromTop_6 : decode cX0_takeFromTop 6 = .ok (.invokevirtual 101, 3) := by decide +kernel
theorem dX0_takeFromTop_9 : decode cX0_takeFromTop 9 = .ok (.isub, 1) := by decide +kernel
theorem dX0_takeFromTop_10 : decode cX0_takeFromTop 10 = .ok (.istore_n 2, 1) := by decide +kernel
theorem dX0_takeFromTop_11 : decode cX0_takeFromTop 11 = .ok (.iload_n 2, 1) := by decide +kernel
theorem dX0_takeFromTop_12 : decode cX0_takeFromTop 12 = .ok (.ifCond .le 13, 3) := by decide +kernel
theorem dX0_takeFromTop_15 : decode cX0_takeFromTop 15 = .ok (.aload_n 0, 1) := by decide +kernel
theorem dX0_takeFromTop_16 : decode cX0_takeFromTop 16 = .ok (.iload_n 2, 1) := by decide +kernel
theorem dX0_takeFromTop_17 : decode cX0_takeFromTop 17 = .ok (.invokevirtual 131, 3) := by decide +kernel
theorem dX0_takeFromTop_20 : decode cX0_takeFromTop 20 = .ok (.ifCond .ne 5, 3) := by decide +kernel
theorem dX0_takeFromTop_23 : decode cX0_takeFromTop 23 = .ok (.iconst (-1), 1) := by decide +kernel
theorem dX0_takeFromTop_24 : decode cX0_takeFromTop 24 = .ok (.ireturn, 1) := by decide +kernel
theorem dX0_takeFromTop_25 : decode cX0_takeFromTop 25 = .ok (.aload_n 0, 1) := by decide +kernel
theorem dX0_takeFromTop_26 : decode cX0_takeFromTop 26 = .ok (.aload_n 0, 1) := by decide +kernel
theorem dX0_takeFromTop_27 : decode cX0_takeFromTop 27 = .ok (.getfield 50, 3) := by decide +kernel
theorem dX0_takeFromTop_30 : decode cX0_takeFromTop 30 = .ok (.iload_n 1, 1) := by decide +kernel
theorem dX0_takeFromTop_31 : decode cX0_takeFromTop 31 = .ok (.iconst 4, 1) := by decide +kernel
theorem dX0_takeFromTop_32 : decode cX0_takeFromTop 32 = .ok (.invokevirtual 97, 3) := by decide +kernel
theorem dX0_takeFromTop_35 : decode cX0_takeFromTop 35 = .ok (.ireturn, 1) := by decide +kernel
theorem dX0_cutForVictim_0 : decode cX0_cutForVictim 0 = .ok (.aload_n 0, 1) := by decide +kernel
theorem dX0_cutForVictim_1 : decode cX0_cutForVictim 1 = .ok (.getfield 47, 3) := by decide +kernel
theorem dX0_cutForVictim_4 : decode cX0_cutForVictim 4 = .ok (.istore_n 3, 1) := by decide +kernel
theorem dX0_cutForVictim_5 : decode cX0_cutForVictim 5 = .ok (.aload_n 0, 1) := by decide +kernel
theorem dX0_cutForVictim_6 : decode cX0_cutForVictim 6 = .ok (.iload_n 1, 1) := by decide +kernel
theorem dX0_cutForVictim_7 : decode cX0_cutForVictim 7 = .ok (.iload_n 2, 1) := by decide +kernel
theorem dX0_cutForVictim_8 : decode cX0_cutForVictim 8 = .ok (.iconst 3, 1) := by decide +kernel
theorem dX0_cutForVictim_9 : decode cX0_cutForVictim 9 = .ok (.invokevirtual 97, 3) := by decide +kernel
theorem dX0_cutForVictim_12 : decode cX0_cutForVictim 12 = .ok (.pop, 1) := by decide +kernel
theorem dX0_cutForVictim_13 : decode cX0_cutForVictim 13 = .ok (.iload_n 3, 1) := by decide +kernel
theorem dX0_cutForVictim_14 : decode cX0_cutForVictim 14 = .ok (.iconst (-1), 1) := by decide +kernel
theorem dX0_cutForVictim_15 : decode cX0_cutForVictim 15 = .ok (.if_icmp .eq 23, 3) := by decide +kernel
theorem dX0_cutForVictim_18 : decode cX0_cutForVictim 18 = .ok (.iload_n 3, 1) := by decide +kernel
theorem dX0_cutForVictim_19 : decode cX0_cutForVictim 19 = .ok (.aload_n 0, 1) := by decide +kernel
theorem dX0_cutForVictim_20 : decode cX0_cutForVictim 20 = .ok (.getfield 47, 3) := by decide +kernel
theorem dX0_cutForVictim_23 : decode cX0_cutForVictim 23 = .ok (.if_icmp .eq 15, 3) := by decide +kernel
theorem dX0_cutForVictim_26 : decode cX0_cutForVictim 26 = .ok (.aload_n 0, 1) := by decide +kernel
theorem dX0_cutForVictim_27 : decode cX0_cutForVictim 27 = .ok (.iload_n 3, 1) := by decide +kernel
theorem dX0_cutForVictim_28 : decode cX0_cutForVictim 28 = .ok (.aload_n 0, 1) := by decide +kernel
theorem dX0_cutForVictim_29 : decode cX0_cutForVictim 29 = .ok (.getfield 26, 3) := by decide +kernel
theorem dX0_cutForVictim_32 : decode cX0_cutForVictim 32 = .ok (.iload_n 3, 1) := by decide +kernel
theorem dX0_cutForVictim_33 : decode cX0_cutForVictim 33 = .ok (.iaload, 1) := by decide +kernel
theorem dX0_cutForVictim_34 : decode cX0_cutForVictim 34 = .ok (.iconst 2, 1) := by decide +kernel
theorem dX0_cutForVictim_35 : decode cX0_cutForVictim 35 = .ok (.invokevirtual 134, 3) := by decide +kernel
theorem dX0_cutForVictim_38 : decode cX0_cutForVictim 38 = .ok (.iload_n 1, 1) := by decide +kernel
theorem dX0_cutForVictim_39 : decode cX0_cutForVictim 39 = .ok (.ireturn, 1) := by decide +kernel
theorem dX0_bestStored_0 : decode cX0_bestStored 0 = .ok (.iconst (-1), 1) := by decide +kernel
theorem dX0_bestStored_1 : decode cX0_bestStored 1 = .ok (.istore_n 2, 1) := by decide +kernel
theorem dX0_bestStored_2 : decode cX0_bestStored 2 = .ok (.iconst 0, 1) := by decide +kernel
theorem dX0_bestStored_3 : decode cX0_bestStored 3 = .ok (.istore_n 3, 1) := by decide +kernel
theorem dX0_bestStored_4 : decode cX0_bestStored 4 = .ok (.iload_n 3, 1) := by decide +kernel
theorem dX0_bestStored_5 : decode cX0_bestStored 5 = .ok (.aload_n 0, 1) := by decide +kernel
theorem dX0_bestStored_6 : decode cX0_bestStored 6 = .ok (.getfield 44, 3) := by decide +kernel
theorem dX0_bestStored_9 : decode cX0_bestStored 9 = .ok (.if_icmp .ge 43, 3) := by decide +kernel
theorem dX0_bestStored_12 : decode cX0_bestStored 12 = .ok (.aload_n 0, 1) := by decide +kernel
theorem dX0_bestStored_13 : decode cX0_bestStored 13 = .ok (.iload_n 3, 1) := by decide +kernel
theorem dX0_bestStored_14 : decode cX0_bestStored 14 = .ok (.invokevirtual 138, 3) := by decide +kernel
theorem dX0_bestStored_17 : decode cX0_bestStored 17 = .ok (.ifCond .eq 29, 3) := by decide +kernel
theorem dX0_bestStored_20 : decode cX0_bestStored 20 = .ok (.aload_n 0, 1) := by decide +kernel
theorem dX0_bestStored_21 : decode cX0_bestStored 21 = .ok (.getfield 26, 3) := by decide +kernel
theorem dX0_bestStored_24 : decode cX0_bestStored 24 = .ok (.iload_n 3, 1) := by decide +kernel
theorem dX0_bestStored_25 : decode cX0_bestStored 25 = .ok (.iaload, 1) := by decide +kernel
theorem dX0_bestStored_26 : decode cX0_bestStored 26 = .ok (.iload_n 1, 1) := by decide +kernel
theorem dX0_bestStored_27 : decode cX0_bestStored 27 = .ok (.if_icmp .lt 19, 3) := by decide +kernel
theorem dX0_bestStored_30 : decode cX0_bestStored 30 = .ok (.iload_n 2, 1) := by decide +kernel
theorem dX0_bestStored_31 : decode cX0_bestStored 31 = .ok (.iconst (-1), 1) := by decide +kernel
theorem dX0_bestStored_32 : decode cX0_bestStored 32 = .ok (.if_icmp .eq 12, 3) := by decide +kernel
theorem dX0_bestStored_35 : decode cX0_bestStored 35 = .ok (.aload_n 0, 1) := by decide +kernel
theorem dX0_bestStored_36 : decode cX0_bestStored 36 = .ok (.iload_n 3, 1) := by decide +kernel
theorem dX0_bestStored_37 : decode cX0_bestStored 37 = .ok (.iload_n 2, 1) := by decide +kernel
theorem dX0_bestStored_38 : decode cX0_bestStored 38 = .ok (.invokevirtual 141, 3) := by decide +kernel
theorem dX0_bestStored_41 : decode cX0_bestStored 41 = .ok (.ifCond .eq 5, 3) := by decide +kernel
theorem dX0_bestStored_44 : decode cX0_bestStored 44 = .ok (.iload_n 3, 1) := by decide +kernel
theorem dX0_bestStored_45 : decode cX0_bestStored 45 = .ok (.istore_n 2, 1) := by decide +kernel
theorem dX0_bestStored_46 : decode cX0_bestStored 46 = .ok (.iinc 3 1, 3) := by decide +kernel
theorem dX0_bestStored_49 : decode cX0_bestStored 49 = .ok (.goto (-45), 3) := by decide +kernel
theorem dX0_bestStored_52 : decode cX0_bestStored 52 = .ok (.iload_n 2, 1) := by decide +kernel
theorem dX0_bestStored_53 : decode cX0_bestStored 53 = .ok (.ireturn, 1) := by decide +kernel
theorem dX0_isStored_0 : decode cX0_isStored 0 = .ok (.aload_n 0, 1) := by decide +kernel
theorem dX0_isStored_1 : decode cX0_isStored 1 = .ok (.getfield 29, 3) := by decide +kernel
theorem dX0_isStored_4 : decode cX0_isStored 4 = .ok (.iload_n 1, 1) := by decide +kernel
theorem dX0_isStored_5 : decode cX0_isStored 5 = .ok (.iaload, 1) := by decide +kernel
theorem dX0_isStored_6 : decode cX0_isStored 6 = .ok (.iconst 1, 1) := by decide +kernel
theorem dX0_isStored_7 : decode cX0_isStored 7 = .ok (.if_icmp .eq 13, 3) := by decide +kernel
theorem dX0_isStored_10 : decode cX0_isStored 10 = .ok (.aload_n 0, 1) := by decide +kernel
theorem dX0_isStored_11 : decode cX0_isStored 11 = .ok (.getfield 29, 3) := by decide +kernel
theorem dX0_isStored_14 : decode cX0_isStored 14 = .ok (.iload_n 1, 1) := by decide +kernel
theorem dX0_isStored_15 : decode cX0_isStored 15 = .ok (.iaload, 1) := by decide +kernel
theorem dX0_isStored_16 : decode cX0_isStored 16 = .ok (.iconst 2, 1) := by decide +kernel
theorem dX0_isStored_17 : decode cX0_isStored 17 = .ok (.if_icmp .ne 7, 3) := by decide +kernel
theorem dX0_isStored_20 : decode cX0_isStored 20 = .ok (.iconst 1, 1) := by decide +kernel
theorem dX0_isStored_21 : decode cX0_isStored 21 = .ok (.goto 4, 3) := by decide +kernel
theorem dX0_isStored_24 : decode cX0_isStored 24 = .ok (.iconst 0, 1) := by decide +kernel
theorem dX0_isStored_25 : decode cX0_isStored 25 = .ok (.ireturn, 1) := by decide +kernel
theorem dX0_isBetter_0 : decode cX0_isBetter 0 = .ok (.aload_n 0, 1) := by decide +kernel
theorem dX0_isBetter_1 : decode cX0_isBetter 1 = .ok (.getfield 26, 3) := by decide +kernel
theorem dX0_isBetter_4 : decode cX0_isBetter 4 = .ok (.iload_n 1, 1) := by decide +kernel
theorem dX0_isBetter_5 : decode cX0_isBetter 5 = .ok (.iaload, 1) := by decide +kernel
theorem dX0_isBetter_6 : decode cX0_isBetter 6 = .ok (.aload_n 0, 1) := by decide +kernel
theorem dX0_isBetter_7 : decode cX0_isBetter 7 = .ok (.getfield 26, 3) := by decide +kernel
theorem dX0_isBetter_10 : decode cX0_isBetter 10 = .ok (.iload_n 2, 1) := by decide +kernel
theorem dX0_isBetter_11 : decode cX0_isBetter 11 = .ok (.iaload, 1) := by decide +kernel
theorem dX0_isBetter_12 : decode cX0_isBetter 12 = .ok (.if_icmp .eq 24, 3) := by decide +kernel
theorem dX0_isBetter_15 : decode cX0_isBetter 15 = .ok (.aload_n 0, 1) := by decide +kernel
theorem dX0_isBetter_16 : decode cX0_isBetter 16 = .ok (.getfield 26, 3) := by decide +kernel
theorem dX0_isBetter_19 : decode cX0_isBetter 19 = .ok (.iload_n 1, 1) := by decide +kernel
theorem dX0_isBetter_20 : decode cX0_isBetter 20 = .ok (.iaload, 1) := by decide +kernel
theorem dX0_isBetter_21 : decode cX0_isBetter 21 = .ok (.aload_n 0, 1) := by decide +kernel
theorem dX0_isBetter_22 : decode cX0_isBetter 22 = .ok (.getfield 26, 3) := by decide +kernel
theorem dX0_isBetter_25 : decode cX0_isBetter 25 = .ok (.iload_n 2, 1) := by decide +kernel
theorem dX0_isBetter_26 : decode cX0_isBetter 26 = .ok (.iaload, 1) := by decide +kernel
theorem dX0_isBetter_27 : decode cX0_isBetter 27 = .ok (.if_icmp .ge 7, 3) := by decide +kernel
theorem dX0_isBetter_30 : decode cX0_isBetter 30 = .ok (.iconst 1, 1) := by decide +kernel
theorem dX0_isBetter_31 : decode cX0_isBetter 31 = .ok (.goto 4, 3) := by decide +kernel
theorem dX0_isBetter_34 : decode cX0_isBetter 34 = .ok (.iconst 0, 1) := by decide +kernel
theorem dX0_isBetter_35 : decode cX0_isBetter 35 = .ok (.ireturn, 1) := by decide +kernel
theorem dX0_isBetter_36 : decode cX0_isBetter 36 = .ok (.aload_n 0, 1) := by decide +kernel
theorem dX0_isBetter_37 : decode cX0_isBetter 37 = .ok (.getfield 32, 3) := by decide +kernel
theorem dX0_isBetter_40 : decode cX0_isBetter 40 = .ok (.iload_n 1, 1) := by decide +kernel
theorem dX0_isBetter_41 : decode cX0_isBetter 41 = .ok (.iaload, 1) := by decide +kernel
theorem dX0_isBetter_42 : decode cX0_isBetter 42 = .ok (.aload_n 0, 1) := by decide +kernel
theorem dX0_isBetter_43 : decode cX0_isBetter 43 = .ok (.getfield 32, 3) := by decide +kernel
theorem dX0_isBetter_46 : decode cX0_isBetter 46 = .ok (.iload_n 2, 1) := by decide +kernel
theorem dX0_isBetter_47 : decode cX0_isBetter 47 = .ok (.iaload, 1) := by decide +kernel
theorem dX0_isBetter_48 : decode cX0_isBetter 48 = .ok (.if_icmp .le 7, 3) := by decide +kernel
theorem dX0_isBetter_51 : decode cX0_isBetter 51 = .ok (.iconst 1, 1) := by decide +kernel
theorem dX0_isBetter_52 : decode cX0_isBetter 52 = .ok (.goto 4, 3) := by decide +kernel
theorem dX0_isBetter_55 : decode cX0_isBetter 55 = .ok (.iconst 0, 1) := by decide +kernel
theorem dX0_isBetter_56 : decode cX0_isBetter 56 = .ok (.ireturn, 1) := by decide +kernel
theorem dX0_release_0 : decode cX0_release 0 = .ok (.aload_n 0, 1) := by decide +kernel
theorem dX0_release_1 : decode cX0_release 1 = .ok (.iload_n 1, 1) := by decide +kernel
theorem dX0_release_2 : decode cX0_release 2 = .ok (.invokevirtual 144, 3) := by decide +kernel
theorem dX0_release_5 : decode cX0_release 5 = .ok (.istore_n 2, 1) := by decide +kernel
theorem dX0_release_6 : decode cX0_release 6 = .ok (.iload_n 1, 1) := by decide +kernel
theorem dX0_release_7 : decode cX0_release 7 = .ok (.aload_n 0, 1) := by decide +kernel
theorem dX0_release_8 : decode cX0_release 8 = .ok (.getfield 26, 3) := by decide +kernel
theorem dX0_release_11 : decode cX0_release 11 = .ok (.iload_n 1, 1) := by decide +kernel
theorem dX0_release_12 : decode cX0_release 12 = .ok (.iaload, 1) := by decide +kernel
theorem dX0_release_13 : decode cX0_release 13 = .ok (.iadd, 1) := by decide +kernel
theorem dX0_release_14 : decode cX0_release 14 = .ok (.istore_n 3, 1) := by decide +kernel
theorem dX0_release_15 : decode cX0_release 15 = .ok (.aload_n 0, 1) := by decide +kernel
theorem dX0_release_16 : decode cX0_release 16 = .ok (.getfield 47, 3) := by decide +kernel
theorem dX0_release_19 : decode cX0_release 19 = .ok (.iconst (-1), 1) := by decide +kernel
theorem dX0_release_20 : decode cX0_release 20 = .ok (.if_icmp .eq 23, 3) := by decide +kernel
theorem dX0_release_23 : decode cX0_release 23 = .ok (.aload_n 0, 1) := by decide +kernel
theorem dX0_release_24 : decode cX0_release 24 = .ok (.getfield 47, 3) := by decide +kernel
theorem dX0_release_27 : decode cX0_release 27 = .ok (.iload_n 2, 1) := by decide +kernel
theorem dX0_release_28 : decode cX0_release 28 = .ok (.if_icmp .eq 11, 3) := by decide +kernel
theorem dX0_release_31 : decode cX0_release 31 = .ok (.aload_n 0, 1) := by decide +kernel
theorem dX0_release_32 : decode cX0_release 32 = .ok (.getfield 47, 3) := by decide +kernel
theorem dX0_release_35 : decode cX0_release 35 = .ok (.iload_n 3, 1) := by decide +kernel
theorem dX0_release_36 : decode cX0_release 36 = .ok (.if_icmp .ne 7, 3) := by decide +kernel
theorem dX0_release_39 : decode cX0_release 39 = .ok (.iconst 1, 1) := by decide +kernel
theorem dX0_release_40 : decode cX0_release 40 = .ok (.goto 4, 3) := by decide +kernel
theorem dX0_release_43 : decode cX0_release 43 = .ok (.iconst 0, 1) := by decide +kernel
theorem dX0_release_44 : decode cX0_release 44 = .ok (.istore 4, 2) := by decide +kernel
theorem dX0_release_46 : decode cX0_release 46 = .ok (.iload_n 1, 1) := by decide +kernel
theorem dX0_release_47 : decode cX0_release 47 = .ok (.istore 5, 2) := by decide +kernel
theorem dX0_release_49 : decode cX0_release 49 = .ok (.aload_n 0, 1) := by decide +kernel
theorem dX0_release_50 : decode cX0_release 50 = .ok (.iload_n 1, 1) := by decide +kernel
theorem dX0_release_51 : decode cX0_release 51 = .ok (.invokevirtual 147, 3) := by decide +kernel
theorem dX0_release_54 : decode cX0_release 54 = .ok (.istore 6, 2) := by decide +kernel
theorem dX0_release_56 : decode cX0_release 56 = .ok (.aload_n 0, 1) := by decide +kernel
theorem dX0_release_57 : decode cX0_release 57 = .ok (.iload_n 3, 1) := by decide +kernel
theorem dX0_release_58 : decode cX0_release 58 = .ok (.invokevirtual 150, 3) := by decide +kernel
theorem dX0_release_61 : decode cX0_release 61 = .ok (.ifCond .eq 13, 3) := by decide +kernel
theorem dX0_release_64 : decode cX0_release 64 = .ok (.iload 6, 2) := by decide +kernel
theorem dX0_release_66 : decode cX0_release 66 = .ok (.aload_n 0, 1) := by decide +kernel
theorem dX0_release_67 : decode cX0_release 67 = .ok (.iload_n 3, 1) := by decide +kernel
theorem dX0_release_68 : decode cX0_release 68 = .ok (.invokevirtual 147, 3) := by decide +kernel
theorem dX0_release_71 : decode cX0_release 71 = .ok (.iadd, 1) := by decide +kernel
theorem dX0_release_72 : decode cX0_release 72 = .ok (.istore 6, 2) := by decide +kernel
theorem dX0_release_74 : decode cX0_release 74 = .ok (.aload_n 0, 1) := by decide +kernel
theorem dX0_release_75 : decode cX0_release 75 = .ok (.iload_n 2, 1) := by decide +kernel
theorem dX0_release_76 : decode cX0_release 76 = .ok (.invokevirtual 150, 3) := by decide +kernel
theorem dX0_release_79 : decode cX0_release 79 = .ok (.ifCond .eq 16, 3) := by decide +kernel
theorem dX0_release_82 : decode cX0_release 82 = .ok (.iload 6, 2) := by decide +kernel
theorem dX0_release_84 : decode cX0_release 84 = .ok (.aload_n 0, 1) := by decide +kernel
theorem dX0_release_85 : decode cX0_release 85 = .ok (.iload_n 2, 1) := by decide +kernel
theorem dX0_release_86 : decode cX0_release 86 = .ok (.invokevirtual 147, 3) := by decide +kernel
theorem dX0_release_89 : decode cX0_release 89 = .ok (.iadd, 1) := by decide +kernel
theorem dX0_release_90 : decode cX0_release 90 = .ok (.istore 6, 2) := by decide +kernel
theorem dX0_release_92 : decode cX0_release 92 = .ok (.iload_n 2, 1) := by decide +kernel
theorem dX0_release_93 : decode cX0_release 93 = .ok (.istore 5, 2) := by decide +kernel
theorem dX0_release_95 : decode cX0_release 95 = .ok (.iload 5, 2) := by decide +kernel
theorem dX0_release_97 : decode cX0_release 97 = .ok (.iload 6, 2) := by decide +kernel
theorem dX0_release_99 : decode cX0_release 99 = .ok (.iadd, 1) := by decide +kernel
theorem dX0_release_100 : decode cX0_release 100 = .ok (.aload_n 0, 1) := by decide +kernel
theorem dX0_release_101 : decode cX0_release 101 = .ok (.getfield 44, 3) := by decide +kernel
theorem dX0_release_104 : decode cX0_release 104 = .ok (.if_icmp .ne 15, 3) := by decide +kernel
theorem dX0_release_107 : decode cX0_release 107 = .ok (.aload_n 0, 1) := by decide +kernel
theorem dX0_release_108 : decode cX0_release 108 = .ok (.iload 5, 2) := by decide +kernel
theorem dX0_release_110 : decode cX0_release 110 = .ok (.iload 6, 2) := by decide +kernel
theorem dX0_release_112 : decode cX0_release 112 = .ok (.iconst 4, 1) := by decide +kernel
theorem dX0_release_113 : decode cX0_release 113 = .ok (.invokevirtual 134, 3) := by decide +kernel
theorem dX0_release_116 : decode cX0_release 116 = .ok (.goto 21, 3) := by decide +kernel
theorem dX0_release_119 : decode cX0_release 119 = .ok (.aload_n 0, 1) := by decide +kernel
theorem dX0_release_120 : decode cX0_release 120 = .ok (.iload 5, 2) := by decide +kernel
theorem dX0_release_122 : decode cX0_release 122 = .ok (.iload 6, 2) := by decide +kernel
theorem dX0_release_124 : decode cX0_release 124 = .ok (.iload 4, 2) := by decide +kernel
theorem dX0_release_126 : decode cX0_release 126 = .ok (.ifCond .eq 7, 3) := by decide +kernel
theorem dX0_release_129 : decode cX0_release 129 = .ok (.iconst 3, 1) := by decide +kernel
theorem dX0_release_130 : decode cX0_release 130 = .ok (.goto 4, 3) := by decide +kernel
theorem dX0_release_133 : decode cX0_release 133 = .ok (.iconst 2, 1) := by decide +kernel
theorem dX0_release_134 : decode cX0_release 134 = .ok (.invokevirtual 134, 3) := by decide +kernel
theorem dX0_release_137 : decode cX0_release 137 = .ok (.return_, 1) := by decide +kernel
theorem dX0_chunkBefore_0 : decode cX0_chunkBefore 0 = .ok (.iload_n 1, 1) := by decide +kernel
theorem dX0_chunkBefore_1 : decode cX0_chunkBefore 1 = .ok (.iconst 1, 1) := by decide +kernel
theorem dX0_chunkBefore_2 : decode cX0_chunkBefore 2 = .ok (.isub, 1) := by decide +kernel
theorem dX0_chunkBefore_3 : decode cX0_chunkBefore 3 = .ok (.istore_n 2, 1) := by decide +kernel
theorem dX0_chunkBefore_4 : decode cX0_chunkBefore 4 = .ok (.iload_n 2, 1) := by decide +kernel
theorem dX0_chunkBefore_5 : decode cX0_chunkBefore 5 = .ok (.ifCond .lt 21, 3) := by decide +kernel
theorem dX0_chunkBefore_8 : decode cX0_chunkBefore 8 = .ok (.aload_n 0, 1) := by decide +kernel
theorem dX0_chunkBefore_9 : decode cX0_chunkBefore 9 = .ok (.getfield 29, 3) := by decide +kernel
theorem dX0_chunkBefore_12 : decode cX0_chunkBefore 12 = .ok (.iload_n 2, 1) := by decide +kernel
theorem dX0_chunkBefore_13 : decode cX0_chunkBefore 13 = .ok (.iaload, 1) := by decide +kernel
theorem dX0_chunkBefore_14 : decode cX0_chunkBefore 14 = .ok (.iconst (-1), 1) := by decide +kernel
theorem dX0_chunkBefore_15 : decode cX0_chunkBefore 15 = .ok (.if_icmp .eq 5, 3) := by decide +kernel
theorem dX0_chunkBefore_18 : decode cX0_chunkBefore 18 = .ok (.iload_n 2, 1) := by decide +kernel
theorem dX0_chunkBefore_19 : decode cX0_chunkBefore 19 = .ok (.ireturn, 1) := by decide +kernel
theorem dX0_chunkBefore_20 : decode cX0_chunkBefore 20 = .ok (.iinc 2 (-1), 3) := by decide +kernel
theorem dX0_chunkBefore_23 : decode cX0_chunkBefore 23 = .ok (.goto (-19), 3) := by decide +kernel
theorem dX0_chunkBefore_26 : decode cX0_chunkBefore 26 = .ok (.iconst (-1), 1) := by decide +kernel
theorem dX0_chunkBefore_27 : decode cX0_chunkBefore 27 = .ok (.ireturn, 1) := by decide +kernel
theorem dX0_shorten_0 : decode cX0_shorten 0 = .ok (.aload_n 0, 1) := by decide +kernel
theorem dX0_shorten_1 : decode cX0_shorten 1 = .ok (.getfield 26, 3) := by decide +kernel
theorem dX0_shorten_4 : decode cX0_shorten 4 = .ok (.iload_n 1, 1) := by decide +kernel
theorem dX0_shorten_5 : decode cX0_shorten 5 = .ok (.iaload, 1) := by decide +kernel
theorem dX0_shorten_6 : decode cX0_shorten 6 = .ok (.iload_n 2, 1) := by decide +kernel
theorem dX0_shorten_7 : decode cX0_shorten 7 = .ok (.isub, 1) := by decide +kernel
theorem dX0_shorten_8 : decode cX0_shorten 8 = .ok (.iconst 2, 1) := by decide +kernel
theorem dX0_shorten_9 : decode cX0_shorten 9 = .ok (.if_icmp .lt 18, 3) := by decide +kernel
theorem dX0_shorten_12 : decode cX0_shorten 12 = .ok (.aload_n 0, 1) := by decide +kernel
theorem dX0_shorten_13 : decode cX0_shorten 13 = .ok (.iload_n 1, 1) := by decide +kernel
theorem dX0_shorten_14 : decode cX0_shorten 14 = .ok (.iload_n 2, 1) := by decide +kernel
theorem dX0_shorten_15 : decode cX0_shorten 15 = .ok (.iconst 0, 1) := by decide +kernel
theorem dX0_shorten_16 : decode cX0_shorten 16 = .ok (.invokevirtual 97, 3) := by decide +kernel
theorem dX0_shorten_19 : decode cX0_shorten 19 = .ok (.pop, 1) := by decide +kernel
theorem dX0_shorten_20 : decode cX0_shorten 20 = .ok (.aload_n 0, 1) := by decide +kernel
theorem dX0_shorten_21 : decode cX0_shorten 21 = .ok (.iload_n 1, 1) := by decide +kernel
theorem dX0_shorten_22 : decode cX0_shorten 22 = .ok (.iload_n 2, 1) := by decide +kernel
theorem dX0_shorten_23 : decode cX0_shorten 23 = .ok (.iadd, 1) := by decide +kernel
theorem dX0_shorten_24 : decode cX0_shorten 24 = .ok (.invokevirtual 76, 3) := by decide +kernel
theorem dX0_shorten_27 : decode cX0_shorten 27 = .ok (.return_, 1) := by decide +kernel
theorem dX0_lengthen_0 : decode cX0_lengthen 0 = .ok (.iload_n 1, 1) := by decide +kernel
theorem dX0_lengthen_1 : decode cX0_lengthen 1 = .ok (.aload_n 0, 1) := by decide +kernel
theorem dX0_lengthen_2 : decode cX0_lengthen 2 = .ok (.getfield 26, 3) := by decide +kernel
theorem dX0_lengthen_5 : decode cX0_lengthen 5 = .ok (.iload_n 1, 1) := by decide +kernel
theorem dX0_lengthen_6 : decode cX0_lengthen 6 = .ok (.iaload, 1) := by decide +kernel
theorem dX0_lengthen_7 : decode cX0_lengthen 7 = .ok (.iadd, 1) := by decide +kernel
theorem dX0_lengthen_8 : decode cX0_lengthen 8 = .ok (.istore_n 3, 1) := by decide +kernel
theorem dX0_lengthen_9 : decode cX0_lengthen 9 = .ok (.iload_n 2, 1) := by decide +kernel
theorem dX0_lengthen_10 : decode cX0_lengthen 10 = .ok (.aload_n 0, 1) := by decide +kernel
theorem dX0_lengthen_11 : decode cX0_lengthen 11 = .ok (.getfield 26, 3) := by decide +kernel
theorem dX0_lengthen_14 : decode cX0_lengthen 14 = .ok (.iload_n 1, 1) := by decide +kernel
theorem dX0_lengthen_15 : decode cX0_lengthen 15 = .ok (.iaload, 1) := by decide +kernel
theorem dX0_lengthen_16 : decode cX0_lengthen 16 = .ok (.isub, 1) := by decide +kernel
theorem dX0_lengthen_17 : decode cX0_lengthen 17 = .ok (.istore 4, 2) := by decide +kernel
theorem dX0_lengthen_19 : decode cX0_lengthen 19 = .ok (.iload_n 3, 1) := by decide +kernel
theorem dX0_lengthen_20 : decode cX0_lengthen 20 = .ok (.aload_n 0, 1) := by decide +kernel
theorem dX0_lengthen_21 : decode cX0_lengthen 21 = .ok (.getfield 44, 3) := by decide +kernel
theorem dX0_lengthen_24 : decode cX0_lengthen 24 = .ok (.if_icmp .eq 11, 3) := by decide +kernel
theorem dX0_lengthen_27 : decode cX0_lengthen 27 = .ok (.iload_n 3, 1) := by decide +kernel
theorem dX0_lengthen_28 : decode cX0_lengthen 28 = .ok (.aload_n 0, 1) := by decide +kernel
theorem dX0_lengthen_29 : decode cX0_lengthen 29 = .ok (.getfield 50, 3) := by decide +kernel
theorem dX0_lengthen_32 : decode cX0_lengthen 32 = .ok (.if_icmp .ne 32, 3) := by decide +kernel
theorem dX0_lengthen_35 : decode cX0_lengthen 35 = .ok (.iload 4, 2) := by decide +kernel
theorem dX0_lengthen_37 : decode cX0_lengthen 37 = .ok (.aload_n 0, 1) := by decide +kernel
theorem dX0_lengthen_38 : decode cX0_lengthen 38 = .ok (.aload_n 0, 1) := by decide +kernel
theorem dX0_lengthen_39 : decode cX0_lengthen 39 = .ok (.getfield 50, 3) := by decide +kernel
theorem dX0_lengthen_42 : decode cX0_lengthen 42 = .ok (.invokevirtual 101, 3) := by decide +kernel
theorem dX0_lengthen_45 : decode cX0_lengthen 45 = .ok (.isub, 1) := by decide +kernel
theorem dX0_lengthen_46 : decode cX0_lengthen 46 = .ok (.istore 5, 2) := by decide +kernel
theorem dX0_lengthen_48 : decode cX0_lengthen 48 = .ok (.iload 5, 2) := by decide +kernel
theorem dX0_lengthen_50 : decode cX0_lengthen 50 = .ok (.ifCond .le 14, 3) := by decide +kernel
theorem dX0_lengthen_53 : decode cX0_lengthen 53 = .ok (.aload_n 0, 1) := by decide +kernel
theorem dX0_lengthen_54 : decode cX0_lengthen 54 = .ok (.iload 5, 2) := by decide +kernel
theorem dX0_lengthen_56 : decode cX0_lengthen 56 = .ok (.invokevirtual 131, 3) := by decide +kernel
theorem dX0_lengthen_59 : decode cX0_lengthen 59 = .ok (.ifCond .ne 5, 3) := by decide +kernel
theorem dX0_lengthen_62 : decode cX0_lengthen 62 = .ok (.iconst 0, 1) := by decide +kernel
theorem dX0_lengthen_63 : decode cX0_lengthen 63 = .ok (.ireturn, 1) := by decide +kernel
theorem dX0_lengthen_64 : decode cX0_lengthen 64 = .ok (.aload_n 0, 1) := by decide +kernel
theorem dX0_lengthen_65 : decode cX0_lengthen 65 = .ok (.iload_n 3, 1) := by decide +kernel
theorem dX0_lengthen_66 : decode cX0_lengthen 66 = .ok (.invokevirtual 150, 3) := by decide +kernel
theorem dX0_lengthen_69 : decode cX0_lengthen 69 = .ok (.ifCond .eq 14, 3) := by decide +kernel
theorem dX0_lengthen_72 : decode cX0_lengthen 72 = .ok (.aload_n 0, 1) := by decide +kernel
theorem dX0_lengthen_73 : decode cX0_lengthen 73 = .ok (.getfield 26, 3) := by decide +kernel
theorem dX0_lengthen_76 : decode cX0_lengthen 76 = .ok (.iload_n 3, 1) := by decide +kernel
theorem dX0_lengthen_77 : decode cX0_lengthen 77 = .ok (.iaload, 1) := by decide +kernel
theorem dX0_lengthen_78 : decode cX0_lengthen 78 = .ok (.iload 4, 2) := by decide +kernel
theorem dX0_lengthen_80 : decode cX0_lengthen 80 = .ok (.if_icmp .ge 5, 3) := by decide +kernel
theorem dX0_lengthen_83 : decode cX0_lengthen 83 = .ok (.iconst 0, 1) := by decide +kernel
theorem dX0_lengthen_84 : decode cX0_lengthen 84 = .ok (.ireturn, 1) := by decide +kernel
theorem dX0_lengthen_85 : decode cX0_lengthen 85 = .ok (.aload_n 0, 1) := by decide +kernel
theorem dX0_lengthen_86 : decode cX0_lengthen 86 = .ok (.getfield 29, 3) := by decide +kernel
theorem dX0_lengthen_89 : decode cX0_lengthen 89 = .ok (.iload_n 3, 1) := by decide +kernel
theorem dX0_lengthen_90 : decode cX0_lengthen 90 = .ok (.iaload, 1) := by decide +kernel
theorem dX0_lengthen_91 : decode cX0_lengthen 91 = .ok (.istore 5, 2) := by decide +kernel
theorem dX0_lengthen_93 : decode cX0_lengthen 93 = .ok (.aload_n 0, 1) := by decide +kernel
theorem dX0_lengthen_94 : decode cX0_lengthen 94 = .ok (.getfield 26, 3) := by decide +kernel
theorem dX0_lengthen_97 : decode cX0_lengthen 97 = .ok (.iload_n 1, 1) := by decide +kernel
theorem dX0_lengthen_98 : decode cX0_lengthen 98 = .ok (.dup2, 1) := by decide +kernel
theorem dX0_lengthen_99 : decode cX0_lengthen 99 = .ok (.iaload, 1) := by decide +kernel
theorem dX0_lengthen_100 : decode cX0_lengthen 100 = .ok (.aload_n 0, 1) := by decide +kernel
theorem dX0_lengthen_101 : decode cX0_lengthen 101 = .ok (.iload_n 3, 1) := by decide +kernel
theorem dX0_lengthen_102 : decode cX0_lengthen 102 = .ok (.invokevirtual 147, 3) := by decide +kernel
theorem dX0_lengthen_105 : decode cX0_lengthen 105 = .ok (.iadd, 1) := by decide +kernel
theorem dX0_lengthen_106 : decode cX0_lengthen 106 = .ok (.iastore, 1) := by decide +kernel
theorem dX0_lengthen_107 : decode cX0_lengthen 107 = .ok (.aload_n 0, 1) := by decide +kernel
theorem dX0_lengthen_108 : decode cX0_lengthen 108 = .ok (.iload_n 1, 1) := by decide +kernel
theorem dX0_lengthen_109 : decode cX0_lengthen 109 = .ok (.iload_n 2, 1) := by decide +kernel
theorem dX0_lengthen_110 : decode cX0_lengthen 110 = .ok (.iload 5, 2) := by decide +kernel
theorem dX0_lengthen_112 : decode cX0_lengthen 112 = .ok (.invokevirtual 97, 3) := by decide +kernel
theorem dX0_lengthen_115 : decode cX0_lengthen 115 = .ok (.pop, 1) := by decide +kernel
theorem dX0_lengthen_116 : decode cX0_lengthen 116 = .ok (.iconst 1, 1) := by decide +kernel
theorem dX0_lengthen_117 : decode cX0_lengthen 117 = .ok (.ireturn, 1) := by decide +kernel
theorem dX0_move_0 : decode cX0_move 0 = .ok (.aload_n 0, 1) := by decide +kernel
theorem dX0_move_1 : decode cX0_move 1 = .ok (.iload_n 2, 1) := by decide +kernel
theorem dX0_move_2 : decode cX0_move 2 = .ok (.invokevirtual 57, 3) := by decide +kernel
theorem dX0_move_5 : decode cX0_move 5 = .ok (.istore_n 3, 1) := by decide +kernel
theorem dX0_move_6 : decode cX0_move 6 = .ok (.iload_n 3, 1) := by decide +kernel
theorem dX0_move_7 : decode cX0_move 7 = .ok (.iconst (-1), 1) := by decide +kernel
theorem dX0_move_8 : decode cX0_move 8 = .ok (.if_icmp .eq 33, 3) := by decide +kernel
theorem dX0_move_11 : decode cX0_move 11 = .ok (.aload_n 0, 1) := by decide +kernel
theorem dX0_move_12 : decode cX0_move 12 = .ok (.getfield 22, 3) := by decide +kernel
theorem dX0_move_15 : decode cX0_move 15 = .ok (.iload_n 1, 1) := by decide +kernel
theorem dX0_move_16 : decode cX0_move 16 = .ok (.iconst 1, 1) := by decide +kernel
theorem dX0_move_17 : decode cX0_move 17 = .ok (.iadd, 1) := by decide +kernel
theorem dX0_move_18 : decode cX0_move 18 = .ok (.aload_n 0, 1) := by decide +kernel
theorem dX0_move_19 : decode cX0_move 19 = .ok (.getfield 22, 3) := by decide +kernel
theorem dX0_move_22 : decode cX0_move 22 = .ok (.iload_n 3, 1) := by decide +kernel
theorem dX0_move_23 : decode cX0_move 23 = .ok (.iconst 1, 1) := by decide +kernel
theorem dX0_move_24 : decode cX0_move 24 = .ok (.iadd, 1) := by decide +kernel
theorem dX0_move_25 : decode cX0_move 25 = .ok (.aload_n 0, 1) := by decide +kernel
theorem dX0_move_26 : decode cX0_move 26 = .ok (.getfield 26, 3) := by decide +kernel
theorem dX0_move_29 : decode cX0_move 29 = .ok (.iload_n 1, 1) := by decide +kernel
theorem dX0_move_30 : decode cX0_move 30 = .ok (.iaload, 1) := by decide +kernel
theorem dX0_move_31 : decode cX0_move 31 = .ok (.iconst 1, 1) := by decide +kernel
theorem dX0_move_32 : decode cX0_move 32 = .ok (.isub, 1) := by decide +kernel
theorem dX0_move_33 : decode cX0_move 33 = .ok (.invokestatic 153, 3) := by decide +kernel
theorem dX0_move_36 : decode cX0_move 36 = .ok (.aload_n 0, 1) := by decide +kernel
theorem dX0_move_37 : decode cX0_move 37 = .ok (.iload_n 1, 1) := by decide +kernel
theorem dX0_move_38 : decode cX0_move 38 = .ok (.invokevirtual 76, 3) := by decide +kernel
theorem dX0_move_41 : decode cX0_move 41 = .ok (.iload_n 3, 1) := by decide +kernel
theorem dX0_move_42 : decode cX0_move 42 = .ok (.ireturn, 1) := by decide +kernel
theorem dX0_grow_0 : decode cX0_grow 0 = .ok (.iload_n 1, 1) := by decide +kernel
theorem dX0_grow_1 : decode cX0_grow 1 = .ok (.bipush 16, 2) := by decide +kernel
theorem dX0_grow_3 : decode cX0_grow 3 = .ok (.iadd, 1) := by decide +kernel
theorem dX0_grow_4 : decode cX0_grow 4 = .ok (.iconst 1, 1) := by decide +kernel
theorem dX0_grow_5 : decode cX0_grow 5 = .ok (.isub, 1) := by decide +kernel
theorem dX0_grow_6 : decode cX0_grow 6 = .ok (.bipush 16, 2) := by decide +kernel
theorem dX0_grow_8 : decode cX0_grow 8 = .ok (.idiv, 1) := by decide +kernel
theorem dX0_grow_9 : decode cX0_grow 9 = .ok (.bipush 16, 2) := by decide +kernel
theorem dX0_grow_11 : decode cX0_grow 11 = .ok (.imul, 1) := by decide +kernel
theorem dX0_grow_12 : decode cX0_grow 12 = .ok (.istore_n 2, 1) := by decide +kernel
theorem dX0_grow_13 : decode cX0_grow 13 = .ok (.aload_n 0, 1) := by decide +kernel
theorem dX0_grow_14 : decode cX0_grow 14 = .ok (.getfield 44, 3) := by decide +kernel
theorem dX0_grow_17 : decode cX0_grow 17 = .ok (.iload_n 2, 1) := by decide +kernel
theorem dX0_grow_18 : decode cX0_grow 18 = .ok (.iadd, 1) := by decide +kernel
theorem dX0_grow_19 : decode cX0_grow 19 = .ok (.aload_n 0, 1) := by decide +kernel
theorem dX0_grow_20 : decode cX0_grow 20 = .ok (.getfield 18, 3) := by decide +kernel
theorem dX0_grow_23 : decode cX0_grow 23 = .ok (.if_icmp .le 5, 3) := by decide +kernel
theorem dX0_grow_26 : decode cX0_grow 26 = .ok (.iconst 0, 1) := by decide +kernel
theorem dX0_grow_27 : decode cX0_grow 27 = .ok (.ireturn, 1) := by decide +kernel
theorem dX0_grow_28 : decode cX0_grow 28 = .ok (.aload_n 0, 1) := by decide +kernel
theorem dX0_grow_29 : decode cX0_grow 29 = .ok (.getfield 50, 3) := by decide +kernel
theorem dX0_grow_32 : decode cX0_grow 32 = .ok (.iconst (-1), 1) := by decide +kernel
theorem dX0_grow_33 : decode cX0_grow 33 = .ok (.if_icmp .ne 10, 3) := by decide +kernel
theorem dX0_grow_36 : decode cX0_grow 36 = .ok (.aload_n 0, 1) := by decide +kernel
theorem dX0_grow_37 : decode cX0_grow 37 = .ok (.getfield 44, 3) := by decide +kernel
theorem dX0_grow_40 : decode cX0_grow 40 = .ok (.goto 7, 3) := by decide +kernel
theorem dX0_grow_43 : decode cX0_grow 43 = .ok (.aload_n 0, 1) := by decide +kernel
theorem dX0_grow_44 : decode cX0_grow 44 = .ok (.getfield 50, 3) := by decide +kernel
theorem dX0_grow_47 : decode cX0_grow 47 = .ok (.istore_n 3, 1) := by decide +kernel
theorem dX0_grow_48 : decode cX0_grow 48 = .ok (.aload_n 0, 1) := by decide +kernel
theorem dX0_grow_49 : decode cX0_grow 49 = .ok (.aload_n 0, 1) := by decide +kernel
theorem dX0_grow_50 : decode cX0_grow 50 = .ok (.getfield 50, 3) := by decide +kernel
theorem dX0_grow_53 : decode cX0_grow 53 = .ok (.invokevirtual 101, 3) := by decide +kernel
theorem dX0_grow_56 : decode cX0_grow 56 = .ok (.iload_n 2, 1) := by decide +kernel
theorem dX0_grow_57 : decode cX0_grow 57 = .ok (.iadd, 1) := by decide +kernel
theorem dX0_grow_58 : decode cX0_grow 58 = .ok (.istore 4, 2) := by decide +kernel
theorem dX0_grow_60 : decode cX0_grow 60 = .ok (.aload_n 0, 1) := by decide +kernel
theorem dX0_grow_61 : decode cX0_grow 61 = .ok (.getfield 22, 3) := by decide +kernel
theorem dX0_grow_64 : decode cX0_grow 64 = .ok (.aload_n 0, 1) := by decide +kernel
theorem dX0_grow_65 : decode cX0_grow 65 = .ok (.getfield 44, 3) := by decide +kernel
theorem dX0_grow_68 : decode cX0_grow 68 = .ok (.aload_n 0, 1) := by decide +kernel
theorem dX0_grow_69 : decode cX0_grow 69 = .ok (.getfield 44, 3) := by decide +kernel
theorem dX0_grow_72 : decode cX0_grow 72 = .ok (.iload_n 2, 1) := by decide +kernel
theorem dX0_grow_73 : decode cX0_grow 73 = .ok (.iadd, 1) := by decide +kernel
theorem dX0_grow_74 : decode cX0_grow 74 = .ok (.iconst 0, 1) := by decide +kernel
theorem dX0_grow_75 : decode cX0_grow 75 = .ok (.invokestatic 73, 3) := by decide +kernel
theorem dX0_grow_78 : decode cX0_grow 78 = .ok (.aload_n 0, 1) := by decide +kernel
theorem dX0_grow_79 : decode cX0_grow 79 = .ok (.dup, 1) := by decide +kernel
theorem dX0_grow_80 : decode cX0_grow 80 = .ok (.getfield 44, 3) := by decide +kernel
theorem dX0_grow_83 : decode cX0_grow 83 = .ok (.iload_n 2, 1) := by decide +kernel
theorem dX0_grow_84 : decode cX0_grow 84 = .ok (.iadd, 1) := by decide +kernel
theorem dX0_grow_85 : decode cX0_grow 85 = .ok (.putfield 44, 3) := by decide +kernel
theorem dX0_grow_88 : decode cX0_grow 88 = .ok (.aload_n 0, 1) := by decide +kernel
theorem dX0_grow_89 : decode cX0_grow 89 = .ok (.iload_n 3, 1) := by decide +kernel
theorem dX0_grow_90 : decode cX0_grow 90 = .ok (.iload 4, 2) := by decide +kernel
theorem dX0_grow_92 : decode cX0_grow 92 = .ok (.iconst 4, 1) := by decide +kernel
theorem dX0_grow_93 : decode cX0_grow 93 = .ok (.invokevirtual 134, 3) := by decide +kernel
theorem dX0_grow_96 : decode cX0_grow 96 = .ok (.iconst 1, 1) := by decide +kernel
theorem dX0_grow_97 : decode cX0_grow 97 = .ok (.ireturn, 1) := by decide +kernel
theorem dX0_shrinkTop_0 : decode cX0_shrinkTop 0 = .ok (.aload_n 0, 1) := by decide +kernel
theorem dX0_shrinkTop_1 : decode cX0_shrinkTop 1 = .ok (.getfield 50, 3) := by decide +kernel
theorem dX0_shrinkTop_4 : decode cX0_shrinkTop 4 = .ok (.istore_n 2, 1) := by decide +kernel
theorem dX0_shrinkTop_5 : decode cX0_shrinkTop 5 = .ok (.aload_n 0, 1) := by decide +kernel
theorem dX0_shrinkTop_6 : decode cX0_shrinkTop 6 = .ok (.aload_n 0, 1) := by decide +kernel
theorem dX0_shrinkTop_7 : decode cX0_shrinkTop 7 = .ok (.getfield 50, 3) := by decide +kernel
theorem dX0_shrinkTop_10 : decode cX0_shrinkTop 10 = .ok (.invokevirtual 147, 3) := by decide +kernel
theorem dX0_shrinkTop_13 : decode cX0_shrinkTop 13 = .ok (.iload_n 1, 1) := by decide +kernel
theorem dX0_shrinkTop_14 : decode cX0_shrinkTop 14 = .ok (.isub, 1) := by decide +kernel
theorem dX0_shrinkTop_15 : decode cX0_shrinkTop 15 = .ok (.istore_n 3, 1) := by decide +kernel
theorem dX0_shrinkTop_16 : decode cX0_shrinkTop 16 = .ok (.aload_n 0, 1) := by decide +kernel
theorem dX0_shrinkTop_17 : decode cX0_shrinkTop 17 = .ok (.dup, 1) := by decide +kernel
theorem dX0_shrinkTop_18 : decode cX0_shrinkTop 18 = .ok (.getfield 44, 3) := by decide +kernel
theorem dX0_shrinkTop_21 : decode cX0_shrinkTop 21 = .ok (.iload_n 1, 1) := by decide +kernel
theorem dX0_shrinkTop_22 : decode cX0_shrinkTop 22 = .ok (.isub, 1) := by decide +kernel
theorem dX0_shrinkTop_23 : decode cX0_shrinkTop 23 = .ok (.putfield 44, 3) := by decide +kernel
theorem dX0_shrinkTop_26 : decode cX0_shrinkTop 26 = .ok (.iload_n 3, 1) := by decide +kernel
theorem dX0_shrinkTop_27 : decode cX0_shrinkTop 27 = .ok (.ifCond .le 10, 3) := by decide +kernel
theorem dX0_shrinkTop_30 : decode cX0_shrinkTop 30 = .ok (.aload_n 0, 1) := by decide +kernel
theorem dX0_shrinkTop_31 : decode cX0_shrinkTop 31 = .ok (.iload_n 2, 1) := by decide +kernel
theorem dX0_shrinkTop_32 : decode cX0_shrinkTop 32 = .ok (.iload_n 3, 1) := by decide +kernel
theorem dX0_shrinkTop_33 : decode cX0_shrinkTop 33 = .ok (.iconst 4, 1) := by decide +kernel
theorem dX0_shrinkTop_34 : decode cX0_shrinkTop 34 = .ok (.invokevirtual 134, 3) := by decide +kernel
theorem dX0_shrinkTop_37 : decode cX0_shrinkTop 37 = .ok (.return_, 1) := by decide +kernel
theorem dX0_cut_0 : decode cX0_cut 0 = .ok (.aload_n 0, 1) := by decide +kernel
theorem dX0_cut_1 : decode cX0_cut 1 = .ok (.iload_n 1, 1) := by decide +kernel
theorem dX0_cut_2 : decode cX0_cut 2 = .ok (.invokevirtual 147, 3) := by decide +kernel
theorem dX0_cut_5 : decode cX0_cut 5 = .ok (.istore 4, 2) := by decide +kernel
theorem dX0_cut_7 : decode cX0_cut 7 = .ok (.iload 4, 2) := by decide +kernel
theorem dX0_cut_9 : decode cX0_cut 9 = .ok (.iload_n 2, 1) := by decide +kernel
theorem dX0_cut_10 : decode cX0_cut 10 = .ok (.isub, 1) := by decide +kernel
theorem dX0_cut_11 : decode cX0_cut 11 = .ok (.istore 5, 2) := by decide +kernel
theorem dX0_cut_13 : decode cX0_cut 13 = .ok (.iload 5, 2) := by decide +kernel
theorem dX0_cut_15 : decode cX0_cut 15 = .ok (.iconst 2, 1) := by decide +kernel
theorem dX0_cut_16 : decode cX0_cut 16 = .ok (.if_icmp .ge 14, 3) := by decide +kernel
theorem dX0_cut_19 : decode cX0_cut 19 = .ok (.aload_n 0, 1) := by decide +kernel
theorem dX0_cut_20 : decode cX0_cut 20 = .ok (.iload_n 1, 1) := by decide +kernel
theorem dX0_cut_21 : decode cX0_cut 21 = .ok (.iload 4, 2) := by decide +kernel
theorem dX0_cut_23 : decode cX0_cut 23 = .ok (.iconst 0, 1) := by decide +kernel
theorem dX0_cut_24 : decode cX0_cut 24 = .ok (.invokevirtual 134, 3) := by decide +kernel
theorem dX0_cut_27 : decode cX0_cut 27 = .ok (.goto 20, 3) := by decide +kernel
theorem dX0_cut_30 : decode cX0_cut 30 = .ok (.aload_n 0, 1) := by decide +kernel
theorem dX0_cut_31 : decode cX0_cut 31 = .ok (.iload_n 1, 1) := by decide +kernel
theorem dX0_cut_32 : decode cX0_cut 32 = .ok (.iload_n 2, 1) := by decide +kernel
theorem dX0_cut_33 : decode cX0_cut 33 = .ok (.iconst 0, 1) := by decide +kernel
theorem dX0_cut_34 : decode cX0_cut 34 = .ok (.invokevirtual 134, 3) := by decide +kernel
theorem dX0_cut_37 : decode cX0_cut 37 = .ok (.aload_n 0, 1) := by decide +kernel
theorem dX0_cut_38 : decode cX0_cut 38 = .ok (.iload_n 1, 1) := by decide +kernel
theorem dX0_cut_39 : decode cX0_cut 39 = .ok (.iload_n 2, 1) := by decide +kernel
theorem dX0_cut_40 : decode cX0_cut 40 = .ok (.iadd, 1) := by decide +kernel
theorem dX0_cut_41 : decode cX0_cut 41 = .ok (.iload 5, 2) := by decide +kernel
theorem dX0_cut_43 : decode cX0_cut 43 = .ok (.iload_n 3, 1) := by decide +kernel
theorem dX0_cut_44 : decode cX0_cut 44 = .ok (.invokevirtual 134, 3) := by decide +kernel
theorem dX0_cut_47 : decode cX0_cut 47 = .ok (.iload_n 1, 1) := by decide +kernel
theorem dX0_cut_48 : decode cX0_cut 48 = .ok (.ireturn, 1) := by decide +kernel
theorem dX0_lay_0 : decode cX0_lay 0 = .ok (.aload_n 0, 1) := by decide +kernel
theorem dX0_lay_1 : decode cX0_lay 1 = .ok (.getfield 26, 3) := by decide +kernel
theorem dX0_lay_4 : decode cX0_lay 4 = .ok (.iload_n 1, 1) := by decide +kernel
theorem dX0_lay_5 : decode cX0_lay 5 = .ok (.iload_n 2, 1) := by decide +kernel
theorem dX0_lay_6 : decode cX0_lay 6 = .ok (.iastore, 1) := by decide +kernel
theorem dX0_lay_7 : decode cX0_lay 7 = .ok (.aload_n 0, 1) := by decide +kernel
theorem dX0_lay_8 : decode cX0_lay 8 = .ok (.getfield 29, 3) := by decide +kernel
theorem dX0_lay_11 : decode cX0_lay 11 = .ok (.iload_n 1, 1) := by decide +kernel
theorem dX0_lay_12 : decode cX0_lay 12 = .ok (.iload_n 3, 1) := by decide +kernel
theorem dX0_lay_13 : decode cX0_lay 13 = .ok (.iastore, 1) := by decide +kernel
theorem dX0_lay_14 : decode cX0_lay 14 = .ok (.iload_n 3, 1) := by decide +kernel
theorem dX0_lay_15 : decode cX0_lay 15 = .ok (.iconst 4, 1) := by decide +kernel
theorem dX0_lay_16 : decode cX0_lay 16 = .ok (.if_icmp .ne 11, 3) := by decide +kernel
theorem dX0_lay_19 : decode cX0_lay 19 = .ok (.aload_n 0, 1) := by decide +kernel
theorem dX0_lay_20 : decode cX0_lay 20 = .ok (.iload_n 1, 1) := by decide +kernel
theorem dX0_lay_21 : decode cX0_lay 21 = .ok (.putfield 50, 3) := by decide +kernel
theorem dX0_lay_24 : decode cX0_lay 24 = .ok (.goto 63, 3) := by decide +kernel
theorem dX0_lay_27 : decode cX0_lay 27 = .ok (.iload_n 3, 1) := by decide +kernel
theorem dX0_lay_28 : decode cX0_lay 28 = .ok (.iconst 3, 1) := by decide +kernel
theorem dX0_lay_29 : decode cX0_lay 29 = .ok (.if_icmp .ne 11, 3) := by decide +kernel
theorem dX0_lay_32 : decode cX0_lay 32 = .ok (.aload_n 0, 1) := by decide +kernel
theorem dX0_lay_33 : decode cX0_lay 33 = .ok (.iload_n 1, 1) := by decide +kernel
theorem dX0_lay_34 : decode cX0_lay 34 = .ok (.putfield 47, 3) := by decide +kernel
theorem dX0_lay_37 : decode cX0_lay 37 = .ok (.goto 50, 3) := by decide +kernel
theorem dX0_lay_40 : decode cX0_lay 40 = .ok (.iload_n 3, 1) := by decide +kernel
theorem dX0_lay_41 : decode cX0_lay 41 = .ok (.iconst 1, 1) := by decide +kernel
theorem dX0_lay_42 : decode cX0_lay 42 = .ok (.if_icmp .eq 8, 3) := by decide +kernel
theorem dX0_lay_45 : decode cX0_lay 45 = .ok (.iload_n 3, 1) := by decide +kernel
theorem dX0_lay_46 : decode cX0_lay 46 = .ok (.iconst 2, 1) := by decide +kernel
theorem dX0_lay_47 : decode cX0_lay 47 = .ok (.if_icmp .ne 40, 3) := by decide +kernel
theorem dX0_lay_50 : decode cX0_lay 50 = .ok (.aload_n 0, 1) := by decide +kernel
theorem dX0_lay_51 : decode cX0_lay 51 = .ok (.getfield 29, 3) := by decide +kernel
theorem dX0_lay_54 : decode cX0_lay 54 = .ok (.iload_n 1, 1) := by decide +kernel
theorem dX0_lay_55 : decode cX0_lay 55 = .ok (.iload_n 2, 1) := by decide +kernel
theorem dX0_lay_56 : decode cX0_lay 56 = .ok (.bipush 16, 2) := by decide +kernel
theorem dX0_lay_58 : decode cX0_lay 58 = .ok (.if_icmp .ge 7, 3) := by decide +kernel
theorem dX0_lay_61 : decode cX0_lay 61 = .ok (.iconst 1, 1) := by decide +kernel
theorem dX0_lay_62 : decode cX0_lay 62 = .ok (.goto 4, 3) := by decide +kernel
theorem dX0_lay_65 : decode cX0_lay 65 = .ok (.iconst 2, 1) := by decide +kernel
theorem dX0_lay_66 : decode cX0_lay 66 = .ok (.iastore, 1) := by decide +kernel
theorem dX0_lay_67 : decode cX0_lay 67 = .ok (.aload_n 0, 1) := by decide +kernel
theorem dX0_lay_68 : decode cX0_lay 68 = .ok (.dup, 1) := by decide +kernel
theorem dX0_lay_69 : decode cX0_lay 69 = .ok (.getfield 41, 3) := by decide +kernel
theorem dX0_lay_72 : decode cX0_lay 72 = .ok (.iconst 1, 1) := by decide +kernel
theorem dX0_lay_73 : decode cX0_lay 73 = .ok (.iadd, 1) := by decide +kernel
theorem dX0_lay_74 : decode cX0_lay 74 = .ok (.putfield 41, 3) := by decide +kernel
theorem dX0_lay_77 : decode cX0_lay 77 = .ok (.aload_n 0, 1) := by decide +kernel
theorem dX0_lay_78 : decode cX0_lay 78 = .ok (.getfield 32, 3) := by decide +kernel
theorem dX0_lay_81 : decode cX0_lay 81 = .ok (.iload_n 1, 1) := by decide +kernel
theorem dX0_lay_82 : decode cX0_lay 82 = .ok (.aload_n 0, 1) := by decide +kernel
theorem dX0_lay_83 : decode cX0_lay 83 = .ok (.getfield 41, 3) := by decide +kernel
theorem dX0_lay_86 : decode cX0_lay 86 = .ok (.iastore, 1) := by decide +kernel
theorem dX0_lay_87 : decode cX0_lay 87 = .ok (.return_, 1) := by decide +kernel
theorem dX0_lift_0 : decode cX0_lift 0 = .ok (.aload_n 0, 1) := by decide +kernel
theorem dX0_lift_1 : decode cX0_lift 1 = .ok (.getfield 26, 3) := by decide +kernel
theorem dX0_lift_4 : decode cX0_lift 4 = .ok (.iload_n 1, 1) := by decide +kernel
theorem dX0_lift_5 : decode cX0_lift 5 = .ok (.iaload, 1) := by decide +kernel
theorem dX0_lift_6 : decode cX0_lift 6 = .ok (.istore_n 2, 1) := by decide +kernel
theorem dX0_lift_7 : decode cX0_lift 7 = .ok (.aload_n 0, 1) := by decide +kernel
theorem dX0_lift_8 : decode cX0_lift 8 = .ok (.getfield 26, 3) := by decide +kernel
theorem dX0_lift_11 : decode cX0_lift 11 = .ok (.iload_n 1, 1) := by decide +kernel
theorem dX0_lift_12 : decode cX0_lift 12 = .ok (.iconst 0, 1) := by decide +kernel
theorem dX0_lift_13 : decode cX0_lift 13 = .ok (.iastore, 1) := by decide +kernel
theorem dX0_lift_14 : decode cX0_lift 14 = .ok (.aload_n 0, 1) := by decide +kernel
theorem dX0_lift_15 : decode cX0_lift 15 = .ok (.getfield 29, 3) := by decide +kernel
theorem dX0_lift_18 : decode cX0_lift 18 = .ok (.iload_n 1, 1) := by decide +kernel
theorem dX0_lift_19 : decode cX0_lift 19 = .ok (.iconst (-1), 1) := by decide +kernel
theorem dX0_lift_20 : decode cX0_lift 20 = .ok (.iastore, 1) := by decide +kernel
theorem dX0_lift_21 : decode cX0_lift 21 = .ok (.iload_n 1, 1) := by decide +kernel
theorem dX0_lift_22 : decode cX0_lift 22 = .ok (.aload_n 0, 1) := by decide +kernel
theorem dX0_lift_23 : decode cX0_lift 23 = .ok (.getfield 47, 3) := by decide +kernel
theorem dX0_lift_26 : decode cX0_lift 26 = .ok (.if_icmp .ne 8, 3) := by decide +kernel
theorem dX0_lift_29 : decode cX0_lift 29 = .ok (.aload_n 0, 1) := by decide +kernel
theorem dX0_lift_30 : decode cX0_lift 30 = .ok (.iconst (-1), 1) := by decide +kernel
theorem dX0_lift_31 : decode cX0_lift 31 = .ok (.putfield 47, 3) := by decide +kernel
theorem dX0_lift_34 : decode cX0_lift 34 = .ok (.iload_n 1, 1) := by decide +kernel
theorem dX0_lift_35 : decode cX0_lift 35 = .ok (.aload_n 0, 1) := by decide +kernel
theorem dX0_lift_36 : decode cX0_lift 36 = .ok (.getfield 50, 3) := by decide +kernel
theorem dX0_lift_39 : decode cX0_lift 39 = .ok (.if_icmp .ne 8, 3) := by decide +kernel
theorem dX0_lift_42 : decode cX0_lift 42 = .ok (.aload_n 0, 1) := by decide +kernel
theorem dX0_lift_43 : decode cX0_lift 43 = .ok (.iconst (-1), 1) := by decide +kernel
theorem dX0_lift_44 : decode cX0_lift 44 = .ok (.putfield 50, 3) := by decide +kernel
theorem dX0_lift_47 : decode cX0_lift 47 = .ok (.iload_n 2, 1) := by decide +kernel
theorem dX0_lift_48 : decode cX0_lift 48 = .ok (.ireturn, 1) := by decide +kernel
end
section
theorem dX1_init_0 : decode cX1_init 0 = .ok (.aload_n 0, 1) := by decide +kernel
theorem dX1_init_1 : decode cX1_init 1 = .ok (.invokespecial 1, 3) := by decide +kernel
theorem dX1_init_4 : decode cX1_init 4 = .ok (.aload_n 0, 1) := by decide +kernel
theorem dX1_init_5 : decode cX1_init 5 = .ok (.sipush 512, 3) := by decide +kernel
theorem dX1_init_8 : decode cX1_init 8 = .ok (.newarray .int, 2) := by decide +kernel
theorem dX1_init_10 : decode cX1_init 10 = .ok (.putfield 7, 3) := by decide +kernel
theorem dX1_init_13 : decode cX1_init 13 = .ok (.aload_n 0, 1) := by decide +kernel
theorem dX1_init_14 : decode cX1_init 14 = .ok (.sipush 258, 3) := by decide +kernel
theorem dX1_init_17 : decode cX1_init 17 = .ok (.newarray .int, 2) := by decide +kernel
theorem dX1_init_19 : decode cX1_init 19 = .ok (.putfield 13, 3) := by decide +kernel
theorem dX1_init_22 : decode cX1_init 22 = .ok (.aload_n 0, 1) := by decide +kernel
theorem dX1_init_23 : decode cX1_init 23 = .ok (.sipush 258, 3) := by decide +kernel
theorem dX1_init_26 : decode cX1_init 26 = .ok (.newarray .int, 2) := by decide +kernel
theorem dX1_init_28 : decode cX1_init 28 = .ok (.putfield 16, 3) := by decide +kernel
theorem dX1_init_31 : decode cX1_init 31 = .ok (.aload_n 0, 1) := by decide +kernel
theorem dX1_init_32 : decode cX1_init 32 = .ok (.sipush 258, 3) := by decide +kernel
theorem dX1_init_35 : decode cX1_init 35 = .ok (.newarray .boolean, 2) := by decide +kernel
theorem dX1_init_37 : decode cX1_init 37 = .ok (.putfield 19, 3) := by decide +kernel
theorem dX1_init_40 : decode cX1_init 40 = .ok (.aload_n 0, 1) := by decide +kernel
theorem dX1_init_41 : decode cX1_init 41 = .ok (.sipush 258, 3) := by decide +kernel
theorem dX1_init_44 : decode cX1_init 44 = .ok (.newarray .int, 2) := by decide +kernel
theorem dX1_init_46 : decode cX1_init 46 = .ok (.putfield 23, 3) := by decide +kernel
theorem dX1_init_49 : decode cX1_init 49 = .ok (.aload_n 0, 1) := by decide +kernel
theorem dX1_init_50 : decode cX1_init 50 = .ok (.iconst (-1), 1) := by decide +kernel
theorem dX1_init_51 : decode cX1_init 51 = .ok (.putfield 26, 3) := by decide +kernel
theorem dX1_init_54 : decode cX1_init 54 = .ok (.aload_n 0, 1) := by decide +kernel
theorem dX1_init_55 : decode cX1_init 55 = .ok (.iload_n 1, 1) := by decide +kernel
theorem dX1_init_56 : decode cX1_init 56 = .ok (.bipush 16, 2) := by decide +kernel
theorem dX1_init_58 : decode cX1_init 58 = .ok (.if_icmp .ge 8, 3) := by decide +kernel
theorem dX1_init_61 : decode cX1_init 61 = .ok (.bipush 16, 2) := by decide +kernel
theorem dX1_init_63 : decode cX1_init 63 = .ok (.goto 17, 3) := by decide +kernel
theorem dX1_init_66 : decode cX1_init 66 = .ok (.iload_n 1, 1) := by decide +kernel
theorem dX1_init_67 : decode cX1_init 67 = .ok (.sipush 512, 3) := by decide +kernel
theorem dX1_init_70 : decode cX1_init 70 = .ok (.if_icmp .le 9, 3) := by decide +kernel
theorem dX1_init_73 : decode cX1_init 73 = .ok (.sipush 512, 3) := by decide +kernel
theorem dX1_init_76 : decode cX1_init 76 = .ok (.goto 4, 3) := by decide +kernel
theorem dX1_init_79 : decode cX1_init 79 = .ok (.iload_n 1, 1) := by decide +kernel
theorem dX1_init_80 : decode cX1_init 80 = .ok (.putfield 30, 3) := by decide +kernel
theorem dX1_init_83 : decode cX1_init 83 = .ok (.return_, 1) := by decide +kernel
theorem dX1_at_0 : decode cX1_at 0 = .ok (.iconst 0, 1) := by decide +kernel
theorem dX1_at_1 : decode cX1_at 1 = .ok (.istore_n 2, 1) := by decide +kernel
theorem dX1_at_2 : decode cX1_at 2 = .ok (.iload_n 2, 1) := by decide +kernel
theorem dX1_at_3 : decode cX1_at 3 = .ok (.aload_n 0, 1) := by decide +kernel
theorem dX1_at_4 : decode cX1_at 4 = .ok (.getfield 33, 3) := by decide +kernel
theorem dX1_at_7 : decode cX1_at 7 = .ok (.if_icmp .ge 21, 3) := by decide +kernel
theorem dX1_at_10 : decode cX1_at 10 = .ok (.aload_n 0, 1) := by decide +kernel
theorem dX1_at_11 : decode cX1_at 11 = .ok (.getfield 13, 3) := by decide +kernel
theorem dX1_at_14 : decode cX1_at 14 = .ok (.iload_n 2, 1) := by decide +kernel
theorem dX1_at_15 : decode cX1_at 15 = .ok (.iaload, 1) := by decide +kernel
theorem dX1_at_16 : decode cX1_at 16 = .ok (.iload_n 1, 1) := by decide +kernel
theorem dX1_at_17 : decode cX1_at 17 = .ok (.if_icmp .ne 5, 3) := by decide +kernel
theorem dX1_at_20 : decode cX1_at 20 = .ok (.iload_n 2, 1) := by decide +kernel
theorem dX1_at_21 : decode cX1_at 21 = .ok (.ireturn, 1) := by decide +kernel
theorem dX1_at_22 : decode cX1_at 22 = .ok (.iinc 2 1, 3) := by decide +kernel
theorem dX1_at_25 : decode cX1_at 25 = .ok (.goto (-23), 3) := by decide +kernel
theorem dX1_at_28 : decode cX1_at 28 = .ok (.iconst (-1), 1) := by decide +kernel
theorem dX1_at_29 : decode cX1_at 29 = .ok (.ireturn, 1) := by decide +kernel
theorem dX1_holder_0 : decode cX1_holder 0 = .ok (.iload_n 1, 1) := by decide +kernel
theorem dX1_holder_1 : decode cX1_holder 1 = .ok (.iconst 1, 1) := by decide +kernel
theorem dX1_holder_2 : decode cX1_holder 2 = .ok (.if_icmp .ge 7, 3) := by decide +kernel
theorem dX1_holder_5 : decode cX1_holder 5 = .ok (.iconst (-1), 1) := by decide +kernel
theorem dX1_holder_6 : decode cX1_holder 6 = .ok (.goto 10, 3) := by decide +kernel
theorem dX1_holder_9 : decode cX1_holder 9 = .ok (.aload_n 0, 1) := by decide +kernel
theorem dX1_holder_10 : decode cX1_holder 10 = .ok (.iload_n 1, 1) := by decide +kernel
theorem dX1_holder_11 : decode cX1_holder 11 = .ok (.iconst 1, 1) := by decide +kernel
theorem dX1_holder_12 : decode cX1_holder 12 = .ok (.isub, 1) := by decide +kernel
theorem dX1_holder_13 : decode cX1_holder 13 = .ok (.invokevirtual 36, 3) := by decide +kernel
theorem dX1_holder_16 : decode cX1_holder 16 = .ok (.istore_n 2, 1) := by decide +kernel
theorem dX1_holder_17 : decode cX1_holder 17 = .ok (.iload_n 2, 1) := by decide +kernel
theorem dX1_holder_18 : decode cX1_holder 18 = .ok (.ifCond .lt 16, 3) := by decide +kernel
theorem dX1_holder_21 : decode cX1_holder 21 = .ok (.aload_n 0, 1) := by decide +kernel
theorem dX1_holder_22 : decode cX1_holder 22 = .ok (.getfield 19, 3) := by decide +kernel
theorem dX1_holder_25 : decode cX1_holder 25 = .ok (.iload_n 2, 1) := by decide +kernel
theorem dX1_holder_26 : decode cX1_holder 26 = .ok (.baload, 1) := by decide +kernel
theorem dX1_holder_27 : decode cX1_holder 27 = .ok (.ifCond .eq 7, 3) := by decide +kernel
theorem dX1_holder_30 : decode cX1_holder 30 = .ok (.iload_n 2, 1) := by decide +kernel
theorem dX1_holder_31 : decode cX1_holder 31 = .ok (.goto 4, 3) := by decide +kernel
theorem dX1_holder_34 : decode cX1_holder 34 = .ok (.iconst (-1), 1) := by decide +kernel
theorem dX1_holder_35 : decode cX1_holder 35 = .ok (.ireturn, 1) := by decide +kernel
theorem dX1_stateOf_0 : decode cX1_stateOf 0 = .ok (.aload_n 0, 1) := by decide +kernel
theorem dX1_stateOf_1 : decode cX1_stateOf 1 = .ok (.getfield 19, 3) := by decide +kernel
theorem dX1_stateOf_4 : decode cX1_stateOf 4 = .ok (.iload_n 1, 1) := by decide +kernel
theorem dX1_stateOf_5 : decode cX1_stateOf 5 = .ok (.baload, 1) := by decide +kernel
theorem dX1_stateOf_6 : decode cX1_stateOf 6 = .ok (.ifCond .eq 7, 3) := by decide +kernel
theorem dX1_stateOf_9 : decode cX1_stateOf 9 = .ok (.iconst 0, 1) := by decide +kernel
theorem dX1_stateOf_10 : decode cX1_stateOf 10 = .ok (.goto 60, 3) := by decide +kernel
theorem dX1_stateOf_13 : decode cX1_stateOf 13 = .ok (.aload_n 0, 1) := by decide +kernel
theorem dX1_stateOf_14 : decode cX1_stateOf 14 = .ok (.getfield 13, 3) := by decide +kernel
theorem dX1_stateOf_17 : decode cX1_stateOf 17 = .ok (.iload_n 1, 1) := by decide +kernel
theorem dX1_stateOf_18 : decode cX1_stateOf 18 = .ok (.iaload, 1) := by decide +kernel
theorem dX1_stateOf_19 : decode cX1_stateOf 19 = .ok (.aload_n 0, 1) := by decide +kernel
theorem dX1_stateOf_20 : decode cX1_stateOf 20 = .ok (.getfield 16, 3) := by decide +kernel
theorem dX1_stateOf_23 : decode cX1_stateOf 23 = .ok (.iload_n 1, 1) := by decide +kernel
theorem dX1_stateOf_24 : decode cX1_stateOf 24 = .ok (.iaload, 1) := by decide +kernel
theorem dX1_stateOf_25 : decode cX1_stateOf 25 = .ok (.iadd, 1) := by decide +kernel
theorem dX1_stateOf_26 : decode cX1_stateOf 26 = .ok (.aload_n 0, 1) := by decide +kernel
theorem dX1_stateOf_27 : decode cX1_stateOf 27 = .ok (.getfield 40, 3) := by decide +kernel
theorem dX1_stateOf_30 : decode cX1_stateOf 30 = .ok (.if_icmp .ne 7, 3) := by decide +kernel
theorem dX1_stateOf_33 : decode cX1_stateOf 33 = .ok (.iconst 4, 1) := by decide +kernel
theorem dX1_stateOf_34 : decode cX1_stateOf 34 = .ok (.goto 36, 3) := by decide +kernel
theorem dX1_stateOf_37 : decode cX1_stateOf 37 = .ok (.aload_n 0, 1) := by decide +kernel
theorem dX1_stateOf_38 : decode cX1_stateOf 38 = .ok (.getfield 13, 3) := by decide +kernel
theorem dX1_stateOf_41 : decode cX1_stateOf 41 = .ok (.iload_n 1, 1) := by decide +kernel
theorem dX1_stateOf_42 : decode cX1_stateOf 42 = .ok (.iaload, 1) := by decide +kernel
theorem dX1_stateOf_43 : decode cX1_stateOf 43 = .ok (.aload_n 0, 1) := by decide +kernel
theorem dX1_stateOf_44 : decode cX1_stateOf 44 = .ok (.getfield 26, 3) := by decide +kernel
theorem dX1_stateOf_47 : decode cX1_stateOf 47 = .ok (.if_icmp .ne 7, 3) := by decide +kernel
theorem dX1_stateOf_50 : decode cX1_stateOf 50 = .ok (.iconst 3, 1) := by decide +kernel
theorem dX1_stateOf_51 : decode cX1_stateOf 51 = .ok (.goto 19, 3) := by decide +kernel
theorem dX1_stateOf_54 : decode cX1_stateOf 54 = .ok (.aload_n 0, 1) := by decide +kernel
theorem dX1_stateOf_55 : decode cX1_stateOf 55 = .ok (.getfield 16, 3) := by decide +kernel
theorem dX1_stateOf_58 : decode cX1_stateOf 58 = .ok (.iload_n 1, 1) := by decide +kernel
theorem dX1_stateOf_59 : decode cX1_stateOf 59 = .ok (.iaload, 1) := by decide +kernel
theorem dX1_stateOf_60 : decode cX1_stateOf 60 = .ok (.bipush 16, 2) := by decide +kernel
theorem dX1_stateOf_62 : decode cX1_stateOf 62 = .ok (.if_icmp .ge 7, 3) := by decide +kernel
theorem dX1_stateOf_65 : decode cX1_stateOf 65 = .ok (.iconst 1, 1) := by decide +kernel
theorem dX1_stateOf_66 : decode cX1_stateOf 66 = .ok (.goto 4, 3) := by decide +kernel
theorem dX1_stateOf_69 : decode cX1_stateOf 69 = .ok (.iconst 2, 1) := by decide +kernel
theorem dX1_stateOf_70 : decode cX1_stateOf 70 = .ok (.ireturn, 1) := by decide +kernel
theorem dX1_top_0 : decode cX1_top 0 = .ok (.aload_n 0, 1) := by decide +kernel
theorem dX1_top_1 : decode cX1_top 1 = .ok (.getfield 33, 3) := by decide +kernel
theorem dX1_top_4 : decode cX1_top 4 = .ok (.ifCond .le 26, 3) := by decide +kernel
theorem dX1_top_7 : decode cX1_top 7 = .ok (.aload_n 0, 1) := by decide +kernel
theorem dX1_top_8 : decode cX1_top 8 = .ok (.getfield 19, 3) := by decide +kernel
theorem dX1_top_11 : decode cX1_top 11 = .ok (.aload_n 0, 1) := by decide +kernel
theorem dX1_top_12 : decode cX1_top 12 = .ok (.getfield 33, 3) := by decide +kernel
theorem dX1_top_15 : decode cX1_top 15 = .ok (.iconst 1, 1) := by decide +kernel
theorem dX1_top_16 : decode cX1_top 16 = .ok (.isub, 1) := by decide +kernel
theorem dX1_top_17 : decode cX1_top 17 = .ok (.baload, 1) := by decide +kernel
theorem dX1_top_18 : decode cX1_top 18 = .ok (.ifCond .ne 12, 3) := by decide +kernel
theorem dX1_top_21 : decode cX1_top 21 = .ok (.aload_n 0, 1) := by decide +kernel
theorem dX1_top_22 : decode cX1_top 22 = .ok (.getfield 33, 3) := by decide +kernel
theorem dX1_top_25 : decode cX1_top 25 = .ok (.iconst 1, 1) := by decide +kernel
theorem dX1_top_26 : decode cX1_top 26 = .ok (.isub, 1) := by decide +kernel
theorem dX1_top_27 : decode cX1_top 27 = .ok (.goto 4, 3) := by decide +kernel
theorem dX1_top_30 : decode cX1_top 30 = .ok (.iconst (-1), 1) := by decide +kernel
theorem dX1_top_31 : decode cX1_top 31 = .ok (.ireturn, 1) := by decide +kernel
theorem dX1_part_0 : decode cX1_part 0 = .ok (.aload_n 0, 1) := by decide +kernel
theorem dX1_part_1 : decode cX1_part 1 = .ok (.getfield 33, 3) := by decide +kernel
theorem dX1_part_4 : decode cX1_part 4 = .ok (.istore_n 3, 1) := by decide +kernel
theorem dX1_part_5 : decode cX1_part 5 = .ok (.iload_n 3, 1) := by decide +kernel
theorem dX1_part_6 : decode cX1_part 6 = .ok (.iload_n 1, 1) := by decide +kernel
theorem dX1_part_7 : decode cX1_part 7 = .ok (.iconst 1, 1) := by decide +kernel
theorem dX1_part_8 : decode cX1_part 8 = .ok (.iadd, 1) := by decide +kernel
theorem dX1_part_9 : decode cX1_part 9 = .ok (.if_icmp .le 65, 3) := by decide +kernel
theorem dX1_part_12 : decode cX1_part 12 = .ok (.aload_n 0, 1) := by decide +kernel
theorem dX1_part_13 : decode cX1_part 13 = .ok (.getfield 13, 3) := by decide +kernel
theorem dX1_part_16 : decode cX1_part 16 = .ok (.iload_n 3, 1) := by decide +kernel
theorem dX1_part_17 : decode cX1_part 17 = .ok (.aload_n 0, 1) := by decide +kernel
theorem dX1_part_18 : decode cX1_part 18 = .ok (.getfield 13, 3) := by decide +kernel
theorem dX1_part_21 : decode cX1_part 21 = .ok (.iload_n 3, 1) := by decide +kernel
theorem dX1_part_22 : decode cX1_part 22 = .ok (.iconst 1, 1) := by decide +kernel
theorem dX1_part_23 : decode cX1_part 23 = .ok (.isub, 1) := by decide +kernel
theorem dX1_part_24 : decode cX1_part 24 = .ok (.iaload, 1) := by decide +kernel
theorem dX1_part_25 : decode cX1_part 25 = .ok (.iastore, 1) := by decide +kernel
theorem dX1_part_26 : decode cX1_part 26 = .ok (.aload_n 0, 1) := by decide +kernel
theorem dX1_part_27 : decode cX1_part 27 = .ok (.getfield 16, 3) := by decide +kernel
theorem dX1_part_30 : decode cX1_part 30 = .ok (.iload_n 3, 1) := by decide +kernel
theorem dX1_part_31 : decode cX1_part 31 = .ok (.aload_n 0, 1) := by decide +kernel
theorem dX1_part_32 : decode cX1_part 32 = .ok (.getfield 16, 3) := by decide +kernel
theorem dX1_part_35 : decode cX1_part 35 = .ok (.iload_n 3, 1) := by decide +kernel
theorem dX1_part_36 : decode cX1_part 36 = .ok (.iconst 1, 1) := by decide +kernel
theorem dX1_part_37 : decode cX1_part 37 = .ok (.isub, 1) := by decide +kernel
theorem dX1_part_38 : decode cX1_part 38 = .ok (.iaload, 1) := by decide +kernel
theorem dX1_part_39 : decode cX1_part 39 = .ok (.iastore, 1) := by decide +kernel
theorem dX1_part_40 : decode cX1_part 40 = .ok (.aload_n 0, 1) := by decide +kernel
theorem dX1_part_41 : decode cX1_part 41 = .ok (.getfield 19, 3) := by decide +kernel
theorem dX1_part_44 : decode cX1_part 44 = .ok (.iload_n 3, 1) := by decide +kernel
theorem dX1_part_45 : decode cX1_part 45 = .ok (.aload_n 0, 1) := by decide +kernel
theorem dX1_part_46 : decode cX1_part 46 = .ok (.getfield 19, 3) := by decide +kernel
theorem dX1_part_49 : decode cX1_part 49 = .ok (.iload_n 3, 1) := by decide +kernel
theorem dX1_part_50 : decode cX1_part 50 = .ok (.iconst 1, 1) := by decide +kernel
theorem dX1_part_51 : decode cX1_part 51 = .ok (.isub, 1) := by decide +kernel
theorem dX1_part_52 : decode cX1_part 52 = .ok (.baload, 1) := by decide +kernel
theorem dX1_part_53 : decode cX1_part 53 = .ok (.bastore, 1) := by decide +kernel
theorem dX1_part_54 : decode cX1_part 54 = .ok (.aload_n 0, 1) := by decide +kernel
theorem dX1_part_55 : decode cX1_part 55 = .ok (.getfield 23, 3) := by decide +kernel
theorem dX1_part_58 : decode cX1_part 58 = .ok (.iload_n 3, 1) := by decide +kernel
theorem dX1_part_59 : decode cX1_part 59 = .ok (.aload_n 0, 1) := by decide +kernel
theorem dX1_part_60 : decode cX1_part 60 = .ok (.getfield 23, 3) := by decide +kernel
theorem dX1_part_63 : decode cX1_part 63 = .ok (.iload_n 3, 1) := by decide +kernel
theorem dX1_part_64 : decode cX1_part 64 = .ok (.iconst 1, 1) := by decide +kernel
theorem dX1_part_65 : decode cX1_part 65 = .ok (.isub, 1) := by decide +kernel
theorem dX1_part_66 : decode cX1_part 66 = .ok (.iaload, 1) := by decide +kernel
theorem dX1_part_67 : decode cX1_part 67 = .ok (.iastore, 1) := by decide +kernel
theorem dX1_part_68 : decode cX1_part 68 = .ok (.iinc 3 (-1), 3) := by decide +kernel
theorem dX1_part_71 : decode cX1_part 71 = .ok (.goto (-66), 3) := by decide +kernel
theorem dX1_part_74 : decode cX1_part 74 = .ok (.aload_n 0, 1) := by decide +kernel
theorem dX1_part_75 : decode cX1_part 75 = .ok (.dup, 1) := by decide +kernel
theorem dX1_part_76 : decode cX1_part 76 = .ok (.getfield 33, 3) := by decide +kernel
theorem dX1_part_79 : decode cX1_part 79 = .ok (.iconst 1, 1) := by decide +kernel
theorem dX1_part_80 : decode cX1_part 80 = .ok (.iadd, 1) := by decide +kernel
theorem dX1_part_81 : decode cX1_part 81 = .ok (.putfield 33, 3) := by decide +kernel
theorem dX1_part_84 : decode cX1_part 84 = .ok (.aload_n 0, 1) := by decide +kernel
theorem dX1_part_85 : decode cX1_part 85 = .ok (.getfield 13, 3) := by decide +kernel
theorem dX1_part_88 : decode cX1_part 88 = .ok (.iload_n 1, 1) := by decide +kernel
theorem dX1_part_89 : decode cX1_part 89 = .ok (.iconst 1, 1) := by decide +kernel
theorem dX1_part_90 : decode cX1_part 90 = .ok (.iadd, 1) := by decide +kernel
theorem dX1_part_91 : decode cX1_part 91 = .ok (.aload_n 0, 1) := by decide +kernel
theorem dX1_part_92 : decode cX1_part 92 = .ok (.getfield 13, 3) := by decide +kernel
theorem dX1_part_95 : decode cX1_part 95 = .ok (.iload_n 1, 1) := by decide +kernel
theorem dX1_part_96 : decode cX1_part 96 = .ok (.iaload, 1) := by decide +kernel
theorem dX1_part_97 : decode cX1_part 97 = .ok (.iload_n 2, 1) := by decide +kernel
theorem dX1_part_98 : decode cX1_part 98 = .ok (.iadd, 1) := by decide +kernel
theorem dX1_part_99 : decode cX1_part 99 = .ok (.iastore, 1) := by decide +kernel
theorem dX1_part_100 : decode cX1_part 100 = .ok (.aload_n 0, 1) := by decide +kernel
theorem dX1_part_101 : decode cX1_part 101 = .ok (.getfield 16, 3) := by decide +kernel
theorem dX1_part_104 : decode cX1_part 104 = .ok (.iload_n 1, 1) := by decide +kernel
theorem dX1_part_105 : decode cX1_part 105 = .ok (.iconst 1, 1) := by decide +kernel
theorem dX1_part_106 : decode cX1_part 106 = .ok (.iadd, 1) := by decide +kernel
theorem dX1_part_107 : decode cX1_part 107 = .ok (.aload_n 0, 1) := by decide +kernel
theorem dX1_part_108 : decode cX1_part 108 = .ok (.getfield 16, 3) := by decide +kernel
theorem dX1_part_111 : decode cX1_part 111 = .ok (.iload_n 1, 1) := by decide +kernel
theorem dX1_part_112 : decode cX1_part 112 = .ok (.iaload, 1) := by decide +kernel
theorem dX1_part_113 : decode cX1_part 113 = .ok (.iload_n 2, 1) := by decide +kernel
theorem dX1_part_114 : decode cX1_part 114 = .ok (.isub, 1) := by decide +kernel
theorem dX1_part_115 : decode cX1_part 115 = .ok (.iastore, 1) := by decide +kernel
theorem dX1_part_116 : decode cX1_part 116 = .ok (.aload_n 0, 1) := by decide +kernel
theorem dX1_part_117 : decode cX1_part 117 = .ok (.getfield 19, 3) := by decide +kernel
theorem dX1_part_120 : decode cX1_part 120 = .ok (.iload_n 1, 1) := by decide +kernel
theorem dX1_part_121 : decode cX1_part 121 = .ok (.iconst 1, 1) := by decide +kernel
theorem dX1_part_122 : decode cX1_part 122 = .ok (.iadd, 1) := by decide +kernel
theorem dX1_part_123 : decode cX1_part 123 = .ok (.iconst 0, 1) := by decide +kernel
theorem dX1_part_124 : decode cX1_part 124 = .ok (.bastore, 1) := by decide +kernel
theorem dX1_part_125 : decode cX1_part 125 = .ok (.aload_n 0, 1) := by decide +kernel
theorem dX1_part_126 : decode cX1_part 126 = .ok (.getfield 23, 3) := by decide +kernel
theorem dX1_part_129 : decode cX1_part 129 = .ok (.iload_n 1, 1) := by decide +kernel
theorem dX1_part_130 : decode cX1_part 130 = .ok (.iconst 1, 1) := by decide +kernel
theorem dX1_part_131 : decode cX1_part 131 = .ok (.iadd, 1) := by decide +kernel
theorem dX1_part_132 : decode cX1_part 132 = .ok (.iconst 0, 1) := by decide +kernel
theorem dX1_part_133 : decode cX1_part 133 = .ok (.iastore, 1) := by decide +kernel
theorem dX1_part_134 : decode cX1_part 134 = .ok (.aload_n 0, 1) := by decide +kernel
theorem dX1_part_135 : decode cX1_part 135 = .ok (.getfield 16, 3) := by decide +kernel
theorem dX1_part_138 : decode cX1_part 138 = .ok (.iload_n 1, 1) := by decide +kernel
theorem dX1_part_139 : decode cX1_part 139 = .ok (.iload_n 2, 1) := by decide +kernel
theorem dX1_part_140 : decode cX1_part 140 = .ok (.iastore, 1) := by decide +kernel
theorem dX1_part_141 : decode cX1_part 141 = .ok (.return_, 1) := by decide +kernel
theorem dX1_join_0 : decode cX1_join 0 = .ok (.aload_n 0, 1) := by decide +kernel
theorem dX1_join_1 : decode cX1_join 1 = .ok (.getfield 16, 3) := by decide +kernel
theorem dX1_join_4 : decode cX1_join 4 = .ok (.iload_n 1, 1) := by decide +kernel
theorem dX1_join_5 : decode cX1_join 5 = .ok (.aload_n 0, 1) := by decide +kernel
theorem dX1_join_6 : decode cX1_join 6 = .ok (.getfield 16, 3) := by decide +kernel
theorem dX1_join_9 : decode cX1_join 9 = .ok (.iload_n 1, 1) := by decide +kernel
theorem dX1_join_10 : decode cX1_join 10 = .ok (.iaload, 1) := by decide +kernel
theorem dX1_join_11 : decode cX1_join 11 = .ok (.aload_n 0, 1) := by decide +kernel
theorem dX1_join_12 : decode cX1_join 12 = .ok (.getfield 16, 3) := by decide +kernel
theorem dX1_join_15 : decode cX1_join 15 = .ok (.iload_n 1, 1) := by decide +kernel
theorem dX1_join_16 : decode cX1_join 16 = .ok (.iconst 1, 1) := by decide +kernel
theorem dX1_join_17 : decode cX1_join 17 = .ok (.iadd, 1) := by decide +kernel
theorem dX1_join_18 : decode cX1_join 18 = .ok (.iaload, 1) := by decide +kernel
theorem dX1_join_19 : decode cX1_join 19 = .ok (.iadd, 1) := by decide +kernel
theorem dX1_join_20 : decode cX1_join 20 = .ok (.iastore, 1) := by decide +kernel
theorem dX1_join_21 : decode cX1_join 21 = .ok (.iload_n 1, 1) := by decide +kernel
theorem dX1_join_22 : decode cX1_join 22 = .ok (.iconst 1, 1) := by decide +kernel
theorem dX1_join_23 : decode cX1_join 23 = .ok (.iadd, 1) := by decide +kernel
theorem dX1_join_24 : decode cX1_join 24 = .ok (.istore_n 2, 1) := by decide +kernel
theorem dX1_join_25 : decode cX1_join 25 = .ok (.iload_n 2, 1) := by decide +kernel
theorem dX1_join_26 : decode cX1_join 26 = .ok (.iconst 1, 1) := by decide +kernel
theorem dX1_join_27 : decode cX1_join 27 = .ok (.iadd, 1) := by decide +kernel
theorem dX1_join_28 : decode cX1_join 28 = .ok (.aload_n 0, 1) := by decide +kernel
theorem dX1_join_29 : decode cX1_join 29 = .ok (.getfield 33, 3) := by decide +kernel
theorem dX1_join_32 : decode cX1_join 32 = .ok (.if_icmp .ge 65, 3) := by decide +kernel
theorem dX1_join_35 : decode cX1_join 35 = .ok (.aload_n 0, 1) := by decide +kernel
theorem dX1_join_36 : decode cX1_join 36 = .ok (.getfield 13, 3) := by decide +kernel
theorem dX1_join_39 : decode cX1_join 39 = .ok (.iload_n 2, 1) := by decide +kernel
theorem dX1_join_40 : decode cX1_join 40 = .ok (.aload_n 0, 1) := by decide +kernel
theorem dX1_join_41 : decode cX1_join 41 = .ok (.getfield 13, 3) := by decide +kernel
theorem dX1_join_44 : decode cX1_join 44 = .ok (.iload_n 2, 1) := by decide +kernel
theorem dX1_join_45 : decode cX1_join 45 = .ok (.iconst 1, 1) := by decide +kernel
theorem dX1_join_46 : decode cX1_join 46 = .ok (.iadd, 1) := by decide +kernel
theorem dX1_join_47 : decode cX1_join 47 = .ok (.iaload, 1) := by decide +kernel
theorem dX1_join_48 : decode cX1_join 48 = .ok (.iastore, 1) := by decide +kernel
theorem dX1_join_49 : decode cX1_join 49 = .ok (.aload_n 0, 1) := by decide +kernel
theorem dX1_join_50 : decode cX1_join 50 = .ok (.getfield 16, 3) := by decide +kernel
theorem dX1_join_53 : decode cX1_join 53 = .ok (.iload_n 2, 1) := by decide +kernel
theorem dX1_join_54 : decode cX1_join 54 = .ok (.aload_n 0, 1) := by decide +kernel
theorem dX1_join_55 : decode cX1_join 55 = .ok (.getfield 16, 3) := by decide +kernel
theorem dX1_join_58 : decode cX1_join 58 = .ok (.iload_n 2, 1) := by decide +kernel
theorem dX1_join_59 : decode cX1_join 59 = .ok (.iconst 1, 1) := by decide +kernel
theorem dX1_join_60 : decode cX1_join 60 = .ok (.iadd, 1) := by decide +kernel
theorem dX1_join_61 : decode cX1_join 61 = .ok (.iaload, 1) := by decide +kernel
theorem dX1_join_62 : decode cX1_join 62 = .ok (.iastore, 1) := by decide +kernel
theorem dX1_join_63 : decode cX1_join 63 = .ok (.aload_n 0, 1) := by decide +kernel
theorem dX1_join_64 : decode cX1_join 64 = .ok (.getfield 19, 3) := by decide +kernel
theorem dX1_join_67 : decode cX1_join 67 = .ok (.iload_n 2, 1) := by decide +kernel
theorem dX1_join_68 : decode cX1_join 68 = .ok (.aload_n 0, 1) := by decide +kernel
theorem dX1_join_69 : decode cX1_join 69 = .ok (.getfield 19, 3) := by decide +kernel
theorem dX1_join_72 : decode cX1_join 72 = .ok (.iload_n 2, 1) := by decide +kernel
theorem dX1_join_73 : decode cX1_join 73 = .ok (.iconst 1, 1) := by decide +kernel
theorem dX1_join_74 : decode cX1_join 74 = .ok (.iadd, 1) := by decide +kernel
theorem dX1_join_75 : decode cX1_join 75 = .ok (.baload, 1) := by decide +kernel
theorem dX1_join_76 : decode cX1_join 76 = .ok (.bastore, 1) := by decide +kernel
theorem dX1_join_77 : decode cX1_join 77 = .ok (.aload_n 0, 1) := by decide +kernel
theorem dX1_join_78 : decode cX1_join 78 = .ok (.getfield 23, 3) := by decide +kernel
theorem dX1_join_81 : decode cX1_join 81 = .ok (.iload_n 2, 1) := by decide +kernel
theorem dX1_join_82 : decode cX1_join 82 = .ok (.aload_n 0, 1) := by decide +kernel
theorem dX1_join_83 : decode cX1_join 83 = .ok (.getfield 23, 3) := by decide +kernel
theorem dX1_join_86 : decode cX1_join 86 = .ok (.iload_n 2, 1) := by decide +kernel
theorem dX1_join_87 : decode cX1_join 87 = .ok (.iconst 1, 1) := by decide +kernel
theorem dX1_join_88 : decode cX1_join 88 = .ok (.iadd, 1) := by decide +kernel
theorem dX1_join_89 : decode cX1_join 89 = .ok (.iaload, 1) := by decide +kernel
theorem dX1_join_90 : decode cX1_join 90 = .ok (.iastore, 1) := by decide +kernel
theorem dX1_join_91 : decode cX1_join 91 = .ok (.iinc 2 1, 3) := by decide +kernel
theorem dX1_join_94 : decode cX1_join 94 = .ok (.goto (-69), 3) := by decide +kernel
theorem dX1_join_97 : decode cX1_join 97 = .ok (.aload_n 0, 1) := by decide +kernel
theorem dX1_join_98 : decode cX1_join 98 = .ok (.dup, 1) := by decide +kernel
theorem dX1_join_99 : decode cX1_join 99 = .ok (.getfield 33, 3) := by decide +kernel
theorem dX1_join_102 : decode cX1_join 102 = .ok (.iconst 1, 1) := by decide +kernel
theorem dX1_join_103 : decode cX1_join 103 = .ok (.isub, 1) := by decide +kernel
theorem dX1_join_104 : decode cX1_join 104 = .ok (.putfield 33, 3) := by decide +kernel
theorem dX1_join_107 : decode cX1_join 107 = .ok (.return_, 1) := by decide +kernel
theorem dX1_store_0 : decode cX1_store 0 = .ok (.aload_n 0, 1) := by decide +kernel
theorem dX1_store_1 : decode cX1_store 1 = .ok (.dup, 1) := by decide +kernel
theorem dX1_store_2 : decode cX1_store 2 = .ok (.getfield 43, 3) := by decide +kernel
theorem dX1_store_5 : decode cX1_store 5 = .ok (.iconst 1, 1) := by decide +kernel
theorem dX1_store_6 : decode cX1_store 6 = .ok (.iadd, 1) := by decide +kernel
theorem dX1_store_7 : decode cX1_store 7 = .ok (.putfield 43, 3) := by decide +kernel
theorem dX1_store_10 : decode cX1_store 10 = .ok (.aload_n 0, 1) := by decide +kernel
theorem dX1_store_11 : decode cX1_store 11 = .ok (.getfield 23, 3) := by decide +kernel
theorem dX1_store_14 : decode cX1_store 14 = .ok (.iload_n 1, 1) := by decide +kernel
theorem dX1_store_15 : decode cX1_store 15 = .ok (.aload_n 0, 1) := by decide +kernel
theorem dX1_store_16 : decode cX1_store 16 = .ok (.getfield 43, 3) := by decide +kernel
theorem dX1_store_19 : decode cX1_store 19 = .ok (.iastore, 1) := by decide +kernel
theorem dX1_store_20 : decode cX1_store 20 = .ok (.return_, 1) := by decide +kernel
theorem dX1_cut_0 : decode cX1_cut 0 = .ok (.aload_n 0, 1) := by decide +kernel
theorem dX1_cut_1 : decode cX1_cut 1 = .ok (.getfield 19, 3) := by decide +kernel
theorem dX1_cut_4 : decode cX1_cut 4 = .ok (.iload_n 1, 1) := by decide +kernel
theorem dX1_cut_5 : decode cX1_cut 5 = .ok (.iconst 1, 1) := by decide +kernel
theorem dX1_cut_6 : decode cX1_cut 6 = .ok (.bastore, 1) := by decide +kernel
theorem dX1_cut_7 : decode cX1_cut 7 = .ok (.aload_n 0, 1) := by decide +kernel
theorem dX1_cut_8 : decode cX1_cut 8 = .ok (.getfield 16, 3) := by decide +kernel
theorem dX1_cut_11 : decode cX1_cut 11 = .ok (.iload_n 1, 1) := by decide +kernel
theorem dX1_cut_12 : decode cX1_cut 12 = .ok (.iaload, 1) := by decide +kernel
theorem dX1_cut_13 : decode cX1_cut 13 = .ok (.iload_n 2, 1) := by decide +kernel
theorem dX1_cut_14 : decode cX1_cut 14 = .ok (.isub, 1) := by decide +kernel
theorem dX1_cut_15 : decode cX1_cut 15 = .ok (.iconst 2, 1) := by decide +kernel
theorem dX1_cut_16 : decode cX1_cut 16 = .ok (.if_icmp .ge 5, 3) := by decide +kernel
theorem dX1_cut_19 : decode cX1_cut 19 = .ok (.iconst 0, 1) := by decide +kernel
theorem dX1_cut_20 : decode cX1_cut 20 = .ok (.ireturn, 1) := by decide +kernel
theorem dX1_cut_21 : decode cX1_cut 21 = .ok (.aload_n 0, 1) := by decide +kernel
theorem dX1_cut_22 : decode cX1_cut 22 = .ok (.iload_n 1, 1) := by decide +kernel
theorem dX1_cut_23 : decode cX1_cut 23 = .ok (.iload_n 2, 1) := by decide +kernel
theorem dX1_cut_24 : decode cX1_cut 24 = .ok (.invokevirtual 46, 3) := by decide +kernel
theorem dX1_cut_27 : decode cX1_cut 27 = .ok (.iconst 1, 1) := by decide +kernel
theorem dX1_cut_28 : decode cX1_cut 28 = .ok (.ireturn, 1) := by decide +kernel
theorem dX1_best_0 : decode cX1_best 0 = .ok (.iconst (-1), 1) := by decide +kernel
theorem dX1_best_1 : decode cX1_best 1 = .ok (.istore_n 3, 1) := by decide +kernel
theorem dX1_best_2 : decode cX1_best 2 = .ok (.iconst 0, 1) := by decide +kernel
theorem dX1_best_3 : decode cX1_best 3 = .ok (.istore 4, 2) := by decide +kernel
theorem dX1_best_5 : decode cX1_best 5 = .ok (.iload 4, 2) := by decide +kernel
theorem dX1_best_7 : decode cX1_best 7 = .ok (.aload_n 0, 1) := by decide +kernel
theorem dX1_best_8 : decode cX1_best 8 = .ok (.getfield 33, 3) := by decide +kernel
theorem dX1_best_11 : decode cX1_best 11 = .ok (.if_icmp .ge 118, 3) := by decide +kernel
theorem dX1_best_14 : decode cX1_best 14 = .ok (.aload_n 0, 1) := by decide +kernel
theorem dX1_best_15 : decode cX1_best 15 = .ok (.iload 4, 2) := by decide +kernel
theorem dX1_best_17 : decode cX1_best 17 = .ok (.invokevirtual 50, 3) := by decide +kernel
theorem dX1_best_20 : decode cX1_best 20 = .ok (.istore 5, 2) := by decide +kernel
theorem dX1_best_22 : decode cX1_best 22 = .ok (.iload 5, 2) := by decide +kernel
theorem dX1_best_24 : decode cX1_best 24 = .ok (.iconst 1, 1) := by decide +kernel
theorem dX1_best_25 : decode cX1_best 25 = .ok (.if_icmp .eq 9, 3) := by decide +kernel
theorem dX1_best_28 : decode cX1_best 28 = .ok (.iload 5, 2) := by decide +kernel
theorem dX1_best_30 : decode cX1_best 30 = .ok (.iconst 2, 1) := by decide +kernel
theorem dX1_best_31 : decode cX1_best 31 = .ok (.if_icmp .ne 29, 3) := by decide +kernel
theorem dX1_best_34 : decode cX1_best 34 = .ok (.aload_n 0, 1) := by decide +kernel
theorem dX1_best_35 : decode cX1_best 35 = .ok (.getfield 16, 3) := by decide +kernel
theorem dX1_best_38 : decode cX1_best 38 = .ok (.iload 4, 2) := by decide +kernel
theorem dX1_best_40 : decode cX1_best 40 = .ok (.iaload, 1) := by decide +kernel
theorem dX1_best_41 : decode cX1_best 41 = .ok (.iload_n 1, 1) := by decide +kernel
theorem dX1_best_42 : decode cX1_best 42 = .ok (.if_icmp .lt 18, 3) := by decide +kernel
theorem dX1_best_45 : decode cX1_best 45 = .ok (.aload_n 0, 1) := by decide +kernel
theorem dX1_best_46 : decode cX1_best 46 = .ok (.getfield 16, 3) := by decide +kernel
theorem dX1_best_49 : decode cX1_best 49 = .ok (.iload 4, 2) := by decide +kernel
theorem dX1_best_51 : decode cX1_best 51 = .ok (.iaload, 1) := by decide +kernel
theorem dX1_best_52 : decode cX1_best 52 = .ok (.iload_n 2, 1) := by decide +kernel
theorem dX1_best_53 : decode cX1_best 53 = .ok (.if_icmp .gt 7, 3) := by decide +kernel
theorem dX1_best_56 : decode cX1_best 56 = .ok (.iconst 1, 1) := by decide +kernel
theorem dX1_best_57 : decode cX1_best 57 = .ok (.goto 4, 3) := by decide +kernel
theorem dX1_best_60 : decode cX1_best 60 = .ok (.iconst 0, 1) := by decide +kernel
theorem dX1_best_61 : decode cX1_best 61 = .ok (.istore 6, 2) := by decide +kernel
theorem dX1_best_63 : decode cX1_best 63 = .ok (.iload 6, 2) := by decide +kernel
theorem dX1_best_65 : decode cX1_best 65 = .ok (.ifCond .eq 58, 3) := by decide +kernel
theorem dX1_best_68 : decode cX1_best 68 = .ok (.iload_n 3, 1) := by decide +kernel
theorem dX1_best_69 : decode cX1_best 69 = .ok (.ifCond .lt 51, 3) := by decide +kernel
theorem dX1_best_72 : decode cX1_best 72 = .ok (.aload_n 0, 1) := by decide +kernel
theorem dX1_best_73 : decode cX1_best 73 = .ok (.getfield 16, 3) := by decide +kernel
theorem dX1_best_76 : decode cX1_best 76 = .ok (.iload 4, 2) := by decide +kernel
theorem dX1_best_78 : decode cX1_best 78 = .ok (.iaload, 1) := by decide +kernel
theorem dX1_best_79 : decode cX1_best 79 = .ok (.aload_n 0, 1) := by decide +kernel
theorem dX1_best_80 : decode cX1_best 80 = .ok (.getfield 16, 3) := by decide +kernel
theorem dX1_best_83 : decode cX1_best 83 = .ok (.iload_n 3, 1) := by decide +kernel
theorem dX1_best_84 : decode cX1_best 84 = .ok (.iaload, 1) := by decide +kernel
theorem dX1_best_85 : decode cX1_best 85 = .ok (.if_icmp .lt 35, 3) := by decide +kernel
theorem dX1_best_88 : decode cX1_best 88 = .ok (.aload_n 0, 1) := by decide +kernel
theorem dX1_best_89 : decode cX1_best 89 = .ok (.getfield 16, 3) := by decide +kernel
theorem dX1_best_92 : decode cX1_best 92 = .ok (.iload 4, 2) := by decide +kernel
theorem dX1_best_94 : decode cX1_best 94 = .ok (.iaload, 1) := by decide +kernel
theorem dX1_best_95 : decode cX1_best 95 = .ok (.aload_n 0, 1) := by decide +kernel
theorem dX1_best_96 : decode cX1_best 96 = .ok (.getfield 16, 3) := by decide +kernel
theorem dX1_best_99 : decode cX1_best 99 = .ok (.iload_n 3, 1) := by decide +kernel
theorem dX1_best_100 : decode cX1_best 100 = .ok (.iaload, 1) := by decide +kernel
theorem dX1_best_101 : decode cX1_best 101 = .ok (.if_icmp .ne 22, 3) := by decide +kernel
theorem dX1_best_104 : decode cX1_best 104 = .ok (.aload_n 0, 1) := by decide +kernel
theorem dX1_best_105 : decode cX1_best 105 = .ok (.getfield 23, 3) := by decide +kernel
theorem dX1_best_108 : decode cX1_best 108 = .ok (.iload 4, 2) := by decide +kernel
theorem dX1_best_110 : decode cX1_best 110 = .ok (.iaload, 1) := by decide +kernel
theorem dX1_best_111 : decode cX1_best 111 = .ok (.aload_n 0, 1) := by decide +kernel
theorem dX1_best_112 : decode cX1_best 112 = .ok (.getfield 23, 3) := by decide +kernel
theorem dX1_best_115 : decode cX1_best 115 = .ok (.iload_n 3, 1) := by decide +kernel
theorem dX1_best_116 : decode cX1_best 116 = .ok (.iaload, 1) := by decide +kernel
theorem dX1_best_117 : decode cX1_best 117 = .ok (.if_icmp .le 6, 3) := by decide +kernel
theorem dX1_best_120 : decode cX1_best 120 = .ok (.iload 4, 2) := by decide +kernel
theorem dX1_best_122 : decode cX1_best 122 = .ok (.istore_n 3, 1) := by decide +kernel
theorem dX1_best_123 : decode cX1_best 123 = .ok (.iinc 4 1, 3) := by decide +kernel
theorem dX1_best_126 : decode cX1_best 126 = .ok (.goto (-121), 3) := by decide +kernel
theorem dX1_best_129 : decode cX1_best 129 = .ok (.iload_n 3, 1) := by decide +kernel
theorem dX1_best_130 : decode cX1_best 130 = .ok (.ireturn, 1) := by decide +kernel
theorem dX1_fromVictim_0 : decode cX1_fromVictim 0 = .ok (.aload_n 0, 1) := by decide +kernel
theorem dX1_fromVictim_1 : decode cX1_fromVictim 1 = .ok (.getfield 26, 3) := by decide +kernel
theorem dX1_fromVictim_4 : decode cX1_fromVictim 4 = .ok (.ifCond .ge 7, 3) := by decide +kernel
theorem dX1_fromVictim_7 : decode cX1_fromVictim 7 = .ok (.iconst (-1), 1) := by decide +kernel
theorem dX1_fromVictim_8 : decode cX1_fromVictim 8 = .ok (.goto 11, 3) := by decide +kernel
theorem dX1_fromVictim_11 : decode cX1_fromVictim 11 = .ok (.aload_n 0, 1) := by decide +kernel
theorem dX1_fromVictim_12 : decode cX1_fromVictim 12 = .ok (.aload_n 0, 1) := by decide +kernel
theorem dX1_fromVictim_13 : decode cX1_fromVictim 13 = .ok (.getfield 26, 3) := by decide +kernel
theorem dX1_fromVictim_16 : decode cX1_fromVictim 16 = .ok (.invokevirtual 36, 3) := by decide +kernel
theorem dX1_fromVictim_19 : decode cX1_fromVictim 19 = .ok (.istore_n 2, 1) := by decide +kernel
theorem dX1_fromVictim_20 : decode cX1_fromVictim 20 = .ok (.iload_n 2, 1) := by decide +kernel
theorem dX1_fromVictim_21 : decode cX1_fromVictim 21 = .ok (.ifCond .lt 13, 3) := by decide +kernel
theorem dX1_fromVictim_24 : decode cX1_fromVictim 24 = .ok (.aload_n 0, 1) := by decide +kernel
theorem dX1_fromVictim_25 : decode cX1_fromVictim 25 = .ok (.getfield 16, 3) := by decide +kernel
theorem dX1_fromVictim_28 : decode cX1_fromVictim 28 = .ok (.iload_n 2, 1) := by decide +kernel
theorem dX1_fromVictim_29 : decode cX1_fromVictim 29 = .ok (.iaload, 1) := by decide +kernel
theorem dX1_fromVictim_30 : decode cX1_fromVictim 30 = .ok (.iload_n 1, 1) := by decide +kernel
theorem dX1_fromVictim_31 : decode cX1_fromVictim 31 = .ok (.if_icmp .ge 5, 3) := by decide +kernel
theorem dX1_fromVictim_34 : decode cX1_fromVictim 34 = .ok (.iconst (-1), 1) := by decide +kernel
theorem dX1_fromVictim_35 : decode cX1_fromVictim 35 = .ok (.ireturn, 1) := by decide +kernel
theorem dX1_fromVictim_36 : decode cX1_fromVictim 36 = .ok (.aload_n 0, 1) := by decide +kernel
theorem dX1_fromVictim_37 : decode cX1_fromVictim 37 = .ok (.aload_n 0, 1) := by decide +kernel
theorem dX1_fromVictim_38 : decode cX1_fromVictim 38 = .ok (.iload_n 2, 1) := by decide +kernel
theorem dX1_fromVictim_39 : decode cX1_fromVictim 39 = .ok (.iload_n 1, 1) := by decide +kernel
theorem dX1_fromVictim_40 : decode cX1_fromVictim 40 = .ok (.invokevirtual 53, 3) := by decide +kernel
theorem dX1_fromVictim_43 : decode cX1_fromVictim 43 = .ok (.ifCond .eq 14, 3) := by decide +kernel
theorem dX1_fromVictim_46 : decode cX1_fromVictim 46 = .ok (.aload_n 0, 1) := by decide +kernel
theorem dX1_fromVictim_47 : decode cX1_fromVictim 47 = .ok (.getfield 13, 3) := by decide +kernel
theorem dX1_fromVictim_50 : decode cX1_fromVictim 50 = .ok (.iload_n 2, 1) := by decide +kernel
theorem dX1_fromVictim_51 : decode cX1_fromVictim 51 = .ok (.iconst 1, 1) := by decide +kernel
theorem dX1_fromVictim_52 : decode cX1_fromVictim 52 = .ok (.iadd, 1) := by decide +kernel
theorem dX1_fromVictim_53 : decode cX1_fromVictim 53 = .ok (.iaload, 1) := by decide +kernel
theorem dX1_fromVictim_54 : decode cX1_fromVictim 54 = .ok (.goto 4, 3) := by decide +kernel
theorem dX1_fromVictim_57 : decode cX1_fromVictim 57 = .ok (.iconst (-1), 1) := by decide +kernel
theorem dX1_fromVictim_58 : decode cX1_fromVictim 58 = .ok (.putfield 26, 3) := by decide +kernel
theorem dX1_fromVictim_61 : decode cX1_fromVictim 61 = .ok (.iload_n 2, 1) := by decide +kernel
theorem dX1_fromVictim_62 : decode cX1_fromVictim 62 = .ok (.ireturn, 1) := by decide +kernel
theorem dX1_takeSmall_0 : decode cX1_takeSmall 0 = .ok (.aload_n 0, 1) := by decide +kernel
theorem dX1_takeSmall_1 : decode cX1_takeSmall 1 = .ok (.iload_n 1, 1) := by decide +kernel
theorem dX1_takeSmall_2 : decode cX1_takeSmall 2 = .ok (.iload_n 1, 1) := by decide +kernel
theorem dX1_takeSmall_3 : decode cX1_takeSmall 3 = .ok (.bipush 15, 2) := by decide +kernel
theorem dX1_takeSmall_5 : decode cX1_takeSmall 5 = .ok (.if_icmp .ge 9, 3) := by decide +kernel
theorem dX1_takeSmall_8 : decode cX1_takeSmall 8 = .ok (.iload_n 1, 1) := by decide +kernel
theorem dX1_takeSmall_9 : decode cX1_takeSmall 9 = .ok (.iconst 1, 1) := by decide +kernel
theorem dX1_takeSmall_10 : decode cX1_takeSmall 10 = .ok (.iadd, 1) := by decide +kernel
theorem dX1_takeSmall_11 : decode cX1_takeSmall 11 = .ok (.goto 4, 3) := by decide +kernel
theorem dX1_takeSmall_14 : decode cX1_takeSmall 14 = .ok (.iload_n 1, 1) := by decide +kernel
theorem dX1_takeSmall_15 : decode cX1_takeSmall 15 = .ok (.invokevirtual 57, 3) := by decide +kernel
theorem dX1_takeSmall_18 : decode cX1_takeSmall 18 = .ok (.istore_n 2, 1) := by decide +kernel
theorem dX1_takeSmall_19 : decode cX1_takeSmall 19 = .ok (.iload_n 2, 1) := by decide +kernel
theorem dX1_takeSmall_20 : decode cX1_takeSmall 20 = .ok (.ifCond .lt 12, 3) := by decide +kernel
theorem dX1_takeSmall_23 : decode cX1_takeSmall 23 = .ok (.aload_n 0, 1) := by decide +kernel
theorem dX1_takeSmall_24 : decode cX1_takeSmall 24 = .ok (.getfield 19, 3) := by decide +kernel
theorem dX1_takeSmall_27 : decode cX1_takeSmall 27 = .ok (.iload_n 2, 1) := by decide +kernel
theorem dX1_takeSmall_28 : decode cX1_takeSmall 28 = .ok (.iconst 1, 1) := by decide +kernel
theorem dX1_takeSmall_29 : decode cX1_takeSmall 29 = .ok (.bastore, 1) := by decide +kernel
theorem dX1_takeSmall_30 : decode cX1_takeSmall 30 = .ok (.iload_n 2, 1) := by decide +kernel
theorem dX1_takeSmall_31 : decode cX1_takeSmall 31 = .ok (.ireturn, 1) := by decide +kernel
theorem dX1_takeSmall_32 : decode cX1_takeSmall 32 = .ok (.aload_n 0, 1) := by decide +kernel
theorem dX1_takeSmall_33 : decode cX1_takeSmall 33 = .ok (.iload_n 1, 1) := by decide +kernel
theorem dX1_takeSmall_34 : decode cX1_takeSmall 34 = .ok (.invokevirtual 61, 3) := by decide +kernel
theorem dX1_takeSmall_37 : decode cX1_takeSmall 37 = .ok (.istore_n 2, 1) := by decide +kernel
theorem dX1_takeSmall_38 : decode cX1_takeSmall 38 = .ok (.iload_n 2, 1) := by decide +kernel
theorem dX1_takeSmall_39 : decode cX1_takeSmall 39 = .ok (.ifCond .lt 5, 3) := by decide +kernel
theorem dX1_takeSmall_42 : decode cX1_takeSmall 42 = .ok (.iload_n 2, 1) := by decide +kernel
theorem dX1_takeSmall_43 : decode cX1_takeSmall 43 = .ok (.ireturn, 1) := by decide +kernel
theorem dX1_takeSmall_44 : decode cX1_takeSmall 44 = .ok (.aload_n 0, 1) := by decide +kernel
theorem dX1_takeSmall_45 : decode cX1_takeSmall 45 = .ok (.iload_n 1, 1) := by decide +kernel
theorem dX1_takeSmall_46 : decode cX1_takeSmall 46 = .ok (.iconst 1, 1) := by decide +kernel
theorem dX1_takeSmall_47 : decode cX1_takeSmall 47 = .ok (.iadd, 1) := by decide +kernel
theorem dX1_takeSmall_48 : decode cX1_takeSmall 48 = .ok (.sipush 1000, 3) := by decide +kernel
theorem dX1_takeSmall_51 : decode cX1_takeSmall 51 = .ok (.invokevirtual 57, 3) := by decide +kernel
theorem dX1_takeSmall_54 : decode cX1_takeSmall 54 = .ok (.istore_n 2, 1) := by decide +kernel
theorem dX1_takeSmall_55 : decode cX1_takeSmall 55 = .ok (.iload_n 2, 1) := by decide +kernel
theorem dX1_takeSmall_56 : decode cX1_takeSmall 56 = .ok (.ifCond .ge 5, 3) := by decide +kernel
theorem dX1_takeSmall_59 : decode cX1_takeSmall 59 = .ok (.iconst (-1), 1) := by decide +kernel
theorem dX1_takeSmall_60 : decode cX1_takeSmall 60 = .ok (.ireturn, 1) := by decide +kernel
theorem dX1_takeSmall_61 : decode cX1_takeSmall 61 = .ok (.aload_n 0, 1) := by decide +kernel
theorem dX1_takeSmall_62 : decode cX1_takeSmall 62 = .ok (.iload_n 2, 1) := by decide +kernel
theorem dX1_takeSmall_63 : decode cX1_takeSmall 63 = .ok (.iload_n 1, 1) := by decide +kernel
theorem dX1_takeSmall_64 : decode cX1_takeSmall 64 = .ok (.invokevirtual 53, 3) := by decide +kernel
theorem dX1_takeSmall_67 : decode cX1_takeSmall 67 = .ok (.ifCond .eq 44, 3) := by decide +kernel
theorem dX1_takeSmall_70 : decode cX1_takeSmall 70 = .ok (.aload_n 0, 1) := by decide +kernel
theorem dX1_takeSmall_71 : decode cX1_takeSmall 71 = .ok (.getfield 26, 3) := by decide +kernel
theorem dX1_takeSmall_74 : decode cX1_takeSmall 74 = .ok (.ifCond .ge 7, 3) := by decide +kernel
theorem dX1_takeSmall_77 : decode cX1_takeSmall 77 = .ok (.iconst (-1), 1) := by decide +kernel
theorem dX1_takeSmall_78 : decode cX1_takeSmall 78 = .ok (.goto 11, 3) := by decide +kernel
theorem dX1_takeSmall_81 : decode cX1_takeSmall 81 = .ok (.aload_n 0, 1) := by decide +kernel
theorem dX1_takeSmall_82 : decode cX1_takeSmall 82 = .ok (.aload_n 0, 1) := by decide +kernel
theorem dX1_takeSmall_83 : decode cX1_takeSmall 83 = .ok (.getfield 26, 3) := by decide +kernel
theorem dX1_takeSmall_86 : decode cX1_takeSmall 86 = .ok (.invokevirtual 36, 3) := by decide +kernel
theorem dX1_takeSmall_89 : decode cX1_takeSmall 89 = .ok (.istore_n 3, 1) := by decide +kernel
theorem dX1_takeSmall_90 : decode cX1_takeSmall 90 = .ok (.iload_n 3, 1) := by decide +kernel
theorem dX1_takeSmall_91 : decode cX1_takeSmall 91 = .ok (.ifCond .lt 8, 3) := by decide +kernel
theorem dX1_takeSmall_94 : decode cX1_takeSmall 94 = .ok (.aload_n 0, 1) := by decide +kernel
theorem dX1_takeSmall_95 : decode cX1_takeSmall 95 = .ok (.iload_n 3, 1) := by decide +kernel
theorem dX1_takeSmall_96 : decode cX1_takeSmall 96 = .ok (.invokevirtual 64, 3) := by decide +kernel
theorem dX1_takeSmall_99 : decode cX1_takeSmall 99 = .ok (.aload_n 0, 1) := by decide +kernel
theorem dX1_takeSmall_100 : decode cX1_takeSmall 100 = .ok (.aload_n 0, 1) := by decide +kernel
theorem dX1_takeSmall_101 : decode cX1_takeSmall 101 = .ok (.getfield 13, 3) := by decide +kernel
theorem dX1_takeSmall_104 : decode cX1_takeSmall 104 = .ok (.iload_n 2, 1) := by decide +kernel
theorem dX1_takeSmall_105 : decode cX1_takeSmall 105 = .ok (.iconst 1, 1) := by decide +kernel
theorem dX1_takeSmall_106 : decode cX1_takeSmall 106 = .ok (.iadd, 1) := by decide +kernel
theorem dX1_takeSmall_107 : decode cX1_takeSmall 107 = .ok (.iaload, 1) := by decide +kernel
theorem dX1_takeSmall_108 : decode cX1_takeSmall 108 = .ok (.putfield 26, 3) := by decide +kernel
theorem dX1_takeSmall_111 : decode cX1_takeSmall 111 = .ok (.iload_n 2, 1) := by decide +kernel
theorem dX1_takeSmall_112 : decode cX1_takeSmall 112 = .ok (.ireturn, 1) := by decide +kernel
theorem dX1_takeLarge_0 : decode cX1_takeLarge 0 = .ok (.aload_n 0, 1) := by decide +kernel
theorem dX1_takeLarge_1 : decode cX1_takeLarge 1 = .ok (.iload_n 1, 1) := by decide +kernel
theorem dX1_takeLarge_2 : decode cX1_takeLarge 2 = .ok (.sipush 1000, 3) := by decide +kernel
theorem dX1_takeLarge_5 : decode cX1_takeLarge 5 = .ok (.invokevirtual 57, 3) := by decide +kernel
theorem dX1_takeLarge_8 : decode cX1_takeLarge 8 = .ok (.istore_n 2, 1) := by decide +kernel
theorem dX1_takeLarge_9 : decode cX1_takeLarge 9 = .ok (.aload_n 0, 1) := by decide +kernel
theorem dX1_takeLarge_10 : decode cX1_takeLarge 10 = .ok (.getfield 26, 3) := by decide +kernel
theorem dX1_takeLarge_13 : decode cX1_takeLarge 13 = .ok (.ifCond .ge 7, 3) := by decide +kernel
theorem dX1_takeLarge_16 : decode cX1_takeLarge 16 = .ok (.iconst (-1), 1) := by decide +kernel
theorem dX1_takeLarge_17 : decode cX1_takeLarge 17 = .ok (.goto 11, 3) := by decide +kernel
theorem dX1_takeLarge_20 : decode cX1_takeLarge 20 = .ok (.aload_n 0, 1) := by decide +kernel
theorem dX1_takeLarge_21 : decode cX1_takeLarge 21 = .ok (.aload_n 0, 1) := by decide +kernel
theorem dX1_takeLarge_22 : decode cX1_takeLarge 22 = .ok (.getfield 26, 3) := by decide +kernel
theorem dX1_takeLarge_25 : decode cX1_takeLarge 25 = .ok (.invokevirtual 36, 3) := by decide +kernel
theorem dX1_takeLarge_28 : decode cX1_takeLarge 28 = .ok (.istore_n 3, 1) := by decide +kernel
theorem dX1_takeLarge_29 : decode cX1_takeLarge 29 = .ok (.iload_n 2, 1) := by decide +kernel
theorem dX1_takeLarge_30 : decode cX1_takeLarge 30 = .ok (.ifCond .lt 50, 3) := by decide +kernel
theorem dX1_takeLarge_33 : decode cX1_takeLarge 33 = .ok (.iload_n 3, 1) := by decide +kernel
theorem dX1_takeLarge_34 : decode cX1_takeLarge 34 = .ok (.ifCond .lt 28, 3) := by decide +kernel
theorem dX1_takeLarge_37 : decode cX1_takeLarge 37 = .ok (.aload_n 0, 1) := by decide +kernel
theorem dX1_takeLarge_38 : decode cX1_takeLarge 38 = .ok (.getfield 16, 3) := by decide +kernel
theorem dX1_takeLarge_41 : decode cX1_takeLarge 41 = .ok (.iload_n 3, 1) := by decide +kernel
theorem dX1_takeLarge_42 : decode cX1_takeLarge 42 = .ok (.iaload, 1) := by decide +kernel
theorem dX1_takeLarge_43 : decode cX1_takeLarge 43 = .ok (.iload_n 1, 1) := by decide +kernel
theorem dX1_takeLarge_44 : decode cX1_takeLarge 44 = .ok (.if_icmp .lt 18, 3) := by decide +kernel
theorem dX1_takeLarge_47 : decode cX1_takeLarge 47 = .ok (.aload_n 0, 1) := by decide +kernel
theorem dX1_takeLarge_48 : decode cX1_takeLarge 48 = .ok (.getfield 16, 3) := by decide +kernel
theorem dX1_takeLarge_51 : decode cX1_takeLarge 51 = .ok (.iload_n 2, 1) := by decide +kernel
theorem dX1_takeLarge_52 : decode cX1_takeLarge 52 = .ok (.iaload, 1) := by decide +kernel
theorem dX1_takeLarge_53 : decode cX1_takeLarge 53 = .ok (.aload_n 0, 1) := by decide +kernel
theorem dX1_takeLarge_54 : decode cX1_takeLarge 54 = .ok (.getfield 16, 3) := by decide +kernel
theorem dX1_takeLarge_57 : decode cX1_takeLarge 57 = .ok (.iload_n 3, 1) := by decide +kernel
theorem dX1_takeLarge_58 : decode cX1_takeLarge 58 = .ok (.iaload, 1) := by decide +kernel
theorem dX1_takeLarge_59 : decode cX1_takeLarge 59 = .ok (.if_icmp .ge 21, 3) := by decide +kernel
theorem dX1_takeLarge_62 : decode cX1_takeLarge 62 = .ok (.aload_n 0, 1) := by decide +kernel
theorem dX1_takeLarge_63 : decode cX1_takeLarge 63 = .ok (.iload_n 2, 1) := by decide +kernel
theorem dX1_takeLarge_64 : decode cX1_takeLarge 64 = .ok (.iload_n 1, 1) := by decide +kernel
theorem dX1_takeLarge_65 : decode cX1_takeLarge 65 = .ok (.invokevirtual 53, 3) := by decide +kernel
theorem dX1_takeLarge_68 : decode cX1_takeLarge 68 = .ok (.ifCond .eq 10, 3) := by decide +kernel
theorem dX1_takeLarge_71 : decode cX1_takeLarge 71 = .ok (.aload_n 0, 1) := by decide +kernel
theorem dX1_takeLarge_72 : decode cX1_takeLarge 72 = .ok (.iload_n 2, 1) := by decide +kernel
theorem dX1_takeLarge_73 : decode cX1_takeLarge 73 = .ok (.iconst 1, 1) := by decide +kernel
theorem dX1_takeLarge_74 : decode cX1_takeLarge 74 = .ok (.iadd, 1) := by decide +kernel
theorem dX1_takeLarge_75 : decode cX1_takeLarge 75 = .ok (.invokevirtual 64, 3) := by decide +kernel
theorem dX1_takeLarge_78 : decode cX1_takeLarge 78 = .ok (.iload_n 2, 1) := by decide +kernel
theorem dX1_takeLarge_79 : decode cX1_takeLarge 79 = .ok (.ireturn, 1) := by decide +kernel
theorem dX1_takeLarge_80 : decode cX1_takeLarge 80 = .ok (.aload_n 0, 1) := by decide +kernel
theorem dX1_takeLarge_81 : decode cX1_takeLarge 81 = .ok (.iload_n 1, 1) := by decide +kernel
theorem dX1_takeLarge_82 : decode cX1_takeLarge 82 = .ok (.invokevirtual 61, 3) := by decide +kernel
theorem dX1_takeLarge_85 : decode cX1_takeLarge 85 = .ok (.ireturn, 1) := by decide +kernel
theorem dX1_grow_0 : decode cX1_grow 0 = .ok (.iload_n 1, 1) := by decide +kernel
theorem dX1_grow_1 : decode cX1_grow 1 = .ok (.bipush 15, 2) := by decide +kernel
theorem dX1_grow_3 : decode cX1_grow 3 = .ok (.iadd, 1) := by decide +kernel
theorem dX1_grow_4 : decode cX1_grow 4 = .ok (.bipush 16, 2) := by decide +kernel
theorem dX1_grow_6 : decode cX1_grow 6 = .ok (.idiv, 1) := by decide +kernel
theorem dX1_grow_7 : decode cX1_grow 7 = .ok (.bipush 16, 2) := by decide +kernel
theorem dX1_grow_9 : decode cX1_grow 9 = .ok (.imul, 1) := by decide +kernel
theorem dX1_grow_10 : decode cX1_grow 10 = .ok (.istore_n 2, 1) := by decide +kernel
theorem dX1_grow_11 : decode cX1_grow 11 = .ok (.aload_n 0, 1) := by decide +kernel
theorem dX1_grow_12 : decode cX1_grow 12 = .ok (.getfield 40, 3) := by decide +kernel
theorem dX1_grow_15 : decode cX1_grow 15 = .ok (.iload_n 2, 1) := by decide +kernel
theorem dX1_grow_16 : decode cX1_grow 16 = .ok (.iadd, 1) := by decide +kernel
theorem dX1_grow_17 : decode cX1_grow 17 = .ok (.aload_n 0, 1) := by decide +kernel
theorem dX1_grow_18 : decode cX1_grow 18 = .ok (.getfield 30, 3) := by decide +kernel
theorem dX1_grow_21 : decode cX1_grow 21 = .ok (.if_icmp .le 5, 3) := by decide +kernel
theorem dX1_grow_24 : decode cX1_grow 24 = .ok (.iconst 0, 1) := by decide +kernel
theorem dX1_grow_25 : decode cX1_grow 25 = .ok (.ireturn, 1) := by decide +kernel
theorem dX1_grow_26 : decode cX1_grow 26 = .ok (.aload_n 0, 1) := by decide +kernel
theorem dX1_grow_27 : decode cX1_grow 27 = .ok (.invokevirtual 68, 3) := by decide +kernel
theorem dX1_grow_30 : decode cX1_grow 30 = .ok (.istore_n 3, 1) := by decide +kernel
theorem dX1_grow_31 : decode cX1_grow 31 = .ok (.iload_n 3, 1) := by decide +kernel
theorem dX1_grow_32 : decode cX1_grow 32 = .ok (.ifCond .ge 51, 3) := by decide +kernel
theorem dX1_grow_35 : decode cX1_grow 35 = .ok (.aload_n 0, 1) := by decide +kernel
theorem dX1_grow_36 : decode cX1_grow 36 = .ok (.getfield 13, 3) := by decide +kernel
theorem dX1_grow_39 : decode cX1_grow 39 = .ok (.aload_n 0, 1) := by decide +kernel
theorem dX1_grow_40 : decode cX1_grow 40 = .ok (.getfield 33, 3) := by decide +kernel
theorem dX1_grow_43 : decode cX1_grow 43 = .ok (.aload_n 0, 1) := by decide +kernel
theorem dX1_grow_44 : decode cX1_grow 44 = .ok (.getfield 40, 3) := by decide +kernel
theorem dX1_grow_47 : decode cX1_grow 47 = .ok (.iastore, 1) := by decide +kernel
theorem dX1_grow_48 : decode cX1_grow 48 = .ok (.aload_n 0, 1) := by decide +kernel
theorem dX1_grow_49 : decode cX1_grow 49 = .ok (.getfield 16, 3) := by decide +kernel
theorem dX1_grow_52 : decode cX1_grow 52 = .ok (.aload_n 0, 1) := by decide +kernel
theorem dX1_grow_53 : decode cX1_grow 53 = .ok (.getfield 33, 3) := by decide +kernel
theorem dX1_grow_56 : decode cX1_grow 56 = .ok (.iconst 0, 1) := by decide +kernel
theorem dX1_grow_57 : decode cX1_grow 57 = .ok (.iastore, 1) := by decide +kernel
theorem dX1_grow_58 : decode cX1_grow 58 = .ok (.aload_n 0, 1) := by decide +kernel
theorem dX1_grow_59 : decode cX1_grow 59 = .ok (.getfield 19, 3) := by decide +kernel
theorem dX1_grow_62 : decode cX1_grow 62 = .ok (.aload_n 0, 1) := by decide +kernel
theorem dX1_grow_63 : decode cX1_grow 63 = .ok (.getfield 33, 3) := by decide +kernel
theorem dX1_grow_66 : decode cX1_grow 66 = .ok (.iconst 0, 1) := by decide +kernel
theorem dX1_grow_67 : decode cX1_grow 67 = .ok (.bastore, 1) := by decide +kernel
theorem dX1_grow_68 : decode cX1_grow 68 = .ok (.aload_n 0, 1) := by decide +kernel
theorem dX1_grow_69 : decode cX1_grow 69 = .ok (.getfield 33, 3) := by decide +kernel
theorem dX1_grow_72 : decode cX1_grow 72 = .ok (.istore_n 3, 1) := by decide +kernel
theorem dX1_grow_73 : decode cX1_grow 73 = .ok (.aload_n 0, 1) := by decide +kernel
theorem dX1_grow_74 : decode cX1_grow 74 = .ok (.dup, 1) := by decide +kernel
theorem dX1_grow_75 : decode cX1_grow 75 = .ok (.getfield 33, 3) := by decide +kernel
theorem dX1_grow_78 : decode cX1_grow 78 = .ok (.iconst 1, 1) := by decide +kernel
theorem dX1_grow_79 : decode cX1_grow 79 = .ok (.iadd, 1) := by decide +kernel
theorem dX1_grow_80 : decode cX1_grow 80 = .ok (.putfield 33, 3) := by decide +kernel
theorem dX1_grow_83 : decode cX1_grow 83 = .ok (.aload_n 0, 1) := by decide +kernel
theorem dX1_grow_84 : decode cX1_grow 84 = .ok (.getfield 16, 3) := by decide +kernel
theorem dX1_grow_87 : decode cX1_grow 87 = .ok (.iload_n 3, 1) := by decide +kernel
theorem dX1_grow_88 : decode cX1_grow 88 = .ok (.aload_n 0, 1) := by decide +kernel
theorem dX1_grow_89 : decode cX1_grow 89 = .ok (.getfield 16, 3) := by decide +kernel
theorem dX1_grow_92 : decode cX1_grow 92 = .ok (.iload_n 3, 1) := by decide +kernel
theorem dX1_grow_93 : decode cX1_grow 93 = .ok (.iaload, 1) := by decide +kernel
theorem dX1_grow_94 : decode cX1_grow 94 = .ok (.iload_n 2, 1) := by decide +kernel
theorem dX1_grow_95 : decode cX1_grow 95 = .ok (.iadd, 1) := by decide +kernel
theorem dX1_grow_96 : decode cX1_grow 96 = .ok (.iastore, 1) := by decide +kernel
theorem dX1_grow_97 : decode cX1_grow 97 = .ok (.aload_n 0, 1) := by decide +kernel
theorem dX1_grow_98 : decode cX1_grow 98 = .ok (.getfield 40, 3) := by decide +kernel
theorem dX1_grow_101 : decode cX1_grow 101 = .ok (.istore 4, 2) := by decide +kernel
theorem dX1_grow_103 : decode cX1_grow 103 = .ok (.iload 4, 2) := by decide +kernel
theorem dX1_grow_105 : decode cX1_grow 105 = .ok (.aload_n 0, 1) := by decide +kernel
theorem dX1_grow_106 : decode cX1_grow 106 = .ok (.getfield 40, 3) := by decide +kernel
theorem dX1_grow_109 : decode cX1_grow 109 = .ok (.iload_n 2, 1) := by decide +kernel
theorem dX1_grow_110 : decode cX1_grow 110 = .ok (.iadd, 1) := by decide +kernel
theorem dX1_grow_111 : decode cX1_grow 111 = .ok (.if_icmp .ge 17, 3) := by decide +kernel
theorem dX1_grow_114 : decode cX1_grow 114 = .ok (.aload_n 0, 1) := by decide +kernel
theorem dX1_grow_115 : decode cX1_grow 115 = .ok (.getfield 7, 3) := by decide +kernel
theorem dX1_grow_118 : decode cX1_grow 118 = .ok (.iload 4, 2) := by decide +kernel
theorem dX1_grow_120 : decode cX1_grow 120 = .ok (.iconst 0, 1) := by decide +kernel
theorem dX1_grow_121 : decode cX1_grow 121 = .ok (.iastore, 1) := by decide +kernel
theorem dX1_grow_122 : decode cX1_grow 122 = .ok (.iinc 4 1, 3) := by decide +kernel
theorem dX1_grow_125 : decode cX1_grow 125 = .ok (.goto (-22), 3) := by decide +kernel
theorem dX1_grow_128 : decode cX1_grow 128 = .ok (.aload_n 0, 1) := by decide +kernel
theorem dX1_grow_129 : decode cX1_grow 129 = .ok (.aload_n 0, 1) := by decide +kernel
theorem dX1_grow_130 : decode cX1_grow 130 = .ok (.getfield 40, 3) := by decide +kernel
theorem dX1_grow_133 : decode cX1_grow 133 = .ok (.iload_n 2, 1) := by decide +kernel
theorem dX1_grow_134 : decode cX1_grow 134 = .ok (.iadd, 1) := by decide +kernel
theorem dX1_grow_135 : decode cX1_grow 135 = .ok (.putfield 40, 3) := by decide +kernel
theorem dX1_grow_138 : decode cX1_grow 138 = .ok (.iconst 1, 1) := by decide +kernel
theorem dX1_grow_139 : decode cX1_grow 139 = .ok (.ireturn, 1) := by decide +kernel
theorem dX1_take_0 : decode cX1_take 0 = .ok (.iload_n 1, 1) := by decide +kernel
theorem dX1_take_1 : decode cX1_take 1 = .ok (.bipush 16, 2) := by decide +kernel
theorem dX1_take_3 : decode cX1_take 3 = .ok (.if_icmp .ge 11, 3) := by decide +kernel
theorem dX1_take_6 : decode cX1_take 6 = .ok (.aload_n 0, 1) := by decide +kernel
theorem dX1_take_7 : decode cX1_take 7 = .ok (.iload_n 1, 1) := by decide +kernel
theorem dX1_take_8 : decode cX1_take 8 = .ok (.invokevirtual 72, 3) := by decide +kernel
theorem dX1_take_11 : decode cX1_take 11 = .ok (.goto 8, 3) := by decide +kernel
theorem dX1_take_14 : decode cX1_take 14 = .ok (.aload_n 0, 1) := by decide +kernel
theorem dX1_take_15 : decode cX1_take 15 = .ok (.iload_n 1, 1) := by decide +kernel
theorem dX1_take_16 : decode cX1_take 16 = .ok (.invokevirtual 75, 3) := by decide +kernel
theorem dX1_take_19 : decode cX1_take 19 = .ok (.istore_n 2, 1) := by decide +kernel
theorem dX1_take_20 : decode cX1_take 20 = .ok (.iload_n 2, 1) := by decide +kernel
theorem dX1_take_21 : decode cX1_take 21 = .ok (.ifCond .lt 5, 3) := by decide +kernel
theorem dX1_take_24 : decode cX1_take 24 = .ok (.iload_n 2, 1) := by decide +kernel
theorem dX1_take_25 : decode cX1_take 25 = .ok (.ireturn, 1) := by decide +kernel
theorem dX1_take_26 : decode cX1_take 26 = .ok (.aload_n 0, 1) := by decide +kernel
theorem dX1_take_27 : decode cX1_take 27 = .ok (.invokevirtual 68, 3) := by decide +kernel
theorem dX1_take_30 : decode cX1_take 30 = .ok (.istore_n 3, 1) := by decide +kernel
theorem dX1_take_31 : decode cX1_take 31 = .ok (.iload_n 3, 1) := by decide +kernel
theorem dX1_take_32 : decode cX1_take 32 = .ok (.ifCond .ge 7, 3) := by decide +kernel
theorem dX1_take_35 : decode cX1_take 35 = .ok (.iconst 0, 1) := by decide +kernel
theorem dX1_take_36 : decode cX1_take 36 = .ok (.goto 9, 3) := by decide +kernel
theorem dX1_take_39 : decode cX1_take 39 = .ok (.aload_n 0, 1) := by decide +kernel
theorem dX1_take_40 : decode cX1_take 40 = .ok (.getfield 16, 3) := by decide +kernel
theorem dX1_take_43 : decode cX1_take 43 = .ok (.iload_n 3, 1) := by decide +kernel
theorem dX1_take_44 : decode cX1_take 44 = .ok (.iaload, 1) := by decide +kernel
theorem dX1_take_45 : decode cX1_take 45 = .ok (.istore 4, 2) := by decide +kernel
theorem dX1_take_47 : decode cX1_take 47 = .ok (.iload 4, 2) := by decide +kernel
theorem dX1_take_49 : decode cX1_take 49 = .ok (.iload_n 1, 1) := by decide +kernel
theorem dX1_take_50 : decode cX1_take 50 = .ok (.if_icmp .ge 16, 3) := by decide +kernel
theorem dX1_take_53 : decode cX1_take 53 = .ok (.aload_n 0, 1) := by decide +kernel
theorem dX1_take_54 : decode cX1_take 54 = .ok (.iload_n 1, 1) := by decide +kernel
theorem dX1_take_55 : decode cX1_take 55 = .ok (.iload 4, 2) := by decide +kernel
theorem dX1_take_57 : decode cX1_take 57 = .ok (.isub, 1) := by decide +kernel
theorem dX1_take_58 : decode cX1_take 58 = .ok (.invokevirtual 78, 3) := by decide +kernel
theorem dX1_take_61 : decode cX1_take 61 = .ok (.ifCond .ne 5, 3) := by decide +kernel
theorem dX1_take_64 : decode cX1_take 64 = .ok (.iconst (-1), 1) := by decide +kernel
theorem dX1_take_65 : decode cX1_take 65 = .ok (.ireturn, 1) := by decide +kernel
theorem dX1_take_66 : decode cX1_take 66 = .ok (.aload_n 0, 1) := by decide +kernel
theorem dX1_take_67 : decode cX1_take 67 = .ok (.invokevirtual 68, 3) := by decide +kernel
theorem dX1_take_70 : decode cX1_take 70 = .ok (.istore_n 3, 1) := by decide +kernel
theorem dX1_take_71 : decode cX1_take 71 = .ok (.aload_n 0, 1) := by decide +kernel
theorem dX1_take_72 : decode cX1_take 72 = .ok (.iload_n 3, 1) := by decide +kernel
theorem dX1_take_73 : decode cX1_take 73 = .ok (.iload_n 1, 1) := by decide +kernel
theorem dX1_take_74 : decode cX1_take 74 = .ok (.invokevirtual 53, 3) := by decide +kernel
theorem dX1_take_77 : decode cX1_take 77 = .ok (.istore 5, 2) := by decide +kernel
theorem dX1_take_79 : decode cX1_take 79 = .ok (.iload_n 3, 1) := by decide +kernel
theorem dX1_take_80 : decode cX1_take 80 = .ok (.ireturn, 1) := by decide +kernel
theorem dX1_give_0 : decode cX1_give 0 = .ok (.iload_n 1, 1) := by decide +kernel
theorem dX1_give_1 : decode cX1_give 1 = .ok (.istore_n 2, 1) := by decide +kernel
theorem dX1_give_2 : decode cX1_give 2 = .ok (.aload_n 0, 1) := by decide +kernel
theorem dX1_give_3 : decode cX1_give 3 = .ok (.getfield 19, 3) := by decide +kernel
theorem dX1_give_6 : decode cX1_give 6 = .ok (.iload_n 2, 1) := by decide +kernel
theorem dX1_give_7 : decode cX1_give 7 = .ok (.iconst 0, 1) := by decide +kernel
theorem dX1_give_8 : decode cX1_give 8 = .ok (.bastore, 1) := by decide +kernel
theorem dX1_give_9 : decode cX1_give 9 = .ok (.iconst 0, 1) := by decide +kernel
theorem dX1_give_10 : decode cX1_give 10 = .ok (.istore_n 3, 1) := by decide +kernel
theorem dX1_give_11 : decode cX1_give 11 = .ok (.iload_n 2, 1) := by decide +kernel
theorem dX1_give_12 : decode cX1_give 12 = .ok (.iconst 1, 1) := by decide +kernel
theorem dX1_give_13 : decode cX1_give 13 = .ok (.iadd, 1) := by decide +kernel
theorem dX1_give_14 : decode cX1_give 14 = .ok (.aload_n 0, 1) := by decide +kernel
theorem dX1_give_15 : decode cX1_give 15 = .ok (.getfield 33, 3) := by decide +kernel
theorem dX1_give_18 : decode cX1_give 18 = .ok (.if_icmp .ge 40, 3) := by decide +kernel
theorem dX1_give_21 : decode cX1_give 21 = .ok (.aload_n 0, 1) := by decide +kernel
theorem dX1_give_22 : decode cX1_give 22 = .ok (.getfield 19, 3) := by decide +kernel
theorem dX1_give_25 : decode cX1_give 25 = .ok (.iload_n 2, 1) := by decide +kernel
theorem dX1_give_26 : decode cX1_give 26 = .ok (.iconst 1, 1) := by decide +kernel
theorem dX1_give_27 : decode cX1_give 27 = .ok (.iadd, 1) := by decide +kernel
theorem dX1_give_28 : decode cX1_give 28 = .ok (.baload, 1) := by decide +kernel
theorem dX1_give_29 : decode cX1_give 29 = .ok (.ifCond .ne 29, 3) := by decide +kernel
theorem dX1_give_32 : decode cX1_give 32 = .ok (.aload_n 0, 1) := by decide +kernel
theorem dX1_give_33 : decode cX1_give 33 = .ok (.getfield 13, 3) := by decide +kernel
theorem dX1_give_36 : decode cX1_give 36 = .ok (.iload_n 2, 1) := by decide +kernel
theorem dX1_give_37 : decode cX1_give 37 = .ok (.iconst 1, 1) := by decide +kernel
theorem dX1_give_38 : decode cX1_give 38 = .ok (.iadd, 1) := by decide +kernel
theorem dX1_give_39 : decode cX1_give 39 = .ok (.iaload, 1) := by decide +kernel
theorem dX1_give_40 : decode cX1_give 40 = .ok (.aload_n 0, 1) := by decide +kernel
theorem dX1_give_41 : decode cX1_give 41 = .ok (.getfield 26, 3) := by decide +kernel
theorem dX1_give_44 : decode cX1_give 44 = .ok (.if_icmp .ne 7, 3) := by decide +kernel
theorem dX1_give_47 : decode cX1_give 47 = .ok (.iconst 1, 1) := by decide +kernel
theorem dX1_give_48 : decode cX1_give 48 = .ok (.goto 4, 3) := by decide +kernel
theorem dX1_give_51 : decode cX1_give 51 = .ok (.iconst 0, 1) := by decide +kernel
theorem dX1_give_52 : decode cX1_give 52 = .ok (.istore_n 3, 1) := by decide +kernel
theorem dX1_give_53 : decode cX1_give 53 = .ok (.aload_n 0, 1) := by decide +kernel
theorem dX1_give_54 : decode cX1_give 54 = .ok (.iload_n 2, 1) := by decide +kernel
theorem dX1_give_55 : decode cX1_give 55 = .ok (.invokevirtual 82, 3) := by decide +kernel
theorem dX1_give_58 : decode cX1_give 58 = .ok (.iload_n 2, 1) := by decide +kernel
theorem dX1_give_59 : decode cX1_give 59 = .ok (.ifCond .le 47, 3) := by decide +kernel
theorem dX1_give_62 : decode cX1_give 62 = .ok (.aload_n 0, 1) := by decide +kernel
theorem dX1_give_63 : decode cX1_give 63 = .ok (.getfield 19, 3) := by decide +kernel
theorem dX1_give_66 : decode cX1_give 66 = .ok (.iload_n 2, 1) := by decide +kernel
theorem dX1_give_67 : decode cX1_give 67 = .ok (.iconst 1, 1) := by decide +kernel
theorem dX1_give_68 : decode cX1_give 68 = .ok (.isub, 1) := by decide +kernel
theorem dX1_give_69 : decode cX1_give 69 = .ok (.baload, 1) := by decide +kernel
theorem dX1_give_70 : decode cX1_give 70 = .ok (.ifCond .ne 36, 3) := by decide +kernel
theorem dX1_give_73 : decode cX1_give 73 = .ok (.iload_n 3, 1) := by decide +kernel
theorem dX1_give_74 : decode cX1_give 74 = .ok (.ifCond .ne 18, 3) := by decide +kernel
theorem dX1_give_77 : decode cX1_give 77 = .ok (.aload_n 0, 1) := by decide +kernel
theorem dX1_give_78 : decode cX1_give 78 = .ok (.getfield 13, 3) := by decide +kernel
theorem dX1_give_81 : decode cX1_give 81 = .ok (.iload_n 2, 1) := by decide +kernel
theorem dX1_give_82 : decode cX1_give 82 = .ok (.iconst 1, 1) := by decide +kernel
theorem dX1_give_83 : decode cX1_give 83 = .ok (.isub, 1) := by decide +kernel
theorem dX1_give_84 : decode cX1_give 84 = .ok (.iaload, 1) := by decide +kernel
theorem dX1_give_85 : decode cX1_give 85 = .ok (.aload_n 0, 1) := by decide +kernel
theorem dX1_give_86 : decode cX1_give 86 = .ok (.getfield 26, 3) := by decide +kernel
theorem dX1_give_89 : decode cX1_give 89 = .ok (.if_icmp .ne 7, 3) := by decide +kernel
theorem dX1_give_92 : decode cX1_give 92 = .ok (.iconst 1, 1) := by decide +kernel
theorem dX1_give_93 : decode cX1_give 93 = .ok (.goto 4, 3) := by decide +kernel
theorem dX1_give_96 : decode cX1_give 96 = .ok (.iconst 0, 1) := by decide +kernel
theorem dX1_give_97 : decode cX1_give 97 = .ok (.istore_n 3, 1) := by decide +kernel
theorem dX1_give_98 : decode cX1_give 98 = .ok (.iinc 2 (-1), 3) := by decide +kernel
theorem dX1_give_101 : decode cX1_give 101 = .ok (.aload_n 0, 1) := by decide +kernel
theorem dX1_give_102 : decode cX1_give 102 = .ok (.iload_n 2, 1) := by decide +kernel
theorem dX1_give_103 : decode cX1_give 103 = .ok (.invokevirtual 82, 3) := by decide +kernel
theorem dX1_give_106 : decode cX1_give 106 = .ok (.aload_n 0, 1) := by decide +kernel
theorem dX1_give_107 : decode cX1_give 107 = .ok (.iload_n 3, 1) := by decide +kernel
theorem dX1_give_108 : decode cX1_give 108 = .ok (.ifCond .eq 7, 3) := by decide +kernel
theorem dX1_give_111 : decode cX1_give 111 = .ok (.iconst (-1), 1) := by decide +kernel
theorem dX1_give_112 : decode cX1_give 112 = .ok (.goto 7, 3) := by decide +kernel
theorem dX1_give_115 : decode cX1_give 115 = .ok (.aload_n 0, 1) := by decide +kernel
theorem dX1_give_116 : decode cX1_give 116 = .ok (.getfield 26, 3) := by decide +kernel
theorem dX1_give_119 : decode cX1_give 119 = .ok (.putfield 26, 3) := by decide +kernel
theorem dX1_give_122 : decode cX1_give 122 = .ok (.aload_n 0, 1) := by decide +kernel
theorem dX1_give_123 : decode cX1_give 123 = .ok (.getfield 13, 3) := by decide +kernel
theorem dX1_give_126 : decode cX1_give 126 = .ok (.iload_n 2, 1) := by decide +kernel
theorem dX1_give_127 : decode cX1_give 127 = .ok (.iaload, 1) := by decide +kernel
theorem dX1_give_128 : decode cX1_give 128 = .ok (.aload_n 0, 1) := by decide +kernel
theorem dX1_give_129 : decode cX1_give 129 = .ok (.getfield 16, 3) := by decide +kernel
theorem dX1_give_132 : decode cX1_give 132 = .ok (.iload_n 2, 1) := by decide +kernel
theorem dX1_give_133 : decode cX1_give 133 = .ok (.iaload, 1) := by decide +kernel
theorem dX1_give_134 : decode cX1_give 134 = .ok (.iadd, 1) := by decide +kernel
theorem dX1_give_135 : decode cX1_give 135 = .ok (.aload_n 0, 1) := by decide +kernel
theorem dX1_give_136 : decode cX1_give 136 = .ok (.getfield 40, 3) := by decide +kernel
theorem dX1_give_139 : decode cX1_give 139 = .ok (.if_icmp .eq 25, 3) := by decide +kernel
theorem dX1_give_142 : decode cX1_give 142 = .ok (.iload_n 3, 1) := by decide +kernel
theorem dX1_give_143 : decode cX1_give 143 = .ok (.ifCond .eq 16, 3) := by decide +kernel
theorem dX1_give_146 : decode cX1_give 146 = .ok (.aload_n 0, 1) := by decide +kernel
theorem dX1_give_147 : decode cX1_give 147 = .ok (.aload_n 0, 1) := by decide +kernel
theorem dX1_give_148 : decode cX1_give 148 = .ok (.getfield 13, 3) := by decide +kernel
theorem dX1_give_151 : decode cX1_give 151 = .ok (.iload_n 2, 1) := by decide +kernel
theorem dX1_give_152 : decode cX1_give 152 = .ok (.iaload, 1) := by decide +kernel
theorem dX1_give_153 : decode cX1_give 153 = .ok (.putfield 26, 3) := by decide +kernel
theorem dX1_give_156 : decode cX1_give 156 = .ok (.goto 8, 3) := by decide +kernel
theorem dX1_give_159 : decode cX1_give 159 = .ok (.aload_n 0, 1) := by decide +kernel
theorem dX1_give_160 : decode cX1_give 160 = .ok (.iload_n 2, 1) := by decide +kernel
theorem dX1_give_161 : decode cX1_give 161 = .ok (.invokevirtual 64, 3) := by decide +kernel
theorem dX1_give_164 : decode cX1_give 164 = .ok (.return_, 1) := by decide +kernel
theorem dX1_malloc_0 : decode cX1_malloc 0 = .ok (.iload_n 1, 1) := by decide +kernel
theorem dX1_malloc_1 : decode cX1_malloc 1 = .ok (.sipush 511, 3) := by decide +kernel
theorem dX1_malloc_4 : decode cX1_malloc 4 = .ok (.if_icmp .le 5, 3) := by decide +kernel
theorem dX1_malloc_7 : decode cX1_malloc 7 = .ok (.iconst 0, 1) := by decide +kernel
theorem dX1_malloc_8 : decode cX1_malloc 8 = .ok (.ireturn, 1) := by decide +kernel
theorem dX1_malloc_9 : decode cX1_malloc 9 = .ok (.aload_n 0, 1) := by decide +kernel
theorem dX1_malloc_10 : decode cX1_malloc 10 = .ok (.iload_n 1, 1) := by decide +kernel
theorem dX1_malloc_11 : decode cX1_malloc 11 = .ok (.iconst 1, 1) := by decide +kernel
theorem dX1_malloc_12 : decode cX1_malloc 12 = .ok (.if_icmp .ge 7, 3) := by decide +kernel
theorem dX1_malloc_15 : decode cX1_malloc 15 = .ok (.iconst 2, 1) := by decide +kernel
theorem dX1_malloc_16 : decode cX1_malloc 16 = .ok (.goto 6, 3) := by decide +kernel
theorem dX1_malloc_19 : decode cX1_malloc 19 = .ok (.iload_n 1, 1) := by decide +kernel
theorem dX1_malloc_20 : decode cX1_malloc 20 = .ok (.iconst 1, 1) := by decide +kernel
theorem dX1_malloc_21 : decode cX1_malloc 21 = .ok (.iadd, 1) := by decide +kernel
theorem dX1_malloc_22 : decode cX1_malloc 22 = .ok (.invokevirtual 85, 3) := by decide +kernel
theorem dX1_malloc_25 : decode cX1_malloc 25 = .ok (.istore_n 2, 1) := by decide +kernel
theorem dX1_malloc_26 : decode cX1_malloc 26 = .ok (.iload_n 2, 1) := by decide +kernel
theorem dX1_malloc_27 : decode cX1_malloc 27 = .ok (.ifCond .ge 7, 3) := by decide +kernel
theorem dX1_malloc_30 : decode cX1_malloc 30 = .ok (.iconst 0, 1) := by decide +kernel
theorem dX1_malloc_31 : decode cX1_malloc 31 = .ok (.goto 11, 3) := by decide +kernel
theorem dX1_malloc_34 : decode cX1_malloc 34 = .ok (.aload_n 0, 1) := by decide +kernel
theorem dX1_malloc_35 : decode cX1_malloc 35 = .ok (.getfield 13, 3) := by decide +kernel
theorem dX1_malloc_38 : decode cX1_malloc 38 = .ok (.iload_n 2, 1) := by decide +kernel
theorem dX1_malloc_39 : decode cX1_malloc 39 = .ok (.iaload, 1) := by decide +kernel
theorem dX1_malloc_40 : decode cX1_malloc 40 = .ok (.iconst 1, 1) := by decide +kernel
theorem dX1_malloc_41 : decode cX1_malloc 41 = .ok (.iadd, 1) := by decide +kernel
theorem dX1_malloc_42 : decode cX1_malloc 42 = .ok (.ireturn, 1) := by decide +kernel
theorem dX1_calloc_0 : decode cX1_calloc 0 = .ok (.aload_n 0, 1) := by decide +kernel
theorem dX1_calloc_1 : decode cX1_calloc 1 = .ok (.iload_n 1, 1) := by decide +kernel
theorem dX1_calloc_2 : decode cX1_calloc 2 = .ok (.invokevirtual 88, 3) := by decide +kernel
theorem dX1_calloc_5 : decode cX1_calloc 5 = .ok (.istore_n 2, 1) := by decide +kernel
theorem dX1_calloc_6 : decode cX1_calloc 6 = .ok (.aload_n 0, 1) := by decide +kernel
theorem dX1_calloc_7 : decode cX1_calloc 7 = .ok (.iload_n 2, 1) := by decide +kernel
theorem dX1_calloc_8 : decode cX1_calloc 8 = .ok (.invokevirtual 91, 3) := by decide +kernel
theorem dX1_calloc_11 : decode cX1_calloc 11 = .ok (.istore_n 3, 1) := by decide +kernel
theorem dX1_calloc_12 : decode cX1_calloc 12 = .ok (.iload_n 2, 1) := by decide +kernel
theorem dX1_calloc_13 : decode cX1_calloc 13 = .ok (.istore 4, 2) := by decide +kernel
theorem dX1_calloc_15 : decode cX1_calloc 15 = .ok (.iload_n 3, 1) := by decide +kernel
theorem dX1_calloc_16 : decode cX1_calloc 16 = .ok (.ifCond .lt 35, 3) := by decide +kernel
theorem dX1_calloc_19 : decode cX1_calloc 19 = .ok (.iload 4, 2) := by decide +kernel
theorem dX1_calloc_21 : decode cX1_calloc 21 = .ok (.aload_n 0, 1) := by decide +kernel
theorem dX1_calloc_22 : decode cX1_calloc 22 = .ok (.getfield 13, 3) := by decide +kernel
theorem dX1_calloc_25 : decode cX1_calloc 25 = .ok (.iload_n 3, 1) := by decide +kernel
theorem dX1_calloc_26 : decode cX1_calloc 26 = .ok (.iaload, 1) := by decide +kernel
theorem dX1_calloc_27 : decode cX1_calloc 27 = .ok (.aload_n 0, 1) := by decide +kernel
theorem dX1_calloc_28 : decode cX1_calloc 28 = .ok (.getfield 16, 3) := by decide +kernel
theorem dX1_calloc_31 : decode cX1_calloc 31 = .ok (.iload_n 3, 1) := by decide +kernel
theorem dX1_calloc_32 : decode cX1_calloc 32 = .ok (.iaload, 1) := by decide +kernel
theorem dX1_calloc_33 : decode cX1_calloc 33 = .ok (.iadd, 1) := by decide +kernel
theorem dX1_calloc_34 : decode cX1_calloc 34 = .ok (.if_icmp .ge 17, 3) := by decide +kernel
theorem dX1_calloc_37 : decode cX1_calloc 37 = .ok (.aload_n 0, 1) := by decide +kernel
theorem dX1_calloc_38 : decode cX1_calloc 38 = .ok (.getfield 7, 3) := by decide +kernel
theorem dX1_calloc_41 : decode cX1_calloc 41 = .ok (.iload 4, 2) := by decide +kernel
theorem dX1_calloc_43 : decode cX1_calloc 43 = .ok (.iconst 0, 1) := by decide +kernel
theorem dX1_calloc_44 : decode cX1_calloc 44 = .ok (.iastore, 1) := by decide +kernel
theorem dX1_calloc_45 : decode cX1_calloc 45 = .ok (.iinc 4 1, 3) := by decide +kernel
theorem dX1_calloc_48 : decode cX1_calloc 48 = .ok (.goto (-33), 3) := by decide +kernel
theorem dX1_calloc_51 : decode cX1_calloc 51 = .ok (.iload_n 2, 1) := by decide +kernel
theorem dX1_calloc_52 : decode cX1_calloc 52 = .ok (.ireturn, 1) := by decide +kernel
theorem dX1_free_0 : decode cX1_free 0 = .ok (.aload_n 0, 1) := by decide +kernel
theorem dX1_free_1 : decode cX1_free 1 = .ok (.iload_n 1, 1) := by decide +kernel
theorem dX1_free_2 : decode cX1_free 2 = .ok (.invokevirtual 91, 3) := by decide +kernel
theorem dX1_free_5 : decode cX1_free 5 = .ok (.istore_n 2, 1) := by decide +kernel
theorem dX1_free_6 : decode cX1_free 6 = .ok (.iload_n 2, 1) := by decide +kernel
theorem dX1_free_7 : decode cX1_free 7 = .ok (.ifCond .ge 5, 3) := by decide +kernel
theorem dX1_free_10 : decode cX1_free 10 = .ok (.iconst 0, 1) := by decide +kernel
theorem dX1_free_11 : decode cX1_free 11 = .ok (.ireturn, 1) := by decide +kernel
theorem dX1_free_12 : decode cX1_free 12 = .ok (.aload_n 0, 1) := by decide +kernel
theorem dX1_free_13 : decode cX1_free 13 = .ok (.iload_n 2, 1) := by decide +kernel
theorem dX1_free_14 : decode cX1_free 14 = .ok (.invokevirtual 94, 3) := by decide +kernel
theorem dX1_free_17 : decode cX1_free 17 = .ok (.iconst 1, 1) := by decide +kernel
theorem dX1_free_18 : decode cX1_free 18 = .ok (.ireturn, 1) := by decide +kernel
theorem dX1_shorten_0 : decode cX1_shorten 0 = .ok (.aload_n 0, 1) := by decide +kernel
theorem dX1_shorten_1 : decode cX1_shorten 1 = .ok (.getfield 16, 3) := by decide +kernel
theorem dX1_shorten_4 : decode cX1_shorten 4 = .ok (.iload_n 1, 1) := by decide +kernel
theorem dX1_shorten_5 : decode cX1_shorten 5 = .ok (.iaload, 1) := by decide +kernel
theorem dX1_shorten_6 : decode cX1_shorten 6 = .ok (.iload_n 2, 1) := by decide +kernel
theorem dX1_shorten_7 : decode cX1_shorten 7 = .ok (.isub, 1) := by decide +kernel
theorem dX1_shorten_8 : decode cX1_shorten 8 = .ok (.iconst 2, 1) := by decide +kernel
theorem dX1_shorten_9 : decode cX1_shorten 9 = .ok (.if_icmp .lt 16, 3) := by decide +kernel
theorem dX1_shorten_12 : decode cX1_shorten 12 = .ok (.aload_n 0, 1) := by decide +kernel
theorem dX1_shorten_13 : decode cX1_shorten 13 = .ok (.iload_n 1, 1) := by decide +kernel
theorem dX1_shorten_14 : decode cX1_shorten 14 = .ok (.iload_n 2, 1) := by decide +kernel
theorem dX1_shorten_15 : decode cX1_shorten 15 = .ok (.invokevirtual 46, 3) := by decide +kernel
theorem dX1_shorten_18 : decode cX1_shorten 18 = .ok (.aload_n 0, 1) := by decide +kernel
theorem dX1_shorten_19 : decode cX1_shorten 19 = .ok (.iload_n 1, 1) := by decide +kernel
theorem dX1_shorten_20 : decode cX1_shorten 20 = .ok (.iconst 1, 1) := by decide +kernel
theorem dX1_shorten_21 : decode cX1_shorten 21 = .ok (.iadd, 1) := by decide +kernel
theorem dX1_shorten_22 : decode cX1_shorten 22 = .ok (.invokevirtual 94, 3) := by decide +kernel
theorem dX1_shorten_25 : decode cX1_shorten 25 = .ok (.return_, 1) := by decide +kernel
theorem dX1_lengthen_0 : decode cX1_lengthen 0 = .ok (.aload_n 0, 1) := by decide +kernel
theorem dX1_lengthen_1 : decode cX1_lengthen 1 = .ok (.invokevirtual 68, 3) := by decide +kernel
theorem dX1_lengthen_4 : decode cX1_lengthen 4 = .ok (.istore_n 3, 1) := by decide +kernel
theorem dX1_lengthen_5 : decode cX1_lengthen 5 = .ok (.iload_n 1, 1) := by decide +kernel
theorem dX1_lengthen_6 : decode cX1_lengthen 6 = .ok (.aload_n 0, 1) := by decide +kernel
theorem dX1_lengthen_7 : decode cX1_lengthen 7 = .ok (.getfield 33, 3) := by decide +kernel
theorem dX1_lengthen_10 : decode cX1_lengthen 10 = .ok (.iconst 1, 1) := by decide +kernel
theorem dX1_lengthen_11 : decode cX1_lengthen 11 = .ok (.isub, 1) := by decide +kernel
theorem dX1_lengthen_12 : decode cX1_lengthen 12 = .ok (.if_icmp .ne 7, 3) := by decide +kernel
theorem dX1_lengthen_15 : decode cX1_lengthen 15 = .ok (.iconst 1, 1) := by decide +kernel
theorem dX1_lengthen_16 : decode cX1_lengthen 16 = .ok (.goto 4, 3) := by decide +kernel
theorem dX1_lengthen_19 : decode cX1_lengthen 19 = .ok (.iconst 0, 1) := by decide +kernel
theorem dX1_lengthen_20 : decode cX1_lengthen 20 = .ok (.istore 4, 2) := by decide +kernel
theorem dX1_lengthen_22 : decode cX1_lengthen 22 = .ok (.iload 4, 2) := by decide +kernel
theorem dX1_lengthen_24 : decode cX1_lengthen 24 = .ok (.ifCond .ne 10, 3) := by decide +kernel
theorem dX1_lengthen_27 : decode cX1_lengthen 27 = .ok (.iload_n 3, 1) := by decide +kernel
theorem dX1_lengthen_28 : decode cX1_lengthen 28 = .ok (.iload_n 1, 1) := by decide +kernel
theorem dX1_lengthen_29 : decode cX1_lengthen 29 = .ok (.iconst 1, 1) := by decide +kernel
theorem dX1_lengthen_30 : decode cX1_lengthen 30 = .ok (.iadd, 1) := by decide +kernel
theorem dX1_lengthen_31 : decode cX1_lengthen 31 = .ok (.if_icmp .ne 56, 3) := by decide +kernel
theorem dX1_lengthen_34 : decode cX1_lengthen 34 = .ok (.iload 4, 2) := by decide +kernel
theorem dX1_lengthen_36 : decode cX1_lengthen 36 = .ok (.ifCond .eq 12, 3) := by decide +kernel
theorem dX1_lengthen_39 : decode cX1_lengthen 39 = .ok (.aload_n 0, 1) := by decide +kernel
theorem dX1_lengthen_40 : decode cX1_lengthen 40 = .ok (.getfield 16, 3) := by decide +kernel
theorem dX1_lengthen_43 : decode cX1_lengthen 43 = .ok (.iload_n 1, 1) := by decide +kernel
theorem dX1_lengthen_44 : decode cX1_lengthen 44 = .ok (.iaload, 1) := by decide +kernel
theorem dX1_lengthen_45 : decode cX1_lengthen 45 = .ok (.goto 16, 3) := by decide +kernel
theorem dX1_lengthen_48 : decode cX1_lengthen 48 = .ok (.aload_n 0, 1) := by decide +kernel
theorem dX1_lengthen_49 : decode cX1_lengthen 49 = .ok (.getfield 16, 3) := by decide +kernel
theorem dX1_lengthen_52 : decode cX1_lengthen 52 = .ok (.iload_n 1, 1) := by decide +kernel
theorem dX1_lengthen_53 : decode cX1_lengthen 53 = .ok (.iaload, 1) := by decide +kernel
theorem dX1_lengthen_54 : decode cX1_lengthen 54 = .ok (.aload_n 0, 1) := by decide +kernel
theorem dX1_lengthen_55 : decode cX1_lengthen 55 = .ok (.getfield 16, 3) := by decide +kernel
theorem dX1_lengthen_58 : decode cX1_lengthen 58 = .ok (.iload_n 3, 1) := by decide +kernel
theorem dX1_lengthen_59 : decode cX1_lengthen 59 = .ok (.iaload, 1) := by decide +kernel
theorem dX1_lengthen_60 : decode cX1_lengthen 60 = .ok (.iadd, 1) := by decide +kernel
theorem dX1_lengthen_61 : decode cX1_lengthen 61 = .ok (.istore 5, 2) := by decide +kernel
theorem dX1_lengthen_63 : decode cX1_lengthen 63 = .ok (.iload 5, 2) := by decide +kernel
theorem dX1_lengthen_65 : decode cX1_lengthen 65 = .ok (.iload_n 2, 1) := by decide +kernel
theorem dX1_lengthen_66 : decode cX1_lengthen 66 = .ok (.if_icmp .ge 14, 3) := by decide +kernel
theorem dX1_lengthen_69 : decode cX1_lengthen 69 = .ok (.aload_n 0, 1) := by decide +kernel
theorem dX1_lengthen_70 : decode cX1_lengthen 70 = .ok (.iload_n 2, 1) := by decide +kernel
theorem dX1_lengthen_71 : decode cX1_lengthen 71 = .ok (.iload 5, 2) := by decide +kernel
theorem dX1_lengthen_73 : decode cX1_lengthen 73 = .ok (.isub, 1) := by decide +kernel
theorem dX1_lengthen_74 : decode cX1_lengthen 74 = .ok (.invokevirtual 78, 3) := by decide +kernel
theorem dX1_lengthen_77 : decode cX1_lengthen 77 = .ok (.ifCond .eq 7, 3) := by decide +kernel
theorem dX1_lengthen_80 : decode cX1_lengthen 80 = .ok (.iconst 1, 1) := by decide +kernel
theorem dX1_lengthen_81 : decode cX1_lengthen 81 = .ok (.goto 4, 3) := by decide +kernel
theorem dX1_lengthen_84 : decode cX1_lengthen 84 = .ok (.iconst 0, 1) := by decide +kernel
theorem dX1_lengthen_85 : decode cX1_lengthen 85 = .ok (.istore 6, 2) := by decide +kernel
theorem dX1_lengthen_87 : decode cX1_lengthen 87 = .ok (.iload_n 1, 1) := by decide +kernel
theorem dX1_lengthen_88 : decode cX1_lengthen 88 = .ok (.iconst 1, 1) := by decide +kernel
theorem dX1_lengthen_89 : decode cX1_lengthen 89 = .ok (.iadd, 1) := by decide +kernel
theorem dX1_lengthen_90 : decode cX1_lengthen 90 = .ok (.aload_n 0, 1) := by decide +kernel
theorem dX1_lengthen_91 : decode cX1_lengthen 91 = .ok (.getfield 33, 3) := by decide +kernel
theorem dX1_lengthen_94 : decode cX1_lengthen 94 = .ok (.if_icmp .ge 33, 3) := by decide +kernel
theorem dX1_lengthen_97 : decode cX1_lengthen 97 = .ok (.aload_n 0, 1) := by decide +kernel
theorem dX1_lengthen_98 : decode cX1_lengthen 98 = .ok (.getfield 19, 3) := by decide +kernel
theorem dX1_lengthen_101 : decode cX1_lengthen 101 = .ok (.iload_n 1, 1) := by decide +kernel
theorem dX1_lengthen_102 : decode cX1_lengthen 102 = .ok (.iconst 1, 1) := by decide +kernel
theorem dX1_lengthen_103 : decode cX1_lengthen 103 = .ok (.iadd, 1) := by decide +kernel
theorem dX1_lengthen_104 : decode cX1_lengthen 104 = .ok (.baload, 1) := by decide +kernel
theorem dX1_lengthen_105 : decode cX1_lengthen 105 = .ok (.ifCond .ne 22, 3) := by decide +kernel
theorem dX1_lengthen_108 : decode cX1_lengthen 108 = .ok (.aload_n 0, 1) := by decide +kernel
theorem dX1_lengthen_109 : decode cX1_lengthen 109 = .ok (.getfield 16, 3) := by decide +kernel
theorem dX1_lengthen_112 : decode cX1_lengthen 112 = .ok (.iload_n 1, 1) := by decide +kernel
theorem dX1_lengthen_113 : decode cX1_lengthen 113 = .ok (.iaload, 1) := by decide +kernel
theorem dX1_lengthen_114 : decode cX1_lengthen 114 = .ok (.aload_n 0, 1) := by decide +kernel
theorem dX1_lengthen_115 : decode cX1_lengthen 115 = .ok (.getfield 16, 3) := by decide +kernel
theorem dX1_lengthen_118 : decode cX1_lengthen 118 = .ok (.iload_n 1, 1) := by decide +kernel
theorem dX1_lengthen_119 : decode cX1_lengthen 119 = .ok (.iconst 1, 1) := by decide +kernel
theorem dX1_lengthen_120 : decode cX1_lengthen 120 = .ok (.iadd, 1) := by decide +kernel
theorem dX1_lengthen_121 : decode cX1_lengthen 121 = .ok (.iaload, 1) := by decide +kernel
theorem dX1_lengthen_122 : decode cX1_lengthen 122 = .ok (.iadd, 1) := by decide +kernel
theorem dX1_lengthen_123 : decode cX1_lengthen 123 = .ok (.iload_n 2, 1) := by decide +kernel
theorem dX1_lengthen_124 : decode cX1_lengthen 124 = .ok (.if_icmp .ge 5, 3) := by decide +kernel
theorem dX1_lengthen_127 : decode cX1_lengthen 127 = .ok (.iconst 0, 1) := by decide +kernel
theorem dX1_lengthen_128 : decode cX1_lengthen 128 = .ok (.ireturn, 1) := by decide +kernel
theorem dX1_lengthen_129 : decode cX1_lengthen 129 = .ok (.aload_n 0, 1) := by decide +kernel
theorem dX1_lengthen_130 : decode cX1_lengthen 130 = .ok (.iload_n 1, 1) := by decide +kernel
theorem dX1_lengthen_131 : decode cX1_lengthen 131 = .ok (.iconst 1, 1) := by decide +kernel
theorem dX1_lengthen_132 : decode cX1_lengthen 132 = .ok (.iadd, 1) := by decide +kernel
theorem dX1_lengthen_133 : decode cX1_lengthen 133 = .ok (.invokevirtual 50, 3) := by decide +kernel
theorem dX1_lengthen_136 : decode cX1_lengthen 136 = .ok (.istore 5, 2) := by decide +kernel
theorem dX1_lengthen_138 : decode cX1_lengthen 138 = .ok (.aload_n 0, 1) := by decide +kernel
theorem dX1_lengthen_139 : decode cX1_lengthen 139 = .ok (.iload_n 1, 1) := by decide +kernel
theorem dX1_lengthen_140 : decode cX1_lengthen 140 = .ok (.invokevirtual 82, 3) := by decide +kernel
theorem dX1_lengthen_143 : decode cX1_lengthen 143 = .ok (.aload_n 0, 1) := by decide +kernel
theorem dX1_lengthen_144 : decode cX1_lengthen 144 = .ok (.iload_n 1, 1) := by decide +kernel
theorem dX1_lengthen_145 : decode cX1_lengthen 145 = .ok (.iload_n 2, 1) := by decide +kernel
theorem dX1_lengthen_146 : decode cX1_lengthen 146 = .ok (.invokevirtual 53, 3) := by decide +kernel
theorem dX1_lengthen_149 : decode cX1_lengthen 149 = .ok (.istore 6, 2) := by decide +kernel
theorem dX1_lengthen_151 : decode cX1_lengthen 151 = .ok (.iload 5, 2) := by decide +kernel
theorem dX1_lengthen_153 : decode cX1_lengthen 153 = .ok (.iconst 3, 1) := by decide +kernel
theorem dX1_lengthen_154 : decode cX1_lengthen 154 = .ok (.if_icmp .ne 27, 3) := by decide +kernel
theorem dX1_lengthen_157 : decode cX1_lengthen 157 = .ok (.aload_n 0, 1) := by decide +kernel
theorem dX1_lengthen_158 : decode cX1_lengthen 158 = .ok (.iload 6, 2) := by decide +kernel
theorem dX1_lengthen_160 : decode cX1_lengthen 160 = .ok (.ifCond .eq 14, 3) := by decide +kernel
theorem dX1_lengthen_163 : decode cX1_lengthen 163 = .ok (.aload_n 0, 1) := by decide +kernel
theorem dX1_lengthen_164 : decode cX1_lengthen 164 = .ok (.getfield 13, 3) := by decide +kernel
theorem dX1_lengthen_167 : decode cX1_lengthen 167 = .ok (.iload_n 1, 1) := by decide +kernel
theorem dX1_lengthen_168 : decode cX1_lengthen 168 = .ok (.iconst 1, 1) := by decide +kernel
theorem dX1_lengthen_169 : decode cX1_lengthen 169 = .ok (.iadd, 1) := by decide +kernel
theorem dX1_lengthen_170 : decode cX1_lengthen 170 = .ok (.iaload, 1) := by decide +kernel
theorem dX1_lengthen_171 : decode cX1_lengthen 171 = .ok (.goto 4, 3) := by decide +kernel
theorem dX1_lengthen_174 : decode cX1_lengthen 174 = .ok (.iconst (-1), 1) := by decide +kernel
theorem dX1_lengthen_175 : decode cX1_lengthen 175 = .ok (.putfield 26, 3) := by decide +kernel
theorem dX1_lengthen_178 : decode cX1_lengthen 178 = .ok (.goto 21, 3) := by decide +kernel
theorem dX1_lengthen_181 : decode cX1_lengthen 181 = .ok (.iload 6, 2) := by decide +kernel
theorem dX1_lengthen_183 : decode cX1_lengthen 183 = .ok (.ifCond .eq 16, 3) := by decide +kernel
theorem dX1_lengthen_186 : decode cX1_lengthen 186 = .ok (.iload 5, 2) := by decide +kernel
theorem dX1_lengthen_188 : decode cX1_lengthen 188 = .ok (.iconst 4, 1) := by decide +kernel
theorem dX1_lengthen_189 : decode cX1_lengthen 189 = .ok (.if_icmp .eq 10, 3) := by decide +kernel
theorem dX1_lengthen_192 : decode cX1_lengthen 192 = .ok (.aload_n 0, 1) := by decide +kernel
theorem dX1_lengthen_193 : decode cX1_lengthen 193 = .ok (.iload_n 1, 1) := by decide +kernel
theorem dX1_lengthen_194 : decode cX1_lengthen 194 = .ok (.iconst 1, 1) := by decide +kernel
theorem dX1_lengthen_195 : decode cX1_lengthen 195 = .ok (.iadd, 1) := by decide +kernel
theorem dX1_lengthen_196 : decode cX1_lengthen 196 = .ok (.invokevirtual 64, 3) := by decide +kernel
theorem dX1_lengthen_199 : decode cX1_lengthen 199 = .ok (.iconst 1, 1) := by decide +kernel
theorem dX1_lengthen_200 : decode cX1_lengthen 200 = .ok (.ireturn, 1) := by decide +kernel
theorem dX1_moveTo_0 : decode cX1_moveTo 0 = .ok (.aload_n 0, 1) := by decide +kernel
theorem dX1_moveTo_1 : decode cX1_moveTo 1 = .ok (.iload_n 2, 1) := by decide +kernel
theorem dX1_moveTo_2 : decode cX1_moveTo 2 = .ok (.invokevirtual 85, 3) := by decide +kernel
theorem dX1_moveTo_5 : decode cX1_moveTo 5 = .ok (.istore_n 3, 1) := by decide +kernel
theorem dX1_moveTo_6 : decode cX1_moveTo 6 = .ok (.iload_n 3, 1) := by decide +kernel
theorem dX1_moveTo_7 : decode cX1_moveTo 7 = .ok (.ifCond .ge 5, 3) := by decide +kernel
theorem dX1_moveTo_10 : decode cX1_moveTo 10 = .ok (.iconst 0, 1) := by decide +kernel
theorem dX1_moveTo_11 : decode cX1_moveTo 11 = .ok (.ireturn, 1) := by decide +kernel
theorem dX1_moveTo_12 : decode cX1_moveTo 12 = .ok (.aload_n 0, 1) := by decide +kernel
theorem dX1_moveTo_13 : decode cX1_moveTo 13 = .ok (.getfield 13, 3) := by decide +kernel
theorem dX1_moveTo_16 : decode cX1_moveTo 16 = .ok (.iload_n 3, 1) := by decide +kernel
theorem dX1_moveTo_17 : decode cX1_moveTo 17 = .ok (.iaload, 1) := by decide +kernel
theorem dX1_moveTo_18 : decode cX1_moveTo 18 = .ok (.iconst 1, 1) := by decide +kernel
theorem dX1_moveTo_19 : decode cX1_moveTo 19 = .ok (.iadd, 1) := by decide +kernel
theorem dX1_moveTo_20 : decode cX1_moveTo 20 = .ok (.istore 4, 2) := by decide +kernel
theorem dX1_moveTo_22 : decode cX1_moveTo 22 = .ok (.aload_n 0, 1) := by decide +kernel
theorem dX1_moveTo_23 : decode cX1_moveTo 23 = .ok (.iload_n 1, 1) := by decide +kernel
theorem dX1_moveTo_24 : decode cX1_moveTo 24 = .ok (.iconst 1, 1) := by decide +kernel
theorem dX1_moveTo_25 : decode cX1_moveTo 25 = .ok (.isub, 1) := by decide +kernel
theorem dX1_moveTo_26 : decode cX1_moveTo 26 = .ok (.invokevirtual 36, 3) := by decide +kernel
theorem dX1_moveTo_29 : decode cX1_moveTo 29 = .ok (.istore 5, 2) := by decide +kernel
theorem dX1_moveTo_31 : decode cX1_moveTo 31 = .ok (.iconst 0, 1) := by decide +kernel
theorem dX1_moveTo_32 : decode cX1_moveTo 32 = .ok (.istore 6, 2) := by decide +kernel
theorem dX1_moveTo_34 : decode cX1_moveTo 34 = .ok (.iload 6, 2) := by decide +kernel
theorem dX1_moveTo_36 : decode cX1_moveTo 36 = .ok (.aload_n 0, 1) := by decide +kernel
theorem dX1_moveTo_37 : decode cX1_moveTo 37 = .ok (.getfield 16, 3) := by decide +kernel
theorem dX1_moveTo_40 : decode cX1_moveTo 40 = .ok (.iload 5, 2) := by decide +kernel
theorem dX1_moveTo_42 : decode cX1_moveTo 42 = .ok (.iaload, 1) := by decide +kernel
theorem dX1_moveTo_43 : decode cX1_moveTo 43 = .ok (.iconst 1, 1) := by decide +kernel
theorem dX1_moveTo_44 : decode cX1_moveTo 44 = .ok (.isub, 1) := by decide +kernel
theorem dX1_moveTo_45 : decode cX1_moveTo 45 = .ok (.if_icmp .ge 28, 3) := by decide +kernel
theorem dX1_moveTo_48 : decode cX1_moveTo 48 = .ok (.aload_n 0, 1) := by decide +kernel
theorem dX1_moveTo_49 : decode cX1_moveTo 49 = .ok (.getfield 7, 3) := by decide +kernel
theorem dX1_moveTo_52 : decode cX1_moveTo 52 = .ok (.iload 4, 2) := by decide +kernel
theorem dX1_moveTo_54 : decode cX1_moveTo 54 = .ok (.iload 6, 2) := by decide +kernel
theorem dX1_moveTo_56 : decode cX1_moveTo 56 = .ok (.iadd, 1) := by decide +kernel
theorem dX1_moveTo_57 : decode cX1_moveTo 57 = .ok (.aload_n 0, 1) := by decide +kernel
theorem dX1_moveTo_58 : decode cX1_moveTo 58 = .ok (.getfield 7, 3) := by decide +kernel
theorem dX1_moveTo_61 : decode cX1_moveTo 61 = .ok (.iload_n 1, 1) := by decide +kernel
theorem dX1_moveTo_62 : decode cX1_moveTo 62 = .ok (.iload 6, 2) := by decide +kernel
theorem dX1_moveTo_64 : decode cX1_moveTo 64 = .ok (.iadd, 1) := by decide +kernel
theorem dX1_moveTo_65 : decode cX1_moveTo 65 = .ok (.iaload, 1) := by decide +kernel
theorem dX1_moveTo_66 : decode cX1_moveTo 66 = .ok (.iastore, 1) := by decide +kernel
theorem dX1_moveTo_67 : decode cX1_moveTo 67 = .ok (.iinc 6 1, 3) := by decide +kernel
theorem dX1_moveTo_70 : decode cX1_moveTo 70 = .ok (.goto (-36), 3) := by decide +kernel
theorem dX1_moveTo_73 : decode cX1_moveTo 73 = .ok (.aload_n 0, 1) := by decide +kernel
theorem dX1_moveTo_74 : decode cX1_moveTo 74 = .ok (.iload 5, 2) := by decide +kernel
theorem dX1_moveTo_76 : decode cX1_moveTo 76 = .ok (.invokevirtual 94, 3) := by decide +kernel
theorem dX1_moveTo_79 : decode cX1_moveTo 79 = .ok (.iload 4, 2) := by decide +kernel
theorem dX1_moveTo_81 : decode cX1_moveTo 81 = .ok (.ireturn, 1) := by decide +kernel
theorem dX1_realloc_0 : decode cX1_realloc 0 = .ok (.aload_n 0, 1) := by decide +kernel
theorem dX1_realloc_1 : decode cX1_realloc 1 = .ok (.iload_n 1, 1) := by decide +kernel
theorem dX1_realloc_2 : decode cX1_realloc 2 = .ok (.invokevirtual 91, 3) := by decide +kernel
theorem dX1_realloc_5 : decode cX1_realloc 5 = .ok (.istore_n 3, 1) := by decide +kernel
theorem dX1_realloc_6 : decode cX1_realloc 6 = .ok (.iload_n 3, 1) := by decide +kernel
theorem dX1_realloc_7 : decode cX1_realloc 7 = .ok (.ifCond .lt 10, 3) := by decide +kernel
theorem dX1_realloc_10 : decode cX1_realloc 10 = .ok (.iload_n 2, 1) := by decide +kernel
theorem dX1_realloc_11 : decode cX1_realloc 11 = .ok (.sipush 511, 3) := by decide +kernel
theorem dX1_realloc_14 : decode cX1_realloc 14 = .ok (.if_icmp .le 5, 3) := by decide +kernel
theorem dX1_realloc_17 : decode cX1_realloc 17 = .ok (.iconst 0, 1) := by decide +kernel
theorem dX1_realloc_18 : decode cX1_realloc 18 = .ok (.ireturn, 1) := by decide +kernel
theorem dX1_realloc_19 : decode cX1_realloc 19 = .ok (.iload_n 2, 1) := by decide +kernel
theorem dX1_realloc_20 : decode cX1_realloc 20 = .ok (.iconst 1, 1) := by decide +kernel
theorem dX1_realloc_21 : decode cX1_realloc 21 = .ok (.if_icmp .ge 7, 3) := by decide +kernel
theorem dX1_realloc_24 : decode cX1_realloc 24 = .ok (.iconst 2, 1) := by decide +kernel
theorem dX1_realloc_25 : decode cX1_realloc 25 = .ok (.goto 6, 3) := by decide +kernel
theorem dX1_realloc_28 : decode cX1_realloc 28 = .ok (.iload_n 2, 1) := by decide +kernel
theorem dX1_realloc_29 : decode cX1_realloc 29 = .ok (.iconst 1, 1) := by decide +kernel
theorem dX1_realloc_30 : decode cX1_realloc 30 = .ok (.iadd, 1) := by decide +kernel
theorem dX1_realloc_31 : decode cX1_realloc 31 = .ok (.istore 4, 2) := by decide +kernel
theorem dX1_realloc_33 : decode cX1_realloc 33 = .ok (.aload_n 0, 1) := by decide +kernel
theorem dX1_realloc_34 : decode cX1_realloc 34 = .ok (.getfield 16, 3) := by decide +kernel
theorem dX1_realloc_37 : decode cX1_realloc 37 = .ok (.iload_n 3, 1) := by decide +kernel
theorem dX1_realloc_38 : decode cX1_realloc 38 = .ok (.iaload, 1) := by decide +kernel
theorem dX1_realloc_39 : decode cX1_realloc 39 = .ok (.iload 4, 2) := by decide +kernel
theorem dX1_realloc_41 : decode cX1_realloc 41 = .ok (.if_icmp .lt 12, 3) := by decide +kernel
theorem dX1_realloc_44 : decode cX1_realloc 44 = .ok (.aload_n 0, 1) := by decide +kernel
theorem dX1_realloc_45 : decode cX1_realloc 45 = .ok (.iload_n 3, 1) := by decide +kernel
theorem dX1_realloc_46 : decode cX1_realloc 46 = .ok (.iload 4, 2) := by decide +kernel
theorem dX1_realloc_48 : decode cX1_realloc 48 = .ok (.invokevirtual 97, 3) := by decide +kernel
theorem dX1_realloc_51 : decode cX1_realloc 51 = .ok (.iload_n 1, 1) := by decide +kernel
theorem dX1_realloc_52 : decode cX1_realloc 52 = .ok (.ireturn, 1) := by decide +kernel
theorem dX1_realloc_53 : decode cX1_realloc 53 = .ok (.aload_n 0, 1) := by decide +kernel
theorem dX1_realloc_54 : decode cX1_realloc 54 = .ok (.iload_n 3, 1) := by decide +kernel
theorem dX1_realloc_55 : decode cX1_realloc 55 = .ok (.iload 4, 2) := by decide +kernel
theorem dX1_realloc_57 : decode cX1_realloc 57 = .ok (.invokevirtual 100, 3) := by decide +kernel
theorem dX1_realloc_60 : decode cX1_realloc 60 = .ok (.ifCond .eq 7, 3) := by decide +kernel
theorem dX1_realloc_63 : decode cX1_realloc 63 = .ok (.iload_n 1, 1) := by decide +kernel
theorem dX1_realloc_64 : decode cX1_realloc 64 = .ok (.goto 10, 3) := by decide +kernel
theorem dX1_realloc_67 : decode cX1_realloc 67 = .ok (.aload_n 0, 1) := by decide +kernel
theorem dX1_realloc_68 : decode cX1_realloc 68 = .ok (.iload_n 1, 1) := by decide +kernel
theorem dX1_realloc_69 : decode cX1_realloc 69 = .ok (.iload 4, 2) := by decide +kernel
theorem dX1_realloc_71 : decode cX1_realloc 71 = .ok (.invokevirtual 103, 3) := by decide +kernel
theorem dX1_realloc_74 : decode cX1_realloc 74 = .ok (.ireturn, 1) := by decide +kernel
theorem dX1_align_0 : decode cX1_align 0 = .ok (.iload_n 1, 1) := by decide +kernel
theorem dX1_align_1 : decode cX1_align 1 = .ok (.sipush 511, 3) := by decide +kernel
theorem dX1_align_4 : decode cX1_align 4 = .ok (.if_icmp .gt 25, 3) := by decide +kernel
theorem dX1_align_7 : decode cX1_align 7 = .ok (.iload_n 2, 1) := by decide +kernel
theorem dX1_align_8 : decode cX1_align 8 = .ok (.iconst 2, 1) := by decide +kernel
theorem dX1_align_9 : decode cX1_align 9 = .ok (.if_icmp .eq 22, 3) := by decide +kernel
theorem dX1_align_12 : decode cX1_align 12 = .ok (.iload_n 2, 1) := by decide +kernel
theorem dX1_align_13 : decode cX1_align 13 = .ok (.iconst 4, 1) := by decide +kernel
theorem dX1_align_14 : decode cX1_align 14 = .ok (.if_icmp .eq 17, 3) := by decide +kernel
theorem dX1_align_17 : decode cX1_align 17 = .ok (.iload_n 2, 1) := by decide +kernel
theorem dX1_align_18 : decode cX1_align 18 = .ok (.bipush 8, 2) := by decide +kernel
theorem dX1_align_20 : decode cX1_align 20 = .ok (.if_icmp .eq 11, 3) := by decide +kernel
theorem dX1_align_23 : decode cX1_align 23 = .ok (.iload_n 2, 1) := by decide +kernel
theorem dX1_align_24 : decode cX1_align 24 = .ok (.bipush 16, 2) := by decide +kernel
theorem dX1_align_26 : decode cX1_align 26 = .ok (.if_icmp .eq 5, 3) := by decide +kernel
theorem dX1_align_29 : decode cX1_align 29 = .ok (.iconst 0, 1) := by decide +kernel
theorem dX1_align_30 : decode cX1_align 30 = .ok (.ireturn, 1) := by decide +kernel
theorem dX1_align_31 : decode cX1_align 31 = .ok (.iload_n 1, 1) := by decide +kernel
theorem dX1_align_32 : decode cX1_align 32 = .ok (.iconst 1, 1) := by decide +kernel
theorem dX1_align_33 : decode cX1_align 33 = .ok (.if_icmp .ge 7, 3) := by decide +kernel
theorem dX1_align_36 : decode cX1_align 36 = .ok (.iconst 1, 1) := by decide +kernel
theorem dX1_align_37 : decode cX1_align 37 = .ok (.goto 4, 3) := by decide +kernel
theorem dX1_align_40 : decode cX1_align 40 = .ok (.iload_n 1, 1) := by decide +kernel
theorem dX1_align_41 : decode cX1_align 41 = .ok (.istore_n 3, 1) := by decide +kernel
theorem dX1_align_42 : decode cX1_align 42 = .ok (.aload_n 0, 1) := by decide +kernel
theorem dX1_align_43 : decode cX1_align 43 = .ok (.iload_n 3, 1) := by decide +kernel
theorem dX1_align_44 : decode cX1_align 44 = .ok (.iload_n 2, 1) := by decide +kernel
theorem dX1_align_45 : decode cX1_align 45 = .ok (.iadd, 1) := by decide +kernel
theorem dX1_align_46 : decode cX1_align 46 = .ok (.iconst 3, 1) := by decide +kernel
theorem dX1_align_47 : decode cX1_align 47 = .ok (.iadd, 1) := by decide +kernel
theorem dX1_align_48 : decode cX1_align 48 = .ok (.invokevirtual 85, 3) := by decide +kernel
theorem dX1_align_51 : decode cX1_align 51 = .ok (.istore 4, 2) := by decide +kernel
theorem dX1_align_53 : decode cX1_align 53 = .ok (.iload 4, 2) := by decide +kernel
theorem dX1_align_55 : decode cX1_align 55 = .ok (.ifCond .ge 5, 3) := by decide +kernel
theorem dX1_align_58 : decode cX1_align 58 = .ok (.iconst 0, 1) := by decide +kernel
theorem dX1_align_59 : decode cX1_align 59 = .ok (.ireturn, 1) := by decide +kernel
theorem dX1_align_60 : decode cX1_align 60 = .ok (.aload_n 0, 1) := by decide +kernel
theorem dX1_align_61 : decode cX1_align 61 = .ok (.getfield 13, 3) := by decide +kernel
theorem dX1_align_64 : decode cX1_align 64 = .ok (.iload 4, 2) := by decide +kernel
theorem dX1_align_66 : decode cX1_align 66 = .ok (.iaload, 1) := by decide +kernel
theorem dX1_align_67 : decode cX1_align 67 = .ok (.iconst 1, 1) := by decide +kernel
theorem dX1_align_68 : decode cX1_align 68 = .ok (.iadd, 1) := by decide +kernel
theorem dX1_align_69 : decode cX1_align 69 = .ok (.istore 5, 2) := by decide +kernel
theorem dX1_align_71 : decode cX1_align 71 = .ok (.iload 5, 2) := by decide +kernel
theorem dX1_align_73 : decode cX1_align 73 = .ok (.iload_n 2, 1) := by decide +kernel
theorem dX1_align_74 : decode cX1_align 74 = .ok (.irem, 1) := by decide +kernel
theorem dX1_align_75 : decode cX1_align 75 = .ok (.ifCond .eq 53, 3) := by decide +kernel
theorem dX1_align_78 : decode cX1_align 78 = .ok (.iconst 2, 1) := by decide +kernel
theorem dX1_align_79 : decode cX1_align 79 = .ok (.istore 6, 2) := by decide +kernel
theorem dX1_align_81 : decode cX1_align 81 = .ok (.iload 5, 2) := by decide +kernel
theorem dX1_align_83 : decode cX1_align 83 = .ok (.iload 6, 2) := by decide +kernel
theorem dX1_align_85 : decode cX1_align 85 = .ok (.iadd, 1) := by decide +kernel
theorem dX1_align_86 : decode cX1_align 86 = .ok (.iload_n 2, 1) := by decide +kernel
theorem dX1_align_87 : decode cX1_align 87 = .ok (.irem, 1) := by decide +kernel
theorem dX1_align_88 : decode cX1_align 88 = .ok (.ifCond .eq 9, 3) := by decide +kernel
theorem dX1_align_91 : decode cX1_align 91 = .ok (.iinc 6 1, 3) := by decide +kernel
theorem dX1_align_94 : decode cX1_align 94 = .ok (.goto (-13), 3) := by decide +kernel
theorem dX1_align_97 : decode cX1_align 97 = .ok (.aload_n 0, 1) := by decide +kernel
theorem dX1_align_98 : decode cX1_align 98 = .ok (.iload 4, 2) := by decide +kernel
theorem dX1_align_100 : decode cX1_align 100 = .ok (.iload 6, 2) := by decide +kernel
theorem dX1_align_102 : decode cX1_align 102 = .ok (.invokevirtual 46, 3) := by decide +kernel
theorem dX1_align_105 : decode cX1_align 105 = .ok (.aload_n 0, 1) := by decide +kernel
theorem dX1_align_106 : decode cX1_align 106 = .ok (.getfield 19, 3) := by decide +kernel
theorem dX1_align_109 : decode cX1_align 109 = .ok (.iload 4, 2) := by decide +kernel
theorem dX1_align_111 : decode cX1_align 111 = .ok (.iconst 1, 1) := by decide +kernel
theorem dX1_align_112 : decode cX1_align 112 = .ok (.iadd, 1) := by decide +kernel
theorem dX1_align_113 : decode cX1_align 113 = .ok (.iconst 1, 1) := by decide +kernel
theorem dX1_align_114 : decode cX1_align 114 = .ok (.bastore, 1) := by decide +kernel
theorem dX1_align_115 : decode cX1_align 115 = .ok (.aload_n 0, 1) := by decide +kernel
theorem dX1_align_116 : decode cX1_align 116 = .ok (.iload 4, 2) := by decide +kernel
theorem dX1_align_118 : decode cX1_align 118 = .ok (.invokevirtual 94, 3) := by decide +kernel
theorem dX1_align_121 : decode cX1_align 121 = .ok (.iload 5, 2) := by decide +kernel
theorem dX1_align_123 : decode cX1_align 123 = .ok (.iload 6, 2) := by decide +kernel
theorem dX1_align_125 : decode cX1_align 125 = .ok (.iadd, 1) := by decide +kernel
theorem dX1_align_126 : decode cX1_align 126 = .ok (.istore 5, 2) := by decide +kernel
theorem dX1_align_128 : decode cX1_align 128 = .ok (.aload_n 0, 1) := by decide +kernel
theorem dX1_align_129 : decode cX1_align 129 = .ok (.iload 5, 2) := by decide +kernel
theorem dX1_align_131 : decode cX1_align 131 = .ok (.iconst 1, 1) := by decide +kernel
theorem dX1_align_132 : decode cX1_align 132 = .ok (.isub, 1) := by decide +kernel
theorem dX1_align_133 : decode cX1_align 133 = .ok (.invokevirtual 36, 3) := by decide +kernel
theorem dX1_align_136 : decode cX1_align 136 = .ok (.istore 6, 2) := by decide +kernel
theorem dX1_align_138 : decode cX1_align 138 = .ok (.aload_n 0, 1) := by decide +kernel
theorem dX1_align_139 : decode cX1_align 139 = .ok (.iload 6, 2) := by decide +kernel
theorem dX1_align_141 : decode cX1_align 141 = .ok (.iload_n 3, 1) := by decide +kernel
theorem dX1_align_142 : decode cX1_align 142 = .ok (.iconst 1, 1) := by decide +kernel
theorem dX1_align_143 : decode cX1_align 143 = .ok (.iadd, 1) := by decide +kernel
theorem dX1_align_144 : decode cX1_align 144 = .ok (.invokevirtual 97, 3) := by decide +kernel
theorem dX1_align_147 : decode cX1_align 147 = .ok (.iload 5, 2) := by decide +kernel
theorem dX1_align_149 : decode cX1_align 149 = .ok (.ireturn, 1) := by decide +kernel
theorem dX1_trim_0 : decode cX1_trim 0 = .ok (.aload_n 0, 1) := by decide +kernel
theorem dX1_trim_1 : decode cX1_trim 1 = .ok (.invokevirtual 68, 3) := by decide +kernel
theorem dX1_trim_4 : decode cX1_trim 4 = .ok (.istore_n 2, 1) := by decide +kernel
theorem dX1_trim_5 : decode cX1_trim 5 = .ok (.iload_n 2, 1) := by decide +kernel
theorem dX1_trim_6 : decode cX1_trim 6 = .ok (.ifCond .ge 5, 3) := by decide +kernel
theorem dX1_trim_9 : decode cX1_trim 9 = .ok (.iconst 0, 1) := by decide +kernel
theorem dX1_trim_10 : decode cX1_trim 10 = .ok (.ireturn, 1) := by decide +kernel
theorem dX1_trim_11 : decode cX1_trim 11 = .ok (.aload_n 0, 1) := by decide +kernel
theorem dX1_trim_12 : decode cX1_trim 12 = .ok (.getfield 16, 3) := by decide +kernel
theorem dX1_trim_15 : decode cX1_trim 15 = .ok (.iload_n 2, 1) := by decide +kernel
theorem dX1_trim_16 : decode cX1_trim 16 = .ok (.iaload, 1) := by decide +kernel
theorem dX1_trim_17 : decode cX1_trim 17 = .ok (.bipush 16, 2) := by decide +kernel
theorem dX1_trim_19 : decode cX1_trim 19 = .ok (.idiv, 1) := by decide +kernel
theorem dX1_trim_20 : decode cX1_trim 20 = .ok (.bipush 16, 2) := by decide +kernel
theorem dX1_trim_22 : decode cX1_trim 22 = .ok (.imul, 1) := by decide +kernel
theorem dX1_trim_23 : decode cX1_trim 23 = .ok (.istore_n 3, 1) := by decide +kernel
theorem dX1_trim_24 : decode cX1_trim 24 = .ok (.iload_n 3, 1) := by decide +kernel
theorem dX1_trim_25 : decode cX1_trim 25 = .ok (.ifCond .le 35, 3) := by decide +kernel
theorem dX1_trim_28 : decode cX1_trim 28 = .ok (.aload_n 0, 1) := by decide +kernel
theorem dX1_trim_29 : decode cX1_trim 29 = .ok (.getfield 16, 3) := by decide +kernel
theorem dX1_trim_32 : decode cX1_trim 32 = .ok (.iload_n 2, 1) := by decide +kernel
theorem dX1_trim_33 : decode cX1_trim 33 = .ok (.iaload, 1) := by decide +kernel
theorem dX1_trim_34 : decode cX1_trim 34 = .ok (.iload_n 3, 1) := by decide +kernel
theorem dX1_trim_35 : decode cX1_trim 35 = .ok (.isub, 1) := by decide +kernel
theorem dX1_trim_36 : decode cX1_trim 36 = .ok (.iload_n 1, 1) := by decide +kernel
theorem dX1_trim_37 : decode cX1_trim 37 = .ok (.if_icmp .lt 15, 3) := by decide +kernel
theorem dX1_trim_40 : decode cX1_trim 40 = .ok (.aload_n 0, 1) := by decide +kernel
theorem dX1_trim_41 : decode cX1_trim 41 = .ok (.getfield 16, 3) := by decide +kernel
theorem dX1_trim_44 : decode cX1_trim 44 = .ok (.iload_n 2, 1) := by decide +kernel
theorem dX1_trim_45 : decode cX1_trim 45 = .ok (.iaload, 1) := by decide +kernel
theorem dX1_trim_46 : decode cX1_trim 46 = .ok (.iload_n 3, 1) := by decide +kernel
theorem dX1_trim_47 : decode cX1_trim 47 = .ok (.isub, 1) := by decide +kernel
theorem dX1_trim_48 : decode cX1_trim 48 = .ok (.iconst 1, 1) := by decide +kernel
theorem dX1_trim_49 : decode cX1_trim 49 = .ok (.if_icmp .ne 11, 3) := by decide +kernel
theorem dX1_trim_52 : decode cX1_trim 52 = .ok (.iload_n 3, 1) := by decide +kernel
theorem dX1_trim_53 : decode cX1_trim 53 = .ok (.bipush 16, 2) := by decide +kernel
theorem dX1_trim_55 : decode cX1_trim 55 = .ok (.isub, 1) := by decide +kernel
theorem dX1_trim_56 : decode cX1_trim 56 = .ok (.istore_n 3, 1) := by decide +kernel
theorem dX1_trim_57 : decode cX1_trim 57 = .ok (.goto (-33), 3) := by decide +kernel
theorem dX1_trim_60 : decode cX1_trim 60 = .ok (.aload_n 0, 1) := by decide +kernel
theorem dX1_trim_61 : decode cX1_trim 61 = .ok (.aload_n 0, 1) := by decide +kernel
theorem dX1_trim_62 : decode cX1_trim 62 = .ok (.getfield 40, 3) := by decide +kernel
theorem dX1_trim_65 : decode cX1_trim 65 = .ok (.iload_n 3, 1) := by decide +kernel
theorem dX1_trim_66 : decode cX1_trim 66 = .ok (.isub, 1) := by decide +kernel
theorem dX1_trim_67 : decode cX1_trim 67 = .ok (.putfield 40, 3) := by decide +kernel
theorem dX1_trim_70 : decode cX1_trim 70 = .ok (.aload_n 0, 1) := by decide +kernel
theorem dX1_trim_71 : decode cX1_trim 71 = .ok (.getfield 16, 3) := by decide +kernel
theorem dX1_trim_74 : decode cX1_trim 74 = .ok (.iload_n 2, 1) := by decide +kernel
theorem dX1_trim_75 : decode cX1_trim 75 = .ok (.aload_n 0, 1) := by decide +kernel
theorem dX1_trim_76 : decode cX1_trim 76 = .ok (.getfield 16, 3) := by decide +kernel
theorem dX1_trim_79 : decode cX1_trim 79 = .ok (.iload_n 2, 1) := by decide +kernel
theorem dX1_trim_80 : decode cX1_trim 80 = .ok (.iaload, 1) := by decide +kernel
theorem dX1_trim_81 : decode cX1_trim 81 = .ok (.iload_n 3, 1) := by decide +kernel
theorem dX1_trim_82 : decode cX1_trim 82 = .ok (.isub, 1) := by decide +kernel
theorem dX1_trim_83 : decode cX1_trim 83 = .ok (.iastore, 1) := by decide +kernel
theorem dX1_trim_84 : decode cX1_trim 84 = .ok (.aload_n 0, 1) := by decide +kernel
theorem dX1_trim_85 : decode cX1_trim 85 = .ok (.getfield 16, 3) := by decide +kernel
theorem dX1_trim_88 : decode cX1_trim 88 = .ok (.iload_n 2, 1) := by decide +kernel
theorem dX1_trim_89 : decode cX1_trim 89 = .ok (.iaload, 1) := by decide +kernel
theorem dX1_trim_90 : decode cX1_trim 90 = .ok (.ifCond .ne 13, 3) := by decide +kernel
theorem dX1_trim_93 : decode cX1_trim 93 = .ok (.aload_n 0, 1) := by decide +kernel
theorem dX1_trim_94 : decode cX1_trim 94 = .ok (.dup, 1) := by decide +kernel
theorem dX1_trim_95 : decode cX1_trim 95 = .ok (.getfield 33, 3) := by decide +kernel
theorem dX1_trim_98 : decode cX1_trim 98 = .ok (.iconst 1, 1) := by decide +kernel
theorem dX1_trim_99 : decode cX1_trim 99 = .ok (.isub, 1) := by decide +kernel
theorem dX1_trim_100 : decode cX1_trim 100 = .ok (.putfield 33, 3) := by decide +kernel
theorem dX1_trim_103 : decode cX1_trim 103 = .ok (.iload_n 3, 1) := by decide +kernel
theorem dX1_trim_104 : decode cX1_trim 104 = .ok (.ireturn, 1) := by decide +kernel
theorem dX1_usable_0 : decode cX1_usable 0 = .ok (.aload_n 0, 1) := by decide +kernel
theorem dX1_usable_1 : decode cX1_usable 1 = .ok (.iload_n 1, 1) := by decide +kernel
theorem dX1_usable_2 : decode cX1_usable 2 = .ok (.invokevirtual 91, 3) := by decide +kernel
theorem dX1_usable_5 : decode cX1_usable 5 = .ok (.istore_n 2, 1) := by decide +kernel
theorem dX1_usable_6 : decode cX1_usable 6 = .ok (.iload_n 2, 1) := by decide +kernel
theorem dX1_usable_7 : decode cX1_usable 7 = .ok (.ifCond .ge 7, 3) := by decide +kernel
theorem dX1_usable_10 : decode cX1_usable 10 = .ok (.iconst 0, 1) := by decide +kernel
theorem dX1_usable_11 : decode cX1_usable 11 = .ok (.goto 11, 3) := by decide +kernel
theorem dX1_usable_14 : decode cX1_usable 14 = .ok (.aload_n 0, 1) := by decide +kernel
theorem dX1_usable_15 : decode cX1_usable 15 = .ok (.getfield 16, 3) := by decide +kernel
theorem dX1_usable_18 : decode cX1_usable 18 = .ok (.iload_n 2, 1) := by decide +kernel
theorem dX1_usable_19 : decode cX1_usable 19 = .ok (.iaload, 1) := by decide +kernel
theorem dX1_usable_20 : decode cX1_usable 20 = .ok (.iconst 1, 1) := by decide +kernel
theorem dX1_usable_21 : decode cX1_usable 21 = .ok (.isub, 1) := by decide +kernel
theorem dX1_usable_22 : decode cX1_usable 22 = .ok (.ireturn, 1) := by decide +kernel
theorem dX1_isData_0 : decode cX1_isData 0 = .ok (.iload_n 2, 1) := by decide +kernel
theorem dX1_isData_1 : decode cX1_isData 1 = .ok (.ifCond .lt 16, 3) := by decide +kernel
theorem dX1_isData_4 : decode cX1_isData 4 = .ok (.iload_n 2, 1) := by decide +kernel
theorem dX1_isData_5 : decode cX1_isData 5 = .ok (.aload_n 0, 1) := by decide +kernel
theorem dX1_isData_6 : decode cX1_isData 6 = .ok (.iload_n 1, 1) := by decide +kernel
theorem dX1_isData_7 : decode cX1_isData 7 = .ok (.invokevirtual 106, 3) := by decide +kernel
theorem dX1_isData_10 : decode cX1_isData 10 = .ok (.if_icmp .ge 7, 3) := by decide +kernel
theorem dX1_isData_13 : decode cX1_isData 13 = .ok (.iconst 1, 1) := by decide +kernel
theorem dX1_isData_14 : decode cX1_isData 14 = .ok (.goto 4, 3) := by decide +kernel
theorem dX1_isData_17 : decode cX1_isData 17 = .ok (.iconst 0, 1) := by decide +kernel
theorem dX1_isData_18 : decode cX1_isData 18 = .ok (.ireturn, 1) := by decide +kernel
theorem dX1_read_0 : decode cX1_read 0 = .ok (.aload_n 0, 1) := by decide +kernel
theorem dX1_read_1 : decode cX1_read 1 = .ok (.iload_n 1, 1) := by decide +kernel
theorem dX1_read_2 : decode cX1_read 2 = .ok (.iload_n 2, 1) := by decide +kernel
theorem dX1_read_3 : decode cX1_read 3 = .ok (.invokevirtual 109, 3) := by decide +kernel
theorem dX1_read_6 : decode cX1_read 6 = .ok (.ifCond .eq 14, 3) := by decide +kernel
theorem dX1_read_9 : decode cX1_read 9 = .ok (.aload_n 0, 1) := by decide +kernel
theorem dX1_read_10 : decode cX1_read 10 = .ok (.getfield 7, 3) := by decide +kernel
theorem dX1_read_13 : decode cX1_read 13 = .ok (.iload_n 1, 1) := by decide +kernel
theorem dX1_read_14 : decode cX1_read 14 = .ok (.iload_n 2, 1) := by decide +kernel
theorem dX1_read_15 : decode cX1_read 15 = .ok (.iadd, 1) := by decide +kernel
theorem dX1_read_16 : decode cX1_read 16 = .ok (.iaload, 1) := by decide +kernel
theorem dX1_read_17 : decode cX1_read 17 = .ok (.goto 4, 3) := by decide +kernel
theorem dX1_read_20 : decode cX1_read 20 = .ok (.iconst 0, 1) := by decide +kernel
theorem dX1_read_21 : decode cX1_read 21 = .ok (.ireturn, 1) := by decide +kernel
theorem dX1_write_0 : decode cX1_write 0 = .ok (.aload_n 0, 1) := by decide +kernel
theorem dX1_write_1 : decode cX1_write 1 = .ok (.iload_n 1, 1) := by decide +kernel
theorem dX1_write_2 : decode cX1_write 2 = .ok (.iload_n 2, 1) := by decide +kernel
theorem dX1_write_3 : decode cX1_write 3 = .ok (.invokevirtual 109, 3) := by decide +kernel
theorem dX1_write_6 : decode cX1_write 6 = .ok (.ifCond .ne 5, 3) := by decide +kernel
theorem dX1_write_9 : decode cX1_write 9 = .ok (.iconst 0, 1) := by decide +kernel
theorem dX1_write_10 : decode cX1_write 10 = .ok (.ireturn, 1) := by decide +kernel
theorem dX1_write_11 : decode cX1_write 11 = .ok (.aload_n 0, 1) := by decide +kernel
theorem dX1_write_12 : decode cX1_write 12 = .ok (.getfield 7, 3) := by decide +kernel
theorem dX1_write_15 : decode cX1_write 15 = .ok (.iload_n 1, 1) := by decide +kernel
theorem dX1_write_16 : decode cX1_write 16 = .ok (.iload_n 2, 1) := by decide +kernel
theorem dX1_write_17 : decode cX1_write 17 = .ok (.iadd, 1) := by decide +kernel
theorem dX1_write_18 : decode cX1_write 18 = .ok (.iload_n 3, 1) := by decide +kernel
theorem dX1_write_19 : decode cX1_write 19 = .ok (.iastore, 1) := by decide +kernel
theorem dX1_write_20 : decode cX1_write 20 = .ok (.iconst 1, 1) := by decide +kernel
theorem dX1_write_21 : decode cX1_write 21 = .ok (.ireturn, 1) := by decide +kernel
theorem dX1_size_0 : decode cX1_size 0 = .ok (.aload_n 0, 1) := by decide +kernel
theorem dX1_size_1 : decode cX1_size 1 = .ok (.iload_n 1, 1) := by decide +kernel
theorem dX1_size_2 : decode cX1_size 2 = .ok (.invokevirtual 36, 3) := by decide +kernel
theorem dX1_size_5 : decode cX1_size 5 = .ok (.istore_n 2, 1) := by decide +kernel
theorem dX1_size_6 : decode cX1_size 6 = .ok (.iload_n 2, 1) := by decide +kernel
theorem dX1_size_7 : decode cX1_size 7 = .ok (.ifCond .ge 7, 3) := by decide +kernel
theorem dX1_size_10 : decode cX1_size 10 = .ok (.iconst (-1), 1) := by decide +kernel
theorem dX1_size_11 : decode cX1_size 11 = .ok (.goto 9, 3) := by decide +kernel
theorem dX1_size_14 : decode cX1_size 14 = .ok (.aload_n 0, 1) := by decide +kernel
theorem dX1_size_15 : decode cX1_size 15 = .ok (.getfield 16, 3) := by decide +kernel
theorem dX1_size_18 : decode cX1_size 18 = .ok (.iload_n 2, 1) := by decide +kernel
theorem dX1_size_19 : decode cX1_size 19 = .ok (.iaload, 1) := by decide +kernel
theorem dX1_size_20 : decode cX1_size 20 = .ok (.ireturn, 1) := by decide +kernel
theorem dX1_state_0 : decode cX1_state 0 = .ok (.aload_n 0, 1) := by decide +kernel
theorem dX1_state_1 : decode cX1_state 1 = .ok (.iload_n 1, 1) := by decide +kernel
theorem dX1_state_2 : decode cX1_state 2 = .ok (.invokevirtual 36, 3) := by decide +kernel
theorem dX1_state_5 : decode cX1_state 5 = .ok (.istore_n 2, 1) := by decide +kernel
theorem dX1_state_6 : decode cX1_state 6 = .ok (.iload_n 2, 1) := by decide +kernel
theorem dX1_state_7 : decode cX1_state 7 = .ok (.ifCond .ge 7, 3) := by decide +kernel
theorem dX1_state_10 : decode cX1_state 10 = .ok (.iconst (-1), 1) := by decide +kernel
theorem dX1_state_11 : decode cX1_state 11 = .ok (.goto 8, 3) := by decide +kernel
theorem dX1_state_14 : decode cX1_state 14 = .ok (.aload_n 0, 1) := by decide +kernel
theorem dX1_state_15 : decode cX1_state 15 = .ok (.iload_n 2, 1) := by decide +kernel
theorem dX1_state_16 : decode cX1_state 16 = .ok (.invokevirtual 50, 3) := by decide +kernel
theorem dX1_state_19 : decode cX1_state 19 = .ok (.ireturn, 1) := by decide +kernel
theorem dX1_count_0 : decode cX1_count 0 = .ok (.iload_n 1, 1) := by decide +kernel
theorem dX1_count_1 : decode cX1_count 1 = .ok (.ifCond .lt 9, 3) := by decide +kernel
theorem dX1_count_4 : decode cX1_count 4 = .ok (.iload_n 1, 1) := by decide +kernel
theorem dX1_count_5 : decode cX1_count 5 = .ok (.bipush 16, 2) := by decide +kernel
theorem dX1_count_7 : decode cX1_count 7 = .ok (.if_icmp .le 5, 3) := by decide +kernel
theorem dX1_count_10 : decode cX1_count 10 = .ok (.iconst (-1), 1) := by decide +kernel
theorem dX1_count_11 : decode cX1_count 11 = .ok (.ireturn, 1) := by decide +kernel
theorem dX1_count_12 : decode cX1_count 12 = .ok (.iload_n 1, 1) := by decide +kernel
theorem dX1_count_13 : decode cX1_count 13 = .ok (.iconst 1, 1) := by decide +kernel
theorem dX1_count_14 : decode cX1_count 14 = .ok (.if_icmp .ne 8, 3) := by decide +kernel
theorem dX1_count_17 : decode cX1_count 17 = .ok (.aload_n 0, 1) := by decide +kernel
theorem dX1_count_18 : decode cX1_count 18 = .ok (.getfield 33, 3) := by decide +kernel
theorem dX1_count_21 : decode cX1_count 21 = .ok (.ireturn, 1) := by decide +kernel
theorem dX1_count_22 : decode cX1_count 22 = .ok (.iconst 0, 1) := by decide +kernel
theorem dX1_count_23 : decode cX1_count 23 = .ok (.istore_n 2, 1) := by decide +kernel
theorem dX1_count_24 : decode cX1_count 24 = .ok (.iconst 0, 1) := by decide +kernel
theorem dX1_count_25 : decode cX1_count 25 = .ok (.istore_n 3, 1) := by decide +kernel
theorem dX1_count_26 : decode cX1_count 26 = .ok (.iload_n 3, 1) := by decide +kernel
theorem dX1_count_27 : decode cX1_count 27 = .ok (.aload_n 0, 1) := by decide +kernel
theorem dX1_count_28 : decode cX1_count 28 = .ok (.getfield 33, 3) := by decide +kernel
theorem dX1_count_31 : decode cX1_count 31 = .ok (.if_icmp .ge 89, 3) := by decide +kernel
theorem dX1_count_34 : decode cX1_count 34 = .ok (.aload_n 0, 1) := by decide +kernel
theorem dX1_count_35 : decode cX1_count 35 = .ok (.iload_n 3, 1) := by decide +kernel
theorem dX1_count_36 : decode cX1_count 36 = .ok (.invokevirtual 50, 3) := by decide +kernel
theorem dX1_count_39 : decode cX1_count 39 = .ok (.istore 4, 2) := by decide +kernel
theorem dX1_count_41 : decode cX1_count 41 = .ok (.iload_n 1, 1) := by decide +kernel
theorem dX1_count_42 : decode cX1_count 42 = .ok (.ifCond .ne 16, 3) := by decide +kernel
theorem dX1_count_45 : decode cX1_count 45 = .ok (.iload 4, 2) := by decide +kernel
theorem dX1_count_47 : decode cX1_count 47 = .ok (.ifCond .ne 7, 3) := by decide +kernel
theorem dX1_count_50 : decode cX1_count 50 = .ok (.iconst 1, 1) := by decide +kernel
theorem dX1_count_51 : decode cX1_count 51 = .ok (.goto 48, 3) := by decide +kernel
theorem dX1_count_54 : decode cX1_count 54 = .ok (.iconst 0, 1) := by decide +kernel
theorem dX1_count_55 : decode cX1_count 55 = .ok (.goto 44, 3) := by decide +kernel
theorem dX1_count_58 : decode cX1_count 58 = .ok (.iload_n 1, 1) := by decide +kernel
theorem dX1_count_59 : decode cX1_count 59 = .ok (.bipush 16, 2) := by decide +kernel
theorem dX1_count_61 : decode cX1_count 61 = .ok (.if_icmp .ne 17, 3) := by decide +kernel
theorem dX1_count_64 : decode cX1_count 64 = .ok (.iload 4, 2) := by decide +kernel
theorem dX1_count_66 : decode cX1_count 66 = .ok (.iconst 2, 1) := by decide +kernel
theorem dX1_count_67 : decode cX1_count 67 = .ok (.if_icmp .ne 7, 3) := by decide +kernel
theorem dX1_count_70 : decode cX1_count 70 = .ok (.iconst 1, 1) := by decide +kernel
theorem dX1_count_71 : decode cX1_count 71 = .ok (.goto 28, 3) := by decide +kernel
theorem dX1_count_74 : decode cX1_count 74 = .ok (.iconst 0, 1) := by decide +kernel
theorem dX1_count_75 : decode cX1_count 75 = .ok (.goto 24, 3) := by decide +kernel
theorem dX1_count_78 : decode cX1_count 78 = .ok (.iload 4, 2) := by decide +kernel
theorem dX1_count_80 : decode cX1_count 80 = .ok (.iconst 1, 1) := by decide +kernel
theorem dX1_count_81 : decode cX1_count 81 = .ok (.if_icmp .ne 17, 3) := by decide +kernel
theorem dX1_count_84 : decode cX1_count 84 = .ok (.aload_n 0, 1) := by decide +kernel
theorem dX1_count_85 : decode cX1_count 85 = .ok (.getfield 16, 3) := by decide +kernel
theorem dX1_count_88 : decode cX1_count 88 = .ok (.iload_n 3, 1) := by decide +kernel
theorem dX1_count_89 : decode cX1_count 89 = .ok (.iaload, 1) := by decide +kernel
theorem dX1_count_90 : decode cX1_count 90 = .ok (.iload_n 1, 1) := by decide +kernel
theorem dX1_count_91 : decode cX1_count 91 = .ok (.if_icmp .ne 7, 3) := by decide +kernel
theorem dX1_count_94 : decode cX1_count 94 = .ok (.iconst 1, 1) := by decide +kernel
theorem dX1_count_95 : decode cX1_count 95 = .ok (.goto 4, 3) := by decide +kernel
theorem dX1_count_98 : decode cX1_count 98 = .ok (.iconst 0, 1) := by decide +kernel
theorem dX1_count_99 : decode cX1_count 99 = .ok (.istore 5, 2) := by decide +kernel
theorem dX1_count_101 : decode cX1_count 101 = .ok (.iload 5, 2) := by decide +kernel
theorem dX1_count_103 : decode cX1_count 103 = .ok (.ifCond .eq 9, 3) := by decide +kernel
theorem dX1_count_106 : decode cX1_count 106 = .ok (.iload_n 2, 1) := by decide +kernel
theorem dX1_count_107 : decode cX1_count 107 = .ok (.iconst 1, 1) := by decide +kernel
theorem dX1_count_108 : decode cX1_count 108 = .ok (.iadd, 1) := by decide +kernel
theorem dX1_count_109 : decode cX1_count 109 = .ok (.goto 4, 3) := by decide +kernel
theorem dX1_count_112 : decode cX1_count 112 = .ok (.iload_n 2, 1) := by decide +kernel
theorem dX1_count_113 : decode cX1_count 113 = .ok (.istore_n 2, 1) := by decide +kernel
theorem dX1_count_114 : decode cX1_count 114 = .ok (.iinc 3 1, 3) := by decide +kernel
theorem dX1_count_117 : decode cX1_count 117 = .ok (.goto (-91), 3) := by decide +kernel
theorem dX1_count_120 : decode cX1_count 120 = .ok (.iload_n 2, 1) := by decide +kernel
theorem dX1_count_121 : decode cX1_count 121 = .ok (.ireturn, 1) := by decide +kernel
theorem dX1_end_0 : decode cX1_end 0 = .ok (.aload_n 0, 1) := by decide +kernel
theorem dX1_end_1 : decode cX1_end 1 = .ok (.getfield 40, 3) := by decide +kernel
theorem dX1_end_4 : decode cX1_end 4 = .ok (.ireturn, 1) := by decide +kernel
theorem dX1_total_0 : decode cX1_total 0 = .ok (.iload_n 1, 1) := by decide +kernel
theorem dX1_total_1 : decode cX1_total 1 = .ok (.ifCond .lt 8, 3) := by decide +kernel
theorem dX1_total_4 : decode cX1_total 4 = .ok (.iload_n 1, 1) := by decide +kernel
theorem dX1_total_5 : decode cX1_total 5 = .ok (.iconst 4, 1) := by decide +kernel
theorem dX1_total_6 : decode cX1_total 6 = .ok (.if_icmp .le 5, 3) := by decide +kernel
theorem dX1_total_9 : decode cX1_total 9 = .ok (.iconst (-1), 1) := by decide +kernel
theorem dX1_total_10 : decode cX1_total 10 = .ok (.ireturn, 1) := by decide +kernel
theorem dX1_total_11 : decode cX1_total 11 = .ok (.iconst 0, 1) := by decide +kernel
theorem dX1_total_12 : decode cX1_total 12 = .ok (.istore_n 2, 1) := by decide +kernel
theorem dX1_total_13 : decode cX1_total 13 = .ok (.iconst 0, 1) := by decide +kernel
theorem dX1_total_14 : decode cX1_total 14 = .ok (.istore_n 3, 1) := by decide +kernel
theorem dX1_total_15 : decode cX1_total 15 = .ok (.iload_n 3, 1) := by decide +kernel
theorem dX1_total_16 : decode cX1_total 16 = .ok (.aload_n 0, 1) := by decide +kernel
theorem dX1_total_17 : decode cX1_total 17 = .ok (.getfield 33, 3) := by decide +kernel
theorem dX1_total_20 : decode cX1_total 20 = .ok (.if_icmp .ge 31, 3) := by decide +kernel
theorem dX1_total_23 : decode cX1_total 23 = .ok (.aload_n 0, 1) := by decide +kernel
theorem dX1_total_24 : decode cX1_total 24 = .ok (.iload_n 3, 1) := by decide +kernel
theorem dX1_total_25 : decode cX1_total 25 = .ok (.invokevirtual 50, 3) := by decide +kernel
theorem dX1_total_28 : decode cX1_total 28 = .ok (.iload_n 1, 1) := by decide +kernel
theorem dX1_total_29 : decode cX1_total 29 = .ok (.if_icmp .ne 14, 3) := by decide +kernel
theorem dX1_total_32 : decode cX1_total 32 = .ok (.iload_n 2, 1) := by decide +kernel
theorem dX1_total_33 : decode cX1_total 33 = .ok (.aload_n 0, 1) := by decide +kernel
theorem dX1_total_34 : decode cX1_total 34 = .ok (.getfield 16, 3) := by decide +kernel
theorem dX1_total_37 : decode cX1_total 37 = .ok (.iload_n 3, 1) := by decide +kernel
theorem dX1_total_38 : decode cX1_total 38 = .ok (.iaload, 1) := by decide +kernel
theorem dX1_total_39 : decode cX1_total 39 = .ok (.iadd, 1) := by decide +kernel
theorem dX1_total_40 : decode cX1_total 40 = .ok (.goto 4, 3) := by decide +kernel
theorem dX1_total_43 : decode cX1_total 43 = .ok (.iload_n 2, 1) := by decide +kernel
theorem dX1_total_44 : decode cX1_total 44 = .ok (.istore_n 2, 1) := by decide +kernel
theorem dX1_total_45 : decode cX1_total 45 = .ok (.iinc 3 1, 3) := by decide +kernel
theorem dX1_total_48 : decode cX1_total 48 = .ok (.goto (-33), 3) := by decide +kernel
theorem dX1_total_51 : decode cX1_total 51 = .ok (.iload_n 2, 1) := by decide +kernel
theorem dX1_total_52 : decode cX1_total 52 = .ok (.ireturn, 1) := by decide +kernel
end
section
theorem dJ_fill_0 : decode cJ_fill 0 = .ok (.iconst 0, 1) := by decide +kernel
theorem dJ_fill_1 : decode cJ_fill 1 = .ok (.istore_n 2, 1) := by decide +kernel
theorem dJ_fill_2 : decode cJ_fill 2 = .ok (.aload_n 0, 1) := by decide +kernel
theorem dJ_fill_3 : decode cJ_fill 3 = .ok (.arraylength, 1) := by decide +kernel
theorem dJ_fill_4 : decode cJ_fill 4 = .ok (.istore_n 3, 1) := by decide +kernel
theorem dJ_fill_5 : decode cJ_fill 5 = .ok (.iload_n 2, 1) := by decide +kernel
theorem dJ_fill_6 : decode cJ_fill 6 = .ok (.iload_n 3, 1) := by decide +kernel
theorem dJ_fill_7 : decode cJ_fill 7 = .ok (.if_icmp .ge 13, 3) := by decide +kernel
theorem dJ_fill_10 : decode cJ_fill 10 = .ok (.aload_n 0, 1) := by decide +kernel
theorem dJ_fill_11 : decode cJ_fill 11 = .ok (.iload_n 2, 1) := by decide +kernel
theorem dJ_fill_12 : decode cJ_fill 12 = .ok (.iload_n 1, 1) := by decide +kernel
theorem dJ_fill_13 : decode cJ_fill 13 = .ok (.iastore, 1) := by decide +kernel
theorem dJ_fill_14 : decode cJ_fill 14 = .ok (.iinc 2 1, 3) := by decide +kernel
theorem dJ_fill_17 : decode cJ_fill 17 = .ok (.goto (-12), 3) := by decide +kernel
theorem dJ_fill_20 : decode cJ_fill 20 = .ok (.return_, 1) := by decide +kernel
theorem dJ_fillr_0 : decode cJ_fillr 0 = .ok (.aload_n 0, 1) := by decide +kernel
theorem dJ_fillr_1 : decode cJ_fillr 1 = .ok (.arraylength, 1) := by decide +kernel
theorem dJ_fillr_2 : decode cJ_fillr 2 = .ok (.iload_n 1, 1) := by decide +kernel
theorem dJ_fillr_3 : decode cJ_fillr 3 = .ok (.iload_n 2, 1) := by decide +kernel
theorem dJ_fillr_4 : decode cJ_fillr 4 = .ok (.invokestatic 13, 3) := by decide +kernel
theorem dJ_fillr_7 : decode cJ_fillr 7 = .ok (.iload_n 1, 1) := by decide +kernel
theorem dJ_fillr_8 : decode cJ_fillr 8 = .ok (.istore 4, 2) := by decide +kernel
theorem dJ_fillr_10 : decode cJ_fillr 10 = .ok (.iload 4, 2) := by decide +kernel
theorem dJ_fillr_12 : decode cJ_fillr 12 = .ok (.iload_n 2, 1) := by decide +kernel
theorem dJ_fillr_13 : decode cJ_fillr 13 = .ok (.if_icmp .ge 14, 3) := by decide +kernel
theorem dJ_fillr_16 : decode cJ_fillr 16 = .ok (.aload_n 0, 1) := by decide +kernel
theorem dJ_fillr_17 : decode cJ_fillr 17 = .ok (.iload 4, 2) := by decide +kernel
theorem dJ_fillr_19 : decode cJ_fillr 19 = .ok (.iload_n 3, 1) := by decide +kernel
theorem dJ_fillr_20 : decode cJ_fillr 20 = .ok (.iastore, 1) := by decide +kernel
theorem dJ_fillr_21 : decode cJ_fillr 21 = .ok (.iinc 4 1, 3) := by decide +kernel
theorem dJ_fillr_24 : decode cJ_fillr 24 = .ok (.goto (-14), 3) := by decide +kernel
theorem dJ_fillr_27 : decode cJ_fillr 27 = .ok (.return_, 1) := by decide +kernel
theorem dJ_rangeCheck_0 : decode cJ_rangeCheck 0 = .ok (.iload_n 1, 1) := by decide +kernel
theorem dJ_rangeCheck_1 : decode cJ_rangeCheck 1 = .ok (.iload_n 2, 1) := by decide +kernel
theorem dJ_rangeCheck_2 : decode cJ_rangeCheck 2 = .ok (.if_icmp .le 44, 3) := by decide +kernel
theorem dJ_rangeCheck_21 : decode cJ_rangeCheck 21 = .ok (.iload_n 1, 1) := by decide +kernel
theorem dJ_rangeCheck_30 : decode cJ_rangeCheck 30 = .ok (.iload_n 2, 1) := by decide +kernel
theorem dJ_rangeCheck_46 : decode cJ_rangeCheck 46 = .ok (.iload_n 1, 1) := by decide +kernel
theorem dJ_rangeCheck_47 : decode cJ_rangeCheck 47 = .ok (.ifCond .ge 12, 3) := by decide +kernel
theorem dJ_rangeCheck_54 : decode cJ_rangeCheck 54 = .ok (.iload_n 1, 1) := by decide +kernel
theorem dJ_rangeCheck_59 : decode cJ_rangeCheck 59 = .ok (.iload_n 2, 1) := by decide +kernel
theorem dJ_rangeCheck_60 : decode cJ_rangeCheck 60 = .ok (.iload_n 0, 1) := by decide +kernel
theorem dJ_rangeCheck_61 : decode cJ_rangeCheck 61 = .ok (.if_icmp .le 12, 3) := by decide +kernel
theorem dJ_rangeCheck_68 : decode cJ_rangeCheck 68 = .ok (.iload_n 2, 1) := by decide +kernel
theorem dJ_rangeCheck_73 : decode cJ_rangeCheck 73 = .ok (.return_, 1) := by decide +kernel
theorem dL_cell_0 : decode cL_cell 0 = .ok (.iload_n 1, 1) := by decide +kernel
theorem dL_cell_1 : decode cL_cell 1 = .ok (.aload_n 0, 1) := by decide +kernel
theorem dL_cell_2 : decode cL_cell 2 = .ok (.arraylength, 1) := by decide +kernel
theorem dL_cell_3 : decode cL_cell 3 = .ok (.if_icmp .ge 9, 3) := by decide +kernel
theorem dL_cell_6 : decode cL_cell 6 = .ok (.aload_n 0, 1) := by decide +kernel
theorem dL_cell_7 : decode cL_cell 7 = .ok (.iload_n 1, 1) := by decide +kernel
theorem dL_cell_8 : decode cL_cell 8 = .ok (.iaload, 1) := by decide +kernel
theorem dL_cell_9 : decode cL_cell 9 = .ok (.goto 4, 3) := by decide +kernel
theorem dL_cell_12 : decode cL_cell 12 = .ok (.iconst 0, 1) := by decide +kernel
theorem dL_cell_13 : decode cL_cell 13 = .ok (.ireturn, 1) := by decide +kernel
theorem dL_law_0 : decode cL_law 0 = .ok (.new 7, 3) := by decide +kernel
theorem dL_law_3 : decode cL_law 3 = .ok (.dup, 1) := by decide +kernel
theorem dL_law_4 : decode cL_law 4 = .ok (.aload_n 0, 1) := by decide +kernel
theorem dL_law_5 : decode cL_law 5 = .ok (.iconst 0, 1) := by decide +kernel
theorem dL_law_6 : decode cL_law 6 = .ok (.invokestatic 9, 3) := by decide +kernel
theorem dL_law_9 : decode cL_law 9 = .ok (.invokespecial 15, 3) := by decide +kernel
theorem dL_law_12 : decode cL_law 12 = .ok (.astore_n 1, 1) := by decide +kernel
theorem dL_law_13 : decode cL_law 13 = .ok (.new 18, 3) := by decide +kernel
theorem dL_law_16 : decode cL_law 16 = .ok (.dup, 1) := by decide +kernel
theorem dL_law_17 : decode cL_law 17 = .ok (.aload_n 0, 1) := by decide +kernel
theorem dL_law_18 : decode cL_law 18 = .ok (.iconst 0, 1) := by decide +kernel
theorem dL_law_19 : decode cL_law 19 = .ok (.invokestatic 9, 3) := by decide +kernel
theorem dL_law_22 : decode cL_law 22 = .ok (.invokespecial 20, 3) := by decide +kernel
theorem dL_law_25 : decode cL_law 25 = .ok (.astore_n 2, 1) := by decide +kernel
theorem dL_law_26 : decode cL_law 26 = .ok (.iconst 1, 1) := by decide +kernel
theorem dL_law_27 : decode cL_law 27 = .ok (.istore_n 3, 1) := by decide +kernel
theorem dL_law_28 : decode cL_law 28 = .ok (.iload_n 3, 1) := by decide +kernel
theorem dL_law_29 : decode cL_law 29 = .ok (.aload_n 0, 1) := by decide +kernel
theorem dL_law_30 : decode cL_law 30 = .ok (.arraylength, 1) := by decide +kernel
theorem dL_law_31 : decode cL_law 31 = .ok (.iconst 4, 1) := by decide +kernel
theorem dL_law_32 : decode cL_law 32 = .ok (.isub, 1) := by decide +kernel
theorem dL_law_33 : decode cL_law 33 = .ok (.if_icmp .gt 447, 3) := by decide +kernel
theorem dL_law_36 : decode cL_law 36 = .ok (.aload_n 0, 1) := by decide +kernel
theorem dL_law_37 : decode cL_law 37 = .ok (.iload_n 3, 1) := by decide +kernel
theorem dL_law_38 : decode cL_law 38 = .ok (.iaload, 1) := by decide +kernel
theorem dL_law_39 : decode cL_law 39 = .ok (.bipush 15, 2) := by decide +kernel
theorem dL_law_41 : decode cL_law 41 = .ok (.iand, 1) := by decide +kernel
theorem dL_law_42 : decode cL_law 42 = .ok (.tableswitch 432 0 13 #[70, 93, 116, 139, 172, 205, 228, 251, 284, 327, 350, 373, 396, 409], 70) := by decide +kernel
theorem dL_law_112 : decode cL_law 112 = .ok (.aload_n 1, 1) := by decide +kernel
theorem dL_law_113 : decode cL_law 113 = .ok (.aload_n 0, 1) := by decide +kernel
theorem dL_law_114 : decode cL_law 114 = .ok (.iload_n 3, 1) := by decide +kernel
theorem dL_law_115 : decode cL_law 115 = .ok (.iconst 1, 1) := by decide +kernel
theorem dL_law_116 : decode cL_law 116 = .ok (.iadd, 1) := by decide +kernel
theorem dL_law_117 : decode cL_law 117 = .ok (.iaload, 1) := by decide +kernel
theorem dL_law_118 : decode cL_law 118 = .ok (.invokevirtual 21, 3) := by decide +kernel
theorem dL_law_121 : decode cL_law 121 = .ok (.aload_n 2, 1) := by decide +kernel
theorem dL_law_122 : decode cL_law 122 = .ok (.aload_n 0, 1) := by decide +kernel
theorem dL_law_123 : decode cL_law 123 = .ok (.iload_n 3, 1) := by decide +kernel
theorem dL_law_124 : decode cL_law 124 = .ok (.iconst 1, 1) := by decide +kernel
theorem dL_law_125 : decode cL_law 125 = .ok (.iadd, 1) := by decide +kernel
theorem dL_law_126 : decode cL_law 126 = .ok (.iaload, 1) := by decide +kernel
theorem dL_law_127 : decode cL_law 127 = .ok (.invokevirtual 25, 3) := by decide +kernel
theorem dL_law_130 : decode cL_law 130 = .ok (.if_icmp .eq 344, 3) := by decide +kernel
theorem dL_law_133 : decode cL_law 133 = .ok (.iconst 0, 1) := by decide +kernel
theorem dL_law_134 : decode cL_law 134 = .ok (.ireturn, 1) := by decide +kernel
theorem dL_law_135 : decode cL_law 135 = .ok (.aload_n 1, 1) := by decide +kernel
theorem dL_law_136 : decode cL_law 136 = .ok (.aload_n 0, 1) := by decide +kernel
theorem dL_law_137 : decode cL_law 137 = .ok (.iload_n 3, 1) := by decide +kernel
theorem dL_law_138 : decode cL_law 138 = .ok (.iconst 1, 1) := by decide +kernel
theorem dL_law_139 : decode cL_law 139 = .ok (.iadd, 1) := by decide +kernel
theorem dL_law_140 : decode cL_law 140 = .ok (.iaload, 1) := by decide +kernel
theorem dL_law_141 : decode cL_law 141 = .ok (.invokevirtual 26, 3) := by decide +kernel
theorem dL_law_144 : decode cL_law 144 = .ok (.aload_n 2, 1) := by decide +kernel
theorem dL_law_145 : decode cL_law 145 = .ok (.aload_n 0, 1) := by decide +kernel
theorem dL_law_146 : decode cL_law 146 = .ok (.iload_n 3, 1) := by decide +kernel
theorem dL_law_147 : decode cL_law 147 = .ok (.iconst 1, 1) := by decide +kernel
theorem dL_law_148 : decode cL_law 148 = .ok (.iadd, 1) := by decide +kernel
theorem dL_law_149 : decode cL_law 149 = .ok (.iaload, 1) := by decide +kernel
theorem dL_law_150 : decode cL_law 150 = .ok (.invokevirtual 29, 3) := by decide +kernel
theorem dL_law_153 : decode cL_law 153 = .ok (.if_icmp .eq 321, 3) := by decide +kernel
theorem dL_law_156 : decode cL_law 156 = .ok (.iconst 0, 1) := by decide +kernel
theorem dL_law_157 : decode cL_law 157 = .ok (.ireturn, 1) := by decide +kernel
theorem dL_law_158 : decode cL_law 158 = .ok (.aload_n 1, 1) := by decide +kernel
theorem dL_law_159 : decode cL_law 159 = .ok (.aload_n 0, 1) := by decide +kernel
theorem dL_law_160 : decode cL_law 160 = .ok (.iload_n 3, 1) := by decide +kernel
theorem dL_law_161 : decode cL_law 161 = .ok (.iconst 1, 1) := by decide +kernel
theorem dL_law_162 : decode cL_law 162 = .ok (.iadd, 1) := by decide +kernel
theorem dL_law_163 : decode cL_law 163 = .ok (.iaload, 1) := by decide +kernel
theorem dL_law_164 : decode cL_law 164 = .ok (.invokevirtual 30, 3) := by decide +kernel
theorem dL_law_167 : decode cL_law 167 = .ok (.aload_n 2, 1) := by decide +kernel
theorem dL_law_168 : decode cL_law 168 = .ok (.aload_n 0, 1) := by decide +kernel
theorem dL_law_169 : decode cL_law 169 = .ok (.iload_n 3, 1) := by decide +kernel
theorem dL_law_170 : decode cL_law 170 = .ok (.iconst 1, 1) := by decide +kernel
theorem dL_law_171 : decode cL_law 171 = .ok (.iadd, 1) := by decide +kernel
theorem dL_law_172 : decode cL_law 172 = .ok (.iaload, 1) := by decide +kernel
theorem dL_law_173 : decode cL_law 173 = .ok (.invokevirtual 34, 3) := by decide +kernel
theorem dL_law_176 : decode cL_law 176 = .ok (.if_icmp .eq 298, 3) := by decide +kernel
theorem dL_law_179 : decode cL_law 179 = .ok (.iconst 0, 1) := by decide +kernel
theorem dL_law_180 : decode cL_law 180 = .ok (.ireturn, 1) := by decide +kernel
theorem dL_law_181 : decode cL_law 181 = .ok (.aload_n 1, 1) := by decide +kernel
theorem dL_law_182 : decode cL_law 182 = .ok (.aload_n 0, 1) := by decide +kernel
theorem dL_law_183 : decode cL_law 183 = .ok (.iload_n 3, 1) := by decide +kernel
theorem dL_law_184 : decode cL_law 184 = .ok (.iconst 1, 1) := by decide +kernel
theorem dL_law_185 : decode cL_law 185 = .ok (.iadd, 1) := by decide +kernel
theorem dL_law_186 : decode cL_law 186 = .ok (.iaload, 1) := by decide +kernel
theorem dL_law_187 : decode cL_law 187 = .ok (.aload_n 0, 1) := by decide +kernel
theorem dL_law_188 : decode cL_law 188 = .ok (.iload_n 3, 1) := by decide +kernel
theorem dL_law_189 : decode cL_law 189 = .ok (.iconst 2, 1) := by decide +kernel
theorem dL_law_190 : decode cL_law 190 = .ok (.iadd, 1) := by decide +kernel
theorem dL_law_191 : decode cL_law 191 = .ok (.iaload, 1) := by decide +kernel
theorem dL_law_192 : decode cL_law 192 = .ok (.invokevirtual 35, 3) := by decide +kernel
theorem dL_law_195 : decode cL_law 195 = .ok (.aload_n 2, 1) := by decide +kernel
theorem dL_law_196 : decode cL_law 196 = .ok (.aload_n 0, 1) := by decide +kernel
theorem dL_law_197 : decode cL_law 197 = .ok (.iload_n 3, 1) := by decide +kernel
theorem dL_law_198 : decode cL_law 198 = .ok (.iconst 1, 1) := by decide +kernel
theorem dL_law_199 : decode cL_law 199 = .ok (.iadd, 1) := by decide +kernel
theorem dL_law_200 : decode cL_law 200 = .ok (.iaload, 1) := by decide +kernel
theorem dL_law_201 : decode cL_law 201 = .ok (.aload_n 0, 1) := by decide +kernel
theorem dL_law_202 : decode cL_law 202 = .ok (.iload_n 3, 1) := by decide +kernel
theorem dL_law_203 : decode cL_law 203 = .ok (.iconst 2, 1) := by decide +kernel
theorem dL_law_204 : decode cL_law 204 = .ok (.iadd, 1) := by decide +kernel
theorem dL_law_205 : decode cL_law 205 = .ok (.iaload, 1) := by decide +kernel
theorem dL_law_206 : decode cL_law 206 = .ok (.invokevirtual 39, 3) := by decide +kernel
theorem dL_law_209 : decode cL_law 209 = .ok (.if_icmp .eq 265, 3) := by decide +kernel
theorem dL_law_212 : decode cL_law 212 = .ok (.iconst 0, 1) := by decide +kernel
theorem dL_law_213 : decode cL_law 213 = .ok (.ireturn, 1) := by decide +kernel
theorem dL_law_214 : decode cL_law 214 = .ok (.aload_n 1, 1) := by decide +kernel
theorem dL_law_215 : decode cL_law 215 = .ok (.aload_n 0, 1) := by decide +kernel
theorem dL_law_216 : decode cL_law 216 = .ok (.iload_n 3, 1) := by decide +kernel
theorem dL_law_217 : decode cL_law 217 = .ok (.iconst 1, 1) := by decide +kernel
theorem dL_law_218 : decode cL_law 218 = .ok (.iadd, 1) := by decide +kernel
theorem dL_law_219 : decode cL_law 219 = .ok (.iaload, 1) := by decide +kernel
theorem dL_law_220 : decode cL_law 220 = .ok (.aload_n 0, 1) := by decide +kernel
theorem dL_law_221 : decode cL_law 221 = .ok (.iload_n 3, 1) := by decide +kernel
theorem dL_law_222 : decode cL_law 222 = .ok (.iconst 2, 1) := by decide +kernel
theorem dL_law_223 : decode cL_law 223 = .ok (.iadd, 1) := by decide +kernel
theorem dL_law_224 : decode cL_law 224 = .ok (.iaload, 1) := by decide +kernel
theorem dL_law_225 : decode cL_law 225 = .ok (.invokevirtual 40, 3) := by decide +kernel
theorem dL_law_228 : decode cL_law 228 = .ok (.aload_n 2, 1) := by decide +kernel
theorem dL_law_229 : decode cL_law 229 = .ok (.aload_n 0, 1) := by decide +kernel
theorem dL_law_230 : decode cL_law 230 = .ok (.iload_n 3, 1) := by decide +kernel
theorem dL_law_231 : decode cL_law 231 = .ok (.iconst 1, 1) := by decide +kernel
theorem dL_law_232 : decode cL_law 232 = .ok (.iadd, 1) := by decide +kernel
theorem dL_law_233 : decode cL_law 233 = .ok (.iaload, 1) := by decide +kernel
theorem dL_law_234 : decode cL_law 234 = .ok (.aload_n 0, 1) := by decide +kernel
theorem dL_law_235 : decode cL_law 235 = .ok (.iload_n 3, 1) := by decide +kernel
theorem dL_law_236 : decode cL_law 236 = .ok (.iconst 2, 1) := by decide +kernel
theorem dL_law_237 : decode cL_law 237 = .ok (.iadd, 1) := by decide +kernel
theorem dL_law_238 : decode cL_law 238 = .ok (.iaload, 1) := by decide +kernel
theorem dL_law_239 : decode cL_law 239 = .ok (.invokevirtual 43, 3) := by decide +kernel
theorem dL_law_242 : decode cL_law 242 = .ok (.if_icmp .eq 232, 3) := by decide +kernel
theorem dL_law_245 : decode cL_law 245 = .ok (.iconst 0, 1) := by decide +kernel
theorem dL_law_246 : decode cL_law 246 = .ok (.ireturn, 1) := by decide +kernel
theorem dL_law_247 : decode cL_law 247 = .ok (.aload_n 1, 1) := by decide +kernel
theorem dL_law_248 : decode cL_law 248 = .ok (.aload_n 0, 1) := by decide +kernel
theorem dL_law_249 : decode cL_law 249 = .ok (.iload_n 3, 1) := by decide +kernel
theorem dL_law_250 : decode cL_law 250 = .ok (.iconst 1, 1) := by decide +kernel
theorem dL_law_251 : decode cL_law 251 = .ok (.iadd, 1) := by decide +kernel
theorem dL_law_252 : decode cL_law 252 = .ok (.iaload, 1) := by decide +kernel
theorem dL_law_253 : decode cL_law 253 = .ok (.invokevirtual 44, 3) := by decide +kernel
theorem dL_law_256 : decode cL_law 256 = .ok (.aload_n 2, 1) := by decide +kernel
theorem dL_law_257 : decode cL_law 257 = .ok (.aload_n 0, 1) := by decide +kernel
theorem dL_law_258 : decode cL_law 258 = .ok (.iload_n 3, 1) := by decide +kernel
theorem dL_law_259 : decode cL_law 259 = .ok (.iconst 1, 1) := by decide +kernel
theorem dL_law_260 : decode cL_law 260 = .ok (.iadd, 1) := by decide +kernel
theorem dL_law_261 : decode cL_law 261 = .ok (.iaload, 1) := by decide +kernel
theorem dL_law_262 : decode cL_law 262 = .ok (.invokevirtual 47, 3) := by decide +kernel
theorem dL_law_265 : decode cL_law 265 = .ok (.if_icmp .eq 209, 3) := by decide +kernel
theorem dL_law_268 : decode cL_law 268 = .ok (.iconst 0, 1) := by decide +kernel
theorem dL_law_269 : decode cL_law 269 = .ok (.ireturn, 1) := by decide +kernel
theorem dL_law_270 : decode cL_law 270 = .ok (.aload_n 1, 1) := by decide +kernel
theorem dL_law_271 : decode cL_law 271 = .ok (.aload_n 0, 1) := by decide +kernel
theorem dL_law_272 : decode cL_law 272 = .ok (.iload_n 3, 1) := by decide +kernel
theorem dL_law_273 : decode cL_law 273 = .ok (.iconst 1, 1) := by decide +kernel
theorem dL_law_274 : decode cL_law 274 = .ok (.iadd, 1) := by decide +kernel
theorem dL_law_275 : decode cL_law 275 = .ok (.iaload, 1) := by decide +kernel
theorem dL_law_276 : decode cL_law 276 = .ok (.invokevirtual 48, 3) := by decide +kernel
theorem dL_law_279 : decode cL_law 279 = .ok (.aload_n 2, 1) := by decide +kernel
theorem dL_law_280 : decode cL_law 280 = .ok (.aload_n 0, 1) := by decide +kernel
theorem dL_law_281 : decode cL_law 281 = .ok (.iload_n 3, 1) := by decide +kernel
theorem dL_law_282 : decode cL_law 282 = .ok (.iconst 1, 1) := by decide +kernel
theorem dL_law_283 : decode cL_law 283 = .ok (.iadd, 1) := by decide +kernel
theorem dL_law_284 : decode cL_law 284 = .ok (.iaload, 1) := by decide +kernel
theorem dL_law_285 : decode cL_law 285 = .ok (.invokevirtual 51, 3) := by decide +kernel
theorem dL_law_288 : decode cL_law 288 = .ok (.if_icmp .eq 186, 3) := by decide +kernel
theorem dL_law_291 : decode cL_law 291 = .ok (.iconst 0, 1) := by decide +kernel
theorem dL_law_292 : decode cL_law 292 = .ok (.ireturn, 1) := by decide +kernel
theorem dL_law_293 : decode cL_law 293 = .ok (.aload_n 1, 1) := by decide +kernel
theorem dL_law_294 : decode cL_law 294 = .ok (.aload_n 0, 1) := by decide +kernel
theorem dL_law_295 : decode cL_law 295 = .ok (.iload_n 3, 1) := by decide +kernel
theorem dL_law_296 : decode cL_law 296 = .ok (.iconst 1, 1) := by decide +kernel
theorem dL_law_297 : decode cL_law 297 = .ok (.iadd, 1) := by decide +kernel
theorem dL_law_298 : decode cL_law 298 = .ok (.iaload, 1) := by decide +kernel
theorem dL_law_299 : decode cL_law 299 = .ok (.aload_n 0, 1) := by decide +kernel
theorem dL_law_300 : decode cL_law 300 = .ok (.iload_n 3, 1) := by decide +kernel
theorem dL_law_301 : decode cL_law 301 = .ok (.iconst 2, 1) := by decide +kernel
theorem dL_law_302 : decode cL_law 302 = .ok (.iadd, 1) := by decide +kernel
theorem dL_law_303 : decode cL_law 303 = .ok (.iaload, 1) := by decide +kernel
theorem dL_law_304 : decode cL_law 304 = .ok (.invokevirtual 52, 3) := by decide +kernel
theorem dL_law_307 : decode cL_law 307 = .ok (.aload_n 2, 1) := by decide +kernel
theorem dL_law_308 : decode cL_law 308 = .ok (.aload_n 0, 1) := by decide +kernel
theorem dL_law_309 : decode cL_law 309 = .ok (.iload_n 3, 1) := by decide +kernel
theorem dL_law_310 : decode cL_law 310 = .ok (.iconst 1, 1) := by decide +kernel
theorem dL_law_311 : decode cL_law 311 = .ok (.iadd, 1) := by decide +kernel
theorem dL_law_312 : decode cL_law 312 = .ok (.iaload, 1) := by decide +kernel
theorem dL_law_313 : decode cL_law 313 = .ok (.aload_n 0, 1) := by decide +kernel
theorem dL_law_314 : decode cL_law 314 = .ok (.iload_n 3, 1) := by decide +kernel
theorem dL_law_315 : decode cL_law 315 = .ok (.iconst 2, 1) := by decide +kernel
theorem dL_law_316 : decode cL_law 316 = .ok (.iadd, 1) := by decide +kernel
theorem dL_law_317 : decode cL_law 317 = .ok (.iaload, 1) := by decide +kernel
theorem dL_law_318 : decode cL_law 318 = .ok (.invokevirtual 55, 3) := by decide +kernel
theorem dL_law_321 : decode cL_law 321 = .ok (.if_icmp .eq 153, 3) := by decide +kernel
theorem dL_law_324 : decode cL_law 324 = .ok (.iconst 0, 1) := by decide +kernel
theorem dL_law_325 : decode cL_law 325 = .ok (.ireturn, 1) := by decide +kernel
theorem dL_law_326 : decode cL_law 326 = .ok (.aload_n 1, 1) := by decide +kernel
theorem dL_law_327 : decode cL_law 327 = .ok (.aload_n 0, 1) := by decide +kernel
theorem dL_law_328 : decode cL_law 328 = .ok (.iload_n 3, 1) := by decide +kernel
theorem dL_law_329 : decode cL_law 329 = .ok (.iconst 1, 1) := by decide +kernel
theorem dL_law_330 : decode cL_law 330 = .ok (.iadd, 1) := by decide +kernel
theorem dL_law_331 : decode cL_law 331 = .ok (.iaload, 1) := by decide +kernel
theorem dL_law_332 : decode cL_law 332 = .ok (.aload_n 0, 1) := by decide +kernel
theorem dL_law_333 : decode cL_law 333 = .ok (.iload_n 3, 1) := by decide +kernel
theorem dL_law_334 : decode cL_law 334 = .ok (.iconst 2, 1) := by decide +kernel
theorem dL_law_335 : decode cL_law 335 = .ok (.iadd, 1) := by decide +kernel
theorem dL_law_336 : decode cL_law 336 = .ok (.iaload, 1) := by decide +kernel
theorem dL_law_337 : decode cL_law 337 = .ok (.aload_n 0, 1) := by decide +kernel
theorem dL_law_338 : decode cL_law 338 = .ok (.iload_n 3, 1) := by decide +kernel
theorem dL_law_339 : decode cL_law 339 = .ok (.iconst 3, 1) := by decide +kernel
theorem dL_law_340 : decode cL_law 340 = .ok (.iadd, 1) := by decide +kernel
theorem dL_law_341 : decode cL_law 341 = .ok (.iaload, 1) := by decide +kernel
theorem dL_law_342 : decode cL_law 342 = .ok (.invokevirtual 56, 3) := by decide +kernel
theorem dL_law_345 : decode cL_law 345 = .ok (.aload_n 2, 1) := by decide +kernel
theorem dL_law_346 : decode cL_law 346 = .ok (.aload_n 0, 1) := by decide +kernel
theorem dL_law_347 : decode cL_law 347 = .ok (.iload_n 3, 1) := by decide +kernel
theorem dL_law_348 : decode cL_law 348 = .ok (.iconst 1, 1) := by decide +kernel
theorem dL_law_349 : decode cL_law 349 = .ok (.iadd, 1) := by decide +kernel
theorem dL_law_350 : decode cL_law 350 = .ok (.iaload, 1) := by decide +kernel
theorem dL_law_351 : decode cL_law 351 = .ok (.aload_n 0, 1) := by decide +kernel
theorem dL_law_352 : decode cL_law 352 = .ok (.iload_n 3, 1) := by decide +kernel
theorem dL_law_353 : decode cL_law 353 = .ok (.iconst 2, 1) := by decide +kernel
theorem dL_law_354 : decode cL_law 354 = .ok (.iadd, 1) := by decide +kernel
theorem dL_law_355 : decode cL_law 355 = .ok (.iaload, 1) := by decide +kernel
theorem dL_law_356 : decode cL_law 356 = .ok (.aload_n 0, 1) := by decide +kernel
theorem dL_law_357 : decode cL_law 357 = .ok (.iload_n 3, 1) := by decide +kernel
theorem dL_law_358 : decode cL_law 358 = .ok (.iconst 3, 1) := by decide +kernel
theorem dL_law_359 : decode cL_law 359 = .ok (.iadd, 1) := by decide +kernel
theorem dL_law_360 : decode cL_law 360 = .ok (.iaload, 1) := by decide +kernel
theorem dL_law_361 : decode cL_law 361 = .ok (.invokevirtual 60, 3) := by decide +kernel
theorem dL_law_364 : decode cL_law 364 = .ok (.if_icmp .eq 110, 3) := by decide +kernel
theorem dL_law_367 : decode cL_law 367 = .ok (.iconst 0, 1) := by decide +kernel
theorem dL_law_368 : decode cL_law 368 = .ok (.ireturn, 1) := by decide +kernel
theorem dL_law_369 : decode cL_law 369 = .ok (.aload_n 1, 1) := by decide +kernel
theorem dL_law_370 : decode cL_law 370 = .ok (.aload_n 0, 1) := by decide +kernel
theorem dL_law_371 : decode cL_law 371 = .ok (.iload_n 3, 1) := by decide +kernel
theorem dL_law_372 : decode cL_law 372 = .ok (.iconst 1, 1) := by decide +kernel
theorem dL_law_373 : decode cL_law 373 = .ok (.iadd, 1) := by decide +kernel
theorem dL_law_374 : decode cL_law 374 = .ok (.iaload, 1) := by decide +kernel
theorem dL_law_375 : decode cL_law 375 = .ok (.invokevirtual 61, 3) := by decide +kernel
theorem dL_law_378 : decode cL_law 378 = .ok (.aload_n 2, 1) := by decide +kernel
theorem dL_law_379 : decode cL_law 379 = .ok (.aload_n 0, 1) := by decide +kernel
theorem dL_law_380 : decode cL_law 380 = .ok (.iload_n 3, 1) := by decide +kernel
theorem dL_law_381 : decode cL_law 381 = .ok (.iconst 1, 1) := by decide +kernel
theorem dL_law_382 : decode cL_law 382 = .ok (.iadd, 1) := by decide +kernel
theorem dL_law_383 : decode cL_law 383 = .ok (.iaload, 1) := by decide +kernel
theorem dL_law_384 : decode cL_law 384 = .ok (.invokevirtual 64, 3) := by decide +kernel
theorem dL_law_387 : decode cL_law 387 = .ok (.if_icmp .eq 87, 3) := by decide +kernel
theorem dL_law_390 : decode cL_law 390 = .ok (.iconst 0, 1) := by decide +kernel
theorem dL_law_391 : decode cL_law 391 = .ok (.ireturn, 1) := by decide +kernel
theorem dL_law_392 : decode cL_law 392 = .ok (.aload_n 1, 1) := by decide +kernel
theorem dL_law_393 : decode cL_law 393 = .ok (.aload_n 0, 1) := by decide +kernel
theorem dL_law_394 : decode cL_law 394 = .ok (.iload_n 3, 1) := by decide +kernel
theorem dL_law_395 : decode cL_law 395 = .ok (.iconst 1, 1) := by decide +kernel
theorem dL_law_396 : decode cL_law 396 = .ok (.iadd, 1) := by decide +kernel
theorem dL_law_397 : decode cL_law 397 = .ok (.iaload, 1) := by decide +kernel
theorem dL_law_398 : decode cL_law 398 = .ok (.invokevirtual 65, 3) := by decide +kernel
theorem dL_law_401 : decode cL_law 401 = .ok (.aload_n 2, 1) := by decide +kernel
theorem dL_law_402 : decode cL_law 402 = .ok (.aload_n 0, 1) := by decide +kernel
theorem dL_law_403 : decode cL_law 403 = .ok (.iload_n 3, 1) := by decide +kernel
theorem dL_law_404 : decode cL_law 404 = .ok (.iconst 1, 1) := by decide +kernel
theorem dL_law_405 : decode cL_law 405 = .ok (.iadd, 1) := by decide +kernel
theorem dL_law_406 : decode cL_law 406 = .ok (.iaload, 1) := by decide +kernel
theorem dL_law_407 : decode cL_law 407 = .ok (.invokevirtual 68, 3) := by decide +kernel
theorem dL_law_410 : decode cL_law 410 = .ok (.if_icmp .eq 64, 3) := by decide +kernel
theorem dL_law_413 : decode cL_law 413 = .ok (.iconst 0, 1) := by decide +kernel
theorem dL_law_414 : decode cL_law 414 = .ok (.ireturn, 1) := by decide +kernel
theorem dL_law_415 : decode cL_law 415 = .ok (.aload_n 1, 1) := by decide +kernel
theorem dL_law_416 : decode cL_law 416 = .ok (.aload_n 0, 1) := by decide +kernel
theorem dL_law_417 : decode cL_law 417 = .ok (.iload_n 3, 1) := by decide +kernel
theorem dL_law_418 : decode cL_law 418 = .ok (.iconst 1, 1) := by decide +kernel
theorem dL_law_419 : decode cL_law 419 = .ok (.iadd, 1) := by decide +kernel
theorem dL_law_420 : decode cL_law 420 = .ok (.iaload, 1) := by decide +kernel
theorem dL_law_421 : decode cL_law 421 = .ok (.invokevirtual 69, 3) := by decide +kernel
theorem dL_law_424 : decode cL_law 424 = .ok (.aload_n 2, 1) := by decide +kernel
theorem dL_law_425 : decode cL_law 425 = .ok (.aload_n 0, 1) := by decide +kernel
theorem dL_law_426 : decode cL_law 426 = .ok (.iload_n 3, 1) := by decide +kernel
theorem dL_law_427 : decode cL_law 427 = .ok (.iconst 1, 1) := by decide +kernel
theorem dL_law_428 : decode cL_law 428 = .ok (.iadd, 1) := by decide +kernel
theorem dL_law_429 : decode cL_law 429 = .ok (.iaload, 1) := by decide +kernel
theorem dL_law_430 : decode cL_law 430 = .ok (.invokevirtual 72, 3) := by decide +kernel
theorem dL_law_433 : decode cL_law 433 = .ok (.if_icmp .eq 41, 3) := by decide +kernel
theorem dL_law_436 : decode cL_law 436 = .ok (.iconst 0, 1) := by decide +kernel
theorem dL_law_437 : decode cL_law 437 = .ok (.ireturn, 1) := by decide +kernel
theorem dL_law_438 : decode cL_law 438 = .ok (.aload_n 1, 1) := by decide +kernel
theorem dL_law_439 : decode cL_law 439 = .ok (.invokevirtual 73, 3) := by decide +kernel
theorem dL_law_442 : decode cL_law 442 = .ok (.aload_n 2, 1) := by decide +kernel
theorem dL_law_443 : decode cL_law 443 = .ok (.invokevirtual 77, 3) := by decide +kernel
theorem dL_law_446 : decode cL_law 446 = .ok (.if_icmp .eq 28, 3) := by decide +kernel
theorem dL_law_449 : decode cL_law 449 = .ok (.iconst 0, 1) := by decide +kernel
theorem dL_law_450 : decode cL_law 450 = .ok (.ireturn, 1) := by decide +kernel
theorem dL_law_451 : decode cL_law 451 = .ok (.aload_n 1, 1) := by decide +kernel
theorem dL_law_452 : decode cL_law 452 = .ok (.aload_n 0, 1) := by decide +kernel
theorem dL_law_453 : decode cL_law 453 = .ok (.iload_n 3, 1) := by decide +kernel
theorem dL_law_454 : decode cL_law 454 = .ok (.iconst 1, 1) := by decide +kernel
theorem dL_law_455 : decode cL_law 455 = .ok (.iadd, 1) := by decide +kernel
theorem dL_law_456 : decode cL_law 456 = .ok (.iaload, 1) := by decide +kernel
theorem dL_law_457 : decode cL_law 457 = .ok (.invokevirtual 78, 3) := by decide +kernel
theorem dL_law_460 : decode cL_law 460 = .ok (.aload_n 2, 1) := by decide +kernel
theorem dL_law_461 : decode cL_law 461 = .ok (.aload_n 0, 1) := by decide +kernel
theorem dL_law_462 : decode cL_law 462 = .ok (.iload_n 3, 1) := by decide +kernel
theorem dL_law_463 : decode cL_law 463 = .ok (.iconst 1, 1) := by decide +kernel
theorem dL_law_464 : decode cL_law 464 = .ok (.iadd, 1) := by decide +kernel
theorem dL_law_465 : decode cL_law 465 = .ok (.iaload, 1) := by decide +kernel
theorem dL_law_466 : decode cL_law 466 = .ok (.invokevirtual 81, 3) := by decide +kernel
theorem dL_law_469 : decode cL_law 469 = .ok (.if_icmp .eq 5, 3) := by decide +kernel
theorem dL_law_472 : decode cL_law 472 = .ok (.iconst 0, 1) := by decide +kernel
theorem dL_law_473 : decode cL_law 473 = .ok (.ireturn, 1) := by decide +kernel
theorem dL_law_474 : decode cL_law 474 = .ok (.iinc 3 4, 3) := by decide +kernel
theorem dL_law_477 : decode cL_law 477 = .ok (.goto (-449), 3) := by decide +kernel
theorem dL_law_480 : decode cL_law 480 = .ok (.iconst 1, 1) := by decide +kernel
theorem dL_law_481 : decode cL_law 481 = .ok (.ireturn, 1) := by decide +kernel
end
section
def x_fl (f : Nat → Int32) (lo hi : Nat) (v : Int32) : Nat → Int32 := fun j => if lo ≤ j ∧ j < hi then v else f j
theorem x_fl_0 (f : Nat → Int32) (lo : Nat) (v : Int32) : x_fl f lo lo v = f := funext fun j => if_neg (by omega)
theorem x_fl_s (f : Nat → Int32) {lo i : Nat} (v : Int32) (h : lo ≤ i) : upd (x_fl f lo i v) i v = x_fl f lo (i + 1) v := by
  funext j
  simp only [upd, x_fl]
  by_cases h1 : j = i
  · rw [if_pos h1, if_pos (by omega)]
  · rw [if_neg h1]
    by_cases h2 : lo ≤ j ∧ j < i
    · rw [if_pos h2, if_pos (by omega)]
    · rw [if_neg h2, if_neg (by omega)]
def j_e (a : Nat) (cA : ClassId) (n : Nat) (f : Nat → Int32) : Nat × va_E := (a, .inl (cA, n, .inl f))
def j_B (D : va_G) (cl : List vw_C) (tys : List (ClassId × FieldType)) (w : va_W) (A : Nat → Prop) (t : State) : Prop := va_P D cl w t.heap ∧ va_K D cl tys t ∧ va_D A w
def j_Pc (D : va_G) (cl : List vw_C) (tys : List (ClassId × FieldType)) (w : va_W) (sz : Nat) (As : List Value) : Array Value → State → Prop := va_Pc As (fun U => U.heap.size = sz ∧ va_P D cl w U.heap ∧ va_K D cl tys U ∧ va_D (fun _ => True) w)
set_option maxHeartbeats 4000000 in
set_option maxRecDepth 100000 in
theorem bJ_fill {p : Program} {l : Launch} {e : Env} {R : Room} {s : State} {m : MethodId} {args : Array Value} {below : List Frame} {meth : Method} {c : Code} {D : va_G} {cl : List vw_C} {tys : List (ClassId × FieldType)} {A : Nat → Prop} (hx : p.tables.exec = Jvm.exec) (hb : c.code = cJ_fill) (hr : meth.sig.returnType = none) (hlocks : meth.locks = false) (hK : va_K D cl tys s) {ws : va_W} {q0 t0 a : Nat} {cA : ClassId} {n : Nat} {f : Nat → Int32} {v : Int32} (ha : ws[q0]? = some (a, .inl (cA, n, .inl f))) (ht : tys[t0]? = some (cA, .int)) (hn : n < 2 ^ 31) :
    ∀ (k i : Nat) (H : Heap) (locs : List Loc) (ls : Array Slot), i ≤ n → n + 1 ≤ i + k → va_P D cl (ws.set q0 (j_e a cA n (x_fl f 0 i v))) H → va_D A (ws.set q0 (j_e a cA n (x_fl f 0 i v))) → va_S A s.heap H locs → lv_has ls 4 [(0, .ref a), (1, .int v), (2, .int (nI i)), (3, .int (nI n))] → W p l e R s m args below meth c H locs 0 0 (MQ below (va_Qv (fun _ : Unit => True) (fun _ t => j_B D cl tys (ws.set q0 (j_e a cA n (x_fl f 0 n v))) A t) A) args s 0 0 A) (F0 m 5 ls []) := by
  have hq : q0 < ws.length := (List.getElem?_eq_some_iff.mp ha).1
  intro k
  induction k with
  | zero => intro i H locs ls h1 h2; omega
  | succ k ih =>
    intro i H locs ls hi hk hP hD hS hl
    refine lv_iload_n hx hb dJ_fill_5 rfl (lv_at hl 2 rfl) ?_
    refine lv_iload_n hx hb dJ_fill_6 rfl (lv_at hl 3 rfl) ?_
    refine lv_icmp_ge (tgt := 20) hx hb dJ_fill_7 (by decide) (fun hc => ?_) (fun hc => ?_)
    · have e : i = n := by have := (nI_leI hn (Nat.lt_of_le_of_lt hi hn)).mp hc; omega
      subst e
      exact W.vret hx hb hr (fun t ht hW => ⟨⟨(), rfl, trivial, by rw [ht]; exact hP, va_K.moved hW.alike hK, hD⟩, hS.F ht⟩) hS.2.2 dJ_fill_20 hlocks
    · have hlt : i < n := by
        rcases Nat.lt_or_ge i n with h | h
        · exact h
        · exact absurd (nI_le h (by omega)) hc
      refine lv_aload_n hx hb dJ_fill_10 rfl (lv_at hl 0 rfl) ?_
      refine lv_iload_n hx hb dJ_fill_11 rfl (lv_at hl 2 rfl) ?_
      refine lv_iload_n hx hb dJ_fill_12 rfl (lv_at hl 1 rfl) ?_
      refine va_iast (cA := cA) (n := n) (f := x_fl f 0 i v) hx hb hK hP hD hS q0 t0 (List.getElem?_set_self hq) ht (vp_in_nI hlt hn) dJ_fill_13 (fun H locs hP hD hS => ?_)
      rw [List.set_set, nI_clamp (by omega), x_fl_s f v (Nat.zero_le i)] at hP hD
      refine lv_iinc (v := nI (i + 1)) (lv' := [(2, .int (nI (i + 1))), (0, .ref a), (1, .int v), (3, .int (nI n))]) hx hb dJ_fill_14 hl (k := 2) rfl (nI_1 i) (by decide) rfl (fun ls hl => ?_)
      refine lv_goto (tgt := 5) hx hb dJ_fill_17 (by decide) ?_
      exact ih (i + 1) H locs ls hlt (by omega) hP hD hS (lv_sub hl [1, 2, 0, 3] rfl)
set_option maxHeartbeats 4000000 in
set_option maxRecDepth 100000 in
theorem cJm_fill (l : Launch) (D : va_G) (cl : List vw_C) (tys : List (ClassId × FieldType)) (ws : va_W) (q0 t0 : Nat) {a : Nat} {cA : ClassId} {n : Nat} {f : Nat → Int32} {v : Int32} (ha : ws[q0]? = some (a, .inl (cA, n, .inl f))) (ht : tys[t0]? = some (cA, .int)) (hn : n < 2 ^ 31) (sz : Nat) : Met l yJ_fill (.code yJ_fill cJ_fill 4 none :: lw_g) { frames := 0, cells := 0, slots := 0, locals := 0 } (j_Pc D cl tys ws sz [.ref a, .int v]) (va_Qv (fun _ : Unit => True) (fun _ t => j_B D cl tys (ws.set q0 (j_e a cA n (x_fl f 0 n v))) (va_A ws sz) t) (va_A ws sz)) 0 0 (va_A ws sz) := by
  have hq : q0 < ws.length := (List.getElem?_eq_some_iff.mp ha).1
  refine Met.ofW (cc := cJ_fill) (maxL := 4) (ret := none) (by decide) rfl ?_
  intro p e s m args below meth c s₁ B hml hv
  obtain ⟨rfl, hsz, hP, hK, hD0⟩ := hv
  have hx := B.exec
  have hb := B.bytes
  have hr := B.returns
  have hlocks := B.notSynchronized
  subst hsz
  have hD := hD0.self (sz := s.heap.size)
  have hS : va_S (va_A ws s.heap.size) s.heap s.heap [] := va_S.rf
  have hw : ws.set q0 (j_e a cA n (x_fl f 0 0 v)) = ws := by
    rw [x_fl_0]
    exact List.ext_getElem? fun i => by
      by_cases h : q0 = i
      · subst h; rw [List.getElem?_set_self hq, ha]; rfl
      · rw [List.getElem?_set_ne h]
  have hl := lv_entry ([.ref a, .int v]) (n := 4) (Nat.le_of_ble_eq_true rfl)
  rw [lg_entry_eq]
  generalize (lg_sl ([.ref a, .int v]) ++ List.replicate (4 - (lg_sl ([.ref a, .int v])).length) Slot.unset).toArray = ls at hl ⊢
  have hl : lv_has ls 4 [(0, .ref a), (1, .int v)] := hl
  refine lv_iconst (v := 0) hx hb dJ_fill_0 (by decide) ?_
  refine lv_istore_n (lv' := [(2, .int 0), (0, .ref a), (1, .int v)]) hx hb dJ_fill_1 rfl hl (by decide) rfl (fun ls hl => ?_)
  refine lv_aload_n hx hb dJ_fill_2 rfl (lv_at hl 1 rfl) ?_
  refine va_alen (v := nI n) hx hb hK hP q0 t0 ha ht rfl dJ_fill_3 ?_
  refine lv_istore_n (lv' := [(3, .int (nI n)), (2, .int 0), (0, .ref a), (1, .int v)]) hx hb dJ_fill_4 rfl hl (by decide) rfl (fun ls hl => ?_)
  exact bJ_fill hx hb hr hlocks hK ha ht hn (n + 1) 0 _ _ ls (Nat.zero_le n) (by omega) (by rw [hw]; exact hP) (by rw [hw]; exact hD) hS (lv_sub hl [2, 3, 1, 0] rfl)
set_option maxHeartbeats 4000000 in
set_option maxRecDepth 100000 in
theorem cJm_rangeCheck (l : Launch) {n lo hi : Int32} (hin : ¬ hi < lo ∧ ¬ lo < 0 ∧ ¬ n < hi) : Met l yJ_rangeCheck (.code yJ_rangeCheck cJ_rangeCheck 3 none :: lw_g) { frames := 0, cells := 0, slots := 0, locals := 0 } (va_Pc [.int n, .int lo, .int hi] (fun _ => True)) (va_Sv (fun _ => True)) 0 0 (fun _ => False) := by
  refine Met.ofW (cc := cJ_rangeCheck) (maxL := 3) (ret := none) (by decide) rfl ?_
  intro p e s m args below meth c s₁ B hml hv
  obtain ⟨rfl, -⟩ := hv
  have hx := B.exec
  have hb := B.bytes
  have hr := B.returns
  have hlocks := B.notSynchronized
  have hl := lv_entry ([.int n, .int lo, .int hi]) (n := 3) (Nat.le_of_ble_eq_true rfl)
  rw [lg_entry_eq]
  generalize (lg_sl ([.int n, .int lo, .int hi]) ++ List.replicate (3 - (lg_sl ([.int n, .int lo, .int hi])).length) Slot.unset).toArray = ls at hl ⊢
  have hl : lv_has ls 3 [(0, .int n), (1, .int lo), (2, .int hi)] := hl
  refine lv_iload_n hx hb dJ_rangeCheck_0 rfl (lv_at hl 1 rfl) ?_
  refine lv_iload_n hx hb dJ_rangeCheck_1 rfl (lv_at hl 2 rfl) ?_
  refine lv_icmp_le (tgt := 46) hx hb dJ_rangeCheck_2 (by decide) (fun _ => ?_) (fun hc => absurd (Int32.not_lt.mp hin.1) hc)
  refine lv_iload_n hx hb dJ_rangeCheck_46 rfl (lv_at hl 1 rfl) ?_
  refine lv_if_ge (tgt := 59) hx hb dJ_rangeCheck_47 (by decide) (fun _ => ?_) (fun hc => absurd (Int32.not_lt.mp hin.2.1) hc)
  refine lv_iload_n hx hb dJ_rangeCheck_59 rfl (lv_at hl 2 rfl) ?_
  refine lv_iload_n hx hb dJ_rangeCheck_60 rfl (lv_at hl 0 rfl) ?_
  refine lv_icmp_le (tgt := 73) hx hb dJ_rangeCheck_61 (by decide) (fun _ => ?_) (fun hc => absurd (Int32.not_lt.mp hin.2.2) hc)
  exact W.vret hx hb hr (fun t ht hW => ⟨rfl, trivial, ht⟩) (fun q h => by cases h) dJ_rangeCheck_73 hlocks
set_option maxHeartbeats 4000000 in
set_option maxRecDepth 100000 in
theorem bJ_fillr {p : Program} {l : Launch} {e : Env} {R : Room} {s : State} {m : MethodId} {args : Array Value} {below : List Frame} {meth : Method} {c : Code} {D : va_G} {cl : List vw_C} {tys : List (ClassId × FieldType)} {A : Nat → Prop} (hx : p.tables.exec = Jvm.exec) (hb : c.code = cJ_fillr) (hr : meth.sig.returnType = none) (hlocks : meth.locks = false) (hK : va_K D cl tys s) {ws : va_W} {q0 t0 a : Nat} {cA : ClassId} {n lo hi : Nat} {f : Nat → Int32} {v : Int32} (ha : ws[q0]? = some (a, .inl (cA, n, .inl f))) (ht : tys[t0]? = some (cA, .int)) (hhi : hi ≤ n) (hn : n < 2 ^ 31) :
    ∀ (k i : Nat) (H : Heap) (locs : List Loc) (ls : Array Slot), lo ≤ i → i ≤ hi → hi + 1 ≤ i + k → va_P D cl (ws.set q0 (j_e a cA n (x_fl f lo i v))) H → va_D A (ws.set q0 (j_e a cA n (x_fl f lo i v))) → va_S A s.heap H locs → lv_has ls 5 [(0, .ref a), (2, .int (nI hi)), (3, .int v), (4, .int (nI i))] → W p l e R s m args below meth c H locs 0 0 (MQ below (va_Qv (fun _ : Unit => True) (fun _ t => j_B D cl tys (ws.set q0 (j_e a cA n (x_fl f lo hi v))) A t) A) args s 0 0 A) (F0 m 10 ls []) := by
  have hq : q0 < ws.length := (List.getElem?_eq_some_iff.mp ha).1
  intro k
  induction k with
  | zero => intro i H locs ls h0 h1 h2; omega
  | succ k ih =>
    intro i H locs ls hlo hi2 hk hP hD hS hl
    refine lv_iload hx hb dJ_fillr_10 (lv_at hl 3 rfl) ?_
    refine lv_iload_n hx hb dJ_fillr_12 rfl (lv_at hl 1 rfl) ?_
    refine lv_icmp_ge (tgt := 27) hx hb dJ_fillr_13 (by decide) (fun hc => ?_) (fun hc => ?_)
    · have e : i = hi := by have := (nI_leI (by omega) (by omega)).mp hc; omega
      subst e
      exact W.vret hx hb hr (fun t ht hW => ⟨⟨(), rfl, trivial, by rw [ht]; exact hP, va_K.moved hW.alike hK, hD⟩, hS.F ht⟩) hS.2.2 dJ_fillr_27 hlocks
    · have hlt : i < hi := by
        rcases Nat.lt_or_ge i hi with h | h
        · exact h
        · exact absurd (nI_le h (by omega)) hc
      refine lv_aload_n hx hb dJ_fillr_16 rfl (lv_at hl 0 rfl) ?_
      refine lv_iload hx hb dJ_fillr_17 (lv_at hl 3 rfl) ?_
      refine lv_iload_n hx hb dJ_fillr_19 rfl (lv_at hl 2 rfl) ?_
      refine va_iast (cA := cA) (n := n) (f := x_fl f lo i v) hx hb hK hP hD hS q0 t0 (List.getElem?_set_self hq) ht (vp_in_nI (by omega) hn) dJ_fillr_20 (fun H locs hP hD hS => ?_)
      rw [List.set_set, nI_clamp (by omega), x_fl_s f v hlo] at hP hD
      refine lv_iinc (v := nI (i + 1)) (lv' := [(4, .int (nI (i + 1))), (0, .ref a), (2, .int (nI hi)), (3, .int v)]) hx hb dJ_fillr_21 hl (k := 3) rfl (nI_1 i) (by decide) rfl (fun ls hl => ?_)
      refine lv_goto (tgt := 10) hx hb dJ_fillr_24 (by decide) ?_
      exact ih (i + 1) H locs ls (by omega) hlt (by omega) hP hD hS (lv_sub hl [1, 2, 3, 0] rfl)
theorem j_rcS : GoodIn lw_g (wsS RJ 13 yJ_rangeCheck (.code yJ_rangeCheck cJ_rangeCheck 3 none :: lw_g)) := gw_s (gm 157 rfl rfl) (gm 158 rfl rfl) (gm 46 rfl rfl) (gm 159 rfl rfl)
set_option maxHeartbeats 4000000 in
set_option maxRecDepth 100000 in
theorem cJm_fillr (l : Launch) (D : va_G) (cl : List vw_C) (tys : List (ClassId × FieldType)) (ws : va_W) (q0 t0 : Nat) {a : Nat} {cA : ClassId} {n : Nat} {f : Nat → Int32} {lo hi v : Int32} (ha : ws[q0]? = some (a, .inl (cA, n, .inl f))) (ht : tys[t0]? = some (cA, .int)) (hin : ¬ hi < lo ∧ ¬ lo < 0 ∧ ¬ nI n < hi ∧ n < 2 ^ 31) (sz : Nat) : Met l yJ_fillr (.code yJ_fillr cJ_fillr 5 none :: lw_g) { frames := 1, cells := 0, slots := 0, locals := 22 } (j_Pc D cl tys ws sz [.ref a, .int lo, .int hi, .int v]) (va_Qv (fun _ : Unit => True) (fun _ t => j_B D cl tys (ws.set q0 (j_e a cA n (x_fl f lo.toNatClampNeg hi.toNatClampNeg v))) (va_A ws sz) t) (va_A ws sz)) 0 0 (va_A ws sz) := by
  have hq : q0 < ws.length := (List.getElem?_eq_some_iff.mp ha).1
  obtain ⟨h1, h2, h3, hn⟩ := hin
  obtain ⟨lo', hl1, rfl⟩ := nI_of h2
  obtain ⟨hi', hh1, rfl⟩ := nI_of (x := hi) (fun h => h2 (Int32.lt_of_le_of_lt (Int32.not_lt.mp h1) h))
  have e1 : lo' ≤ hi' := (nI_leI hl1 hh1).mp (Int32.not_lt.mp h1)
  have e2 : hi' ≤ n := (nI_leI hh1 hn).mp (Int32.not_lt.mp h3)
  rw [nI_clamp hl1, nI_clamp hh1]
  refine Met.ofW (cc := cJ_fillr) (maxL := 5) (ret := none) (by decide) rfl ?_
  intro p e s m args below meth c s₁ B hml hv
  obtain ⟨rfl, hsz, hP, hK, hD0⟩ := hv
  have hx := B.exec
  have hb := B.bytes
  have hr := B.returns
  have hlocks := B.notSynchronized
  have hts := atoms_spec (ws := .code yJ_fillr cJ_fillr 5 none :: lw_g) B.pre
  have hts : ∀ w ∈ lw_g, w.before _ s = true := fun w h => hts w (List.mem_cons_of_mem _ h)
  have hown : s.vm.findClass RJ = some m.cls := findClass_of_methodNamed B.named
  subst hsz
  have hD := hD0.self (sz := s.heap.size)
  have hS : va_S (va_A ws s.heap.size) s.heap s.heap [] := va_S.rf
  have hw : ws.set q0 (j_e a cA n (x_fl f lo' lo' v)) = ws := by
    rw [x_fl_0]
    exact List.ext_getElem? fun i => by
      by_cases h : q0 = i
      · subst h; rw [List.getElem?_set_self hq, ha]; rfl
      · rw [List.getElem?_set_ne h]
  have hl := lv_entry ([.ref a, .int (nI lo'), .int (nI hi'), .int v]) (n := 5) (Nat.le_of_ble_eq_true rfl)
  rw [lg_entry_eq]
  generalize (lg_sl ([.ref a, .int (nI lo'), .int (nI hi'), .int v]) ++ List.replicate (5 - (lg_sl ([.ref a, .int (nI lo'), .int (nI hi'), .int v])).length) Slot.unset).toArray = ls at hl ⊢
  have hl : lv_has ls 5 [(0, .ref a), (1, .int (nI lo')), (2, .int (nI hi')), (3, .int v)] := hl
  refine lv_aload_n hx hb dJ_fillr_0 rfl (lv_at hl 0 rfl) ?_
  refine va_alen (v := nI n) hx hb hK hP q0 t0 ha ht rfl dJ_fillr_1 ?_
  refine lv_iload_n hx hb dJ_fillr_2 rfl (lv_at hl 1 rfl) ?_
  refine lv_iload_n hx hb dJ_fillr_3 rfl (lv_at hl 2 rfl) ?_
  refine va_csv (W.runS (As := [.int (nI n), .int (nI lo'), .int (nI hi')]) (rest := []) ⟨hx, hb, hml, hown, hts⟩ (cJm_rangeCheck l ⟨h1, h2, h3⟩) (cwS 3 hts j_rcS rfl rfl rfl (by decide +kernel) ⟨Nat.le_of_ble_eq_true rfl, Nat.le_of_ble_eq_true rfl⟩) ⟨fun a U g mk q => q, fun U hU hW => ⟨rfl, trivial⟩⟩ rfl rfl hl.1 rfl (lv_room (Nat.le_of_ble_eq_true rfl)) dJ_fillr_4 ⟨Nat.le_of_ble_eq_true rfl, Nat.le_of_ble_eq_true rfl⟩) (fun _ => ?_)
  refine lv_iload_n hx hb dJ_fillr_7 rfl (lv_at hl 1 rfl) ?_
  refine lv_istore (lv' := [(4, .int (nI lo')), (0, .ref a), (1, .int (nI lo')), (2, .int (nI hi')), (3, .int v)]) hx hb dJ_fillr_8 hl (by decide) rfl (fun ls hl => ?_)
  exact bJ_fillr hx hb hr hlocks hK ha ht e2 hn (hi' + 1) lo' _ _ ls (Nat.le_refl _) e1 (by omega) (by rw [hw]; exact hP) (by rw [hw]; exact hD) hS (lv_sub hl [1, 3, 4, 0] rfl)
end
section
abbrev XS : Type := (Nat → Int32) × (Nat → Int32) × (Nat → Int32) × (Nat → Int32) × Int32 × Int32 × Int32 × Int32
def x_u (σ : XS) : Nat → Int32 := σ.1
def x_z (σ : XS) : Nat → Int32 := σ.2.1
def x_t (σ : XS) : Nat → Int32 := σ.2.2.1
def x_r (σ : XS) : Nat → Int32 := σ.2.2.2.1
def x_la (σ : XS) : Int32 := σ.2.2.2.2.1
def x_en (σ : XS) : Int32 := σ.2.2.2.2.2.1
def x_vi (σ : XS) : Int32 := σ.2.2.2.2.2.2.1
def x_tp (σ : XS) : Int32 := σ.2.2.2.2.2.2.2
def x_su (σ : XS) (v : Nat → Int32) : XS := (v, σ.2)
def x_sz (σ : XS) (v : Nat → Int32) : XS := (σ.1, v, σ.2.2)
def x_st (σ : XS) (v : Nat → Int32) : XS := (σ.1, σ.2.1, v, σ.2.2.2)
def x_sr (σ : XS) (v : Nat → Int32) : XS := (σ.1, σ.2.1, σ.2.2.1, v, σ.2.2.2.2)
def x_sla (σ : XS) (v : Int32) : XS := (σ.1, σ.2.1, σ.2.2.1, σ.2.2.2.1, v, σ.2.2.2.2.2)
def x_sen (σ : XS) (v : Int32) : XS := (σ.1, σ.2.1, σ.2.2.1, σ.2.2.2.1, σ.2.2.2.2.1, v, σ.2.2.2.2.2.2)
def x_svi (σ : XS) (v : Int32) : XS := (σ.1, σ.2.1, σ.2.2.1, σ.2.2.2.1, σ.2.2.2.2.1, σ.2.2.2.2.2.1, v, σ.2.2.2.2.2.2.2)
def x_stp (σ : XS) (v : Int32) : XS := (σ.1, σ.2.1, σ.2.2.1, σ.2.2.2.1, σ.2.2.2.2.1, σ.2.2.2.2.2.1, σ.2.2.2.2.2.2.1, v)
theorem x_u_su (σ : XS) (v : Nat → Int32) : x_u (x_su σ v) = v := rfl
theorem x_u_sz (σ : XS) (v : Nat → Int32) : x_u (x_sz σ v) = x_u σ := rfl
theorem x_u_st (σ : XS) (v : Nat → Int32) : x_u (x_st σ v) = x_u σ := rfl
theorem x_u_sr (σ : XS) (v : Nat → Int32) : x_u (x_sr σ v) = x_u σ := rfl
theorem x_u_sla (σ : XS) (v : Int32) : x_u (x_sla σ v) = x_u σ := rfl
theorem x_u_sen (σ : XS) (v : Int32) : x_u (x_sen σ v) = x_u σ := rfl
theorem x_u_svi (σ : XS) (v : Int32) : x_u (x_svi σ v) = x_u σ := rfl
theorem x_u_stp (σ : XS) (v : Int32) : x_u (x_stp σ v) = x_u σ := rfl
theorem x_z_su (σ : XS) (v : Nat → Int32) : x_z (x_su σ v) = x_z σ := rfl
theorem x_z_sz (σ : XS) (v : Nat → Int32) : x_z (x_sz σ v) = v := rfl
theorem x_z_st (σ : XS) (v : Nat → Int32) : x_z (x_st σ v) = x_z σ := rfl
theorem x_z_sr (σ : XS) (v : Nat → Int32) : x_z (x_sr σ v) = x_z σ := rfl
theorem x_z_sla (σ : XS) (v : Int32) : x_z (x_sla σ v) = x_z σ := rfl
theorem x_z_sen (σ : XS) (v : Int32) : x_z (x_sen σ v) = x_z σ := rfl
theorem x_z_svi (σ : XS) (v : Int32) : x_z (x_svi σ v) = x_z σ := rfl
theorem x_z_stp (σ : XS) (v : Int32) : x_z (x_stp σ v) = x_z σ := rfl
theorem x_t_su (σ : XS) (v : Nat → Int32) : x_t (x_su σ v) = x_t σ := rfl
theorem x_t_sz (σ : XS) (v : Nat → Int32) : x_t (x_sz σ v) = x_t σ := rfl
theorem x_t_st (σ : XS) (v : Nat → Int32) : x_t (x_st σ v) = v := rfl
theorem x_t_sr (σ : XS) (v : Nat → Int32) : x_t (x_sr σ v) = x_t σ := rfl
theorem x_t_sla (σ : XS) (v : Int32) : x_t (x_sla σ v) = x_t σ := rfl
theorem x_t_sen (σ : XS) (v : Int32) : x_t (x_sen σ v) = x_t σ := rfl
theorem x_t_svi (σ : XS) (v : Int32) : x_t (x_svi σ v) = x_t σ := rfl
theorem x_t_stp (σ : XS) (v : Int32) : x_t (x_stp σ v) = x_t σ := rfl
theorem x_r_su (σ : XS) (v : Nat → Int32) : x_r (x_su σ v) = x_r σ := rfl
theorem x_r_sz (σ : XS) (v : Nat → Int32) : x_r (x_sz σ v) = x_r σ := rfl
theorem x_r_st (σ : XS) (v : Nat → Int32) : x_r (x_st σ v) = x_r σ := rfl
theorem x_r_sr (σ : XS) (v : Nat → Int32) : x_r (x_sr σ v) = v := rfl
theorem x_r_sla (σ : XS) (v : Int32) : x_r (x_sla σ v) = x_r σ := rfl
theorem x_r_sen (σ : XS) (v : Int32) : x_r (x_sen σ v) = x_r σ := rfl
theorem x_r_svi (σ : XS) (v : Int32) : x_r (x_svi σ v) = x_r σ := rfl
theorem x_r_stp (σ : XS) (v : Int32) : x_r (x_stp σ v) = x_r σ := rfl
theorem x_la_su (σ : XS) (v : Nat → Int32) : x_la (x_su σ v) = x_la σ := rfl
theorem x_la_sz (σ : XS) (v : Nat → Int32) : x_la (x_sz σ v) = x_la σ := rfl
theorem x_la_st (σ : XS) (v : Nat → Int32) : x_la (x_st σ v) = x_la σ := rfl
theorem x_la_sr (σ : XS) (v : Nat → Int32) : x_la (x_sr σ v) = x_la σ := rfl
theorem x_la_sla (σ : XS) (v : Int32) : x_la (x_sla σ v) = v := rfl
theorem x_la_sen (σ : XS) (v : Int32) : x_la (x_sen σ v) = x_la σ := rfl
theorem x_la_svi (σ : XS) (v : Int32) : x_la (x_svi σ v) = x_la σ := rfl
theorem x_la_stp (σ : XS) (v : Int32) : x_la (x_stp σ v) = x_la σ := rfl
theorem x_en_su (σ : XS) (v : Nat → Int32) : x_en (x_su σ v) = x_en σ := rfl
theorem x_en_sz (σ : XS) (v : Nat → Int32) : x_en (x_sz σ v) = x_en σ := rfl
theorem x_en_st (σ : XS) (v : Nat → Int32) : x_en (x_st σ v) = x_en σ := rfl
theorem x_en_sr (σ : XS) (v : Nat → Int32) : x_en (x_sr σ v) = x_en σ := rfl
theorem x_en_sla (σ : XS) (v : Int32) : x_en (x_sla σ v) = x_en σ := rfl
theorem x_en_sen (σ : XS) (v : Int32) : x_en (x_sen σ v) = v := rfl
theorem x_en_svi (σ : XS) (v : Int32) : x_en (x_svi σ v) = x_en σ := rfl
theorem x_en_stp (σ : XS) (v : Int32) : x_en (x_stp σ v) = x_en σ := rfl
theorem x_vi_su (σ : XS) (v : Nat → Int32) : x_vi (x_su σ v) = x_vi σ := rfl
theorem x_vi_sz (σ : XS) (v : Nat → Int32) : x_vi (x_sz σ v) = x_vi σ := rfl
theorem x_vi_st (σ : XS) (v : Nat → Int32) : x_vi (x_st σ v) = x_vi σ := rfl
theorem x_vi_sr (σ : XS) (v : Nat → Int32) : x_vi (x_sr σ v) = x_vi σ := rfl
theorem x_vi_sla (σ : XS) (v : Int32) : x_vi (x_sla σ v) = x_vi σ := rfl
theorem x_vi_sen (σ : XS) (v : Int32) : x_vi (x_sen σ v) = x_vi σ := rfl
theorem x_vi_svi (σ : XS) (v : Int32) : x_vi (x_svi σ v) = v := rfl
theorem x_vi_stp (σ : XS) (v : Int32) : x_vi (x_stp σ v) = x_vi σ := rfl
theorem x_tp_su (σ : XS) (v : Nat → Int32) : x_tp (x_su σ v) = x_tp σ := rfl
theorem x_tp_sz (σ : XS) (v : Nat → Int32) : x_tp (x_sz σ v) = x_tp σ := rfl
theorem x_tp_st (σ : XS) (v : Nat → Int32) : x_tp (x_st σ v) = x_tp σ := rfl
theorem x_tp_sr (σ : XS) (v : Nat → Int32) : x_tp (x_sr σ v) = x_tp σ := rfl
theorem x_tp_sla (σ : XS) (v : Int32) : x_tp (x_sla σ v) = x_tp σ := rfl
theorem x_tp_sen (σ : XS) (v : Int32) : x_tp (x_sen σ v) = x_tp σ := rfl
theorem x_tp_svi (σ : XS) (v : Int32) : x_tp (x_svi σ v) = x_tp σ := rfl
theorem x_tp_stp (σ : XS) (v : Int32) : x_tp (x_stp σ v) = v := rfl
abbrev XA : Type := Nat × Nat × Nat × Nat × Nat × ClassId × Nat × Int32
def x_h (ad : XA) : Nat := ad.1
def x_au (ad : XA) : Nat := ad.2.1
def x_az (ad : XA) : Nat := ad.2.2.1
def x_at (ad : XA) : Nat := ad.2.2.2.1
def x_ar (ad : XA) : Nat := ad.2.2.2.2.1
def x_c (ad : XA) : ClassId := ad.2.2.2.2.2.1
def x_n (ad : XA) : Nat := ad.2.2.2.2.2.2.1
def x_lim (ad : XA) : Int32 := ad.2.2.2.2.2.2.2
def x_w (ad : XA) (σ : XS) : va_W := [(x_h ad, .inr (0, [.int (x_lim ad), .ref (x_au ad), .ref (x_az ad), .ref (x_at ad), .ref (x_ar ad), .int (x_la σ), .int (x_en σ), .int (x_vi σ), .int (x_tp σ)])), (x_au ad, .inl (x_c ad, x_n ad, .inl (x_u σ))), (x_az ad, .inl (x_c ad, x_n ad, .inl (x_z σ))), (x_at ad, .inl (x_c ad, x_n ad, .inl (x_t σ))), (x_ar ad, .inl (x_c ad, x_n ad, .inl (x_r σ)))]

theorem x_in : ∀ w ∈ u_ws RX0 TX0 9, w ∈ lw_g := by
  intro w hw
  obtain ⟨k, hk, rfl⟩ := List.mem_map.mp hw
  have hk := List.mem_range.mp hk
  match k, hk with
  | 0, _ => exact gm 75 rfl rfl
  | 1, _ => exact gm 77 rfl rfl
  | 2, _ => exact gm 79 rfl rfl
  | 3, _ => exact gm 81 rfl rfl
  | 4, _ => exact gm 83 rfl rfl
  | 5, _ => exact gm 85 rfl rfl
  | 6, _ => exact gm 87 rfl rfl
  | 7, _ => exact gm 89 rfl rfl
  | 8, _ => exact gm 91 rfl rfl
  | k + 9, hk => omega

def x_C (p : Program) (s : State) (m : MethodId) (args : Array Value) (meth : Method) (c : Code) (cc : ByteArray) (nL : Nat) (ret : Option FieldType) : Prop := p.tables.exec = Jvm.exec ∧ c.code = cc ∧ c.maxLocals = nL ∧ s.vm.findClass RX0 = some m.cls ∧ (∀ w ∈ lw_g, w.before args s = true) ∧ meth.sig.returnType = ret ∧ meth.locks = false
def x_W (D : va_G) (ad : XA) (σ : XS) (A : Nat → Prop) (s : State) (H : Heap) (locs : List Loc) : Prop := va_P D vcl (x_w ad σ) H ∧ va_D A (x_w ad σ) ∧ va_S A s.heap H locs ∧ va_K D vcl [(x_c ad, .int)] s ∧ ∀ q : Nat, s.heap.size ≤ q → A q
def x_Pc (D : va_G) (ad : XA) (σ : XS) (sz : Nat) (As : List Value) : Array Value → State → Prop := va_Pc As (fun U => U.heap.size = sz ∧ va_P D vcl (x_w ad σ) U.heap ∧ va_K D vcl [(x_c ad, .int)] U ∧ va_D (fun _ => True) (x_w ad σ))
def x_B (D : va_G) (ad : XA) (A : Nat → Prop) (σ : XS) (t : State) : Prop := va_P D vcl (x_w ad σ) t.heap ∧ va_K D vcl [(x_c ad, .int)] t ∧ va_D A (x_w ad σ)
def x_A (ad : XA) (σ : XS) (sz : Nat) : Nat → Prop := va_A (x_w ad σ) sz
def x_Qi (below : List Frame) (D : va_G) (ad : XA) (A : Nat → Prop) (args : Array Value) (s : State) (post : Int32 → XS → Prop) : State → Prop := MQ below (va_Qi post (x_B D ad A) A) args s 0 0 A
def x_Qv (below : List Frame) (D : va_G) (ad : XA) (A : Nat → Prop) (args : Array Value) (s : State) (post : XS → Prop) : State → Prop := MQ below (va_Qv post (x_B D ad A) A) args s 0 0 A
def x_Mi (l : Launch) (D : va_G) (y : MethodName) (cc : ByteArray) (nL : Nat) (ret : Option FieldType) (rm : Room) (ad : XA) (As : List Value) (wp : XS → (Int32 → XS → Prop) → Prop) : Prop := ∀ (σ : XS) (sz : Nat) (post : Int32 → XS → Prop), wp σ post → Met l y (.code y cc nL ret :: lw_g) rm (x_Pc D ad σ sz As) (va_Qi post (x_B D ad (x_A ad σ sz)) (x_A ad σ sz)) 0 0 (x_A ad σ sz)
def x_Mv (l : Launch) (D : va_G) (y : MethodName) (cc : ByteArray) (nL : Nat) (ret : Option FieldType) (rm : Room) (ad : XA) (As : List Value) (wp : XS → (XS → Prop) → Prop) : Prop := ∀ (σ : XS) (sz : Nat) (post : XS → Prop), wp σ post → Met l y (.code y cc nL ret :: lw_g) rm (x_Pc D ad σ sz As) (va_Qv post (x_B D ad (x_A ad σ sz)) (x_A ad σ sz)) 0 0 (x_A ad σ sz)
theorem x_ofi {l : Launch} {D : va_G} {y : MethodName} {cc : ByteArray} {nL : Nat} {ret : Option FieldType} {rm : Room} {ad : XA} {As : List Value} {wp : XS → (Int32 → XS → Prop) → Prop} (hy : plainName y.cls = true ∧ y.cls = RX0 ∧ (lg_sl As).length ≤ nL)
    (body : ∀ {p : Program} {e : Env} {s : State} {m : MethodId} {args : Array Value} {below : List Frame} {meth : Method} {c : Code} {σ : XS} {A : Nat → Prop} {post : Int32 → XS → Prop} {ls : Array Slot}, x_C p s m args meth c cc nL ret → x_W D ad σ A s s.heap [] → wp σ post → lv_has ls nL (lv_args 0 As) → W p l e rm s m args below meth c s.heap [] 0 0 (x_Qi below D ad A args s post) (F0 m 0 ls [])) : x_Mi l D y cc nL ret rm ad As wp := by
  intro σ sz post hw
  refine Met.ofW (cc := cc) (maxL := nL) (ret := ret) hy.1 rfl ?_
  intro p e s m args below meth c s₁ B hml hv
  obtain ⟨rfl, hsz, hP, hK, hD0⟩ := hv
  have hts := atoms_spec (ws := .code y cc nL ret :: lw_g) B.pre
  have hown : s.vm.findClass y.cls = some m.cls := findClass_of_methodNamed B.named
  rw [hy.2.1] at hown
  subst hsz
  have hD := hD0.self (sz := s.heap.size)
  have hA : ∀ q : Nat, s.heap.size ≤ q → x_A ad σ s.heap.size q := fun q h => Or.inr h
  rw [lg_entry_eq]
  exact body (post := post) ⟨B.exec, B.bytes, hml, hown, fun w h => hts w (List.mem_cons_of_mem _ h), B.returns, B.notSynchronized⟩ ⟨hP, hD, va_S.rf, hK, hA⟩ hw (lv_entry As hy.2.2)
theorem x_ofv {l : Launch} {D : va_G} {y : MethodName} {cc : ByteArray} {nL : Nat} {ret : Option FieldType} {rm : Room} {ad : XA} {As : List Value} {wp : XS → (XS → Prop) → Prop} (hy : plainName y.cls = true ∧ y.cls = RX0 ∧ (lg_sl As).length ≤ nL)
    (body : ∀ {p : Program} {e : Env} {s : State} {m : MethodId} {args : Array Value} {below : List Frame} {meth : Method} {c : Code} {σ : XS} {A : Nat → Prop} {post : XS → Prop} {ls : Array Slot}, x_C p s m args meth c cc nL ret → x_W D ad σ A s s.heap [] → wp σ post → lv_has ls nL (lv_args 0 As) → W p l e rm s m args below meth c s.heap [] 0 0 (x_Qv below D ad A args s post) (F0 m 0 ls [])) : x_Mv l D y cc nL ret rm ad As wp := by
  intro σ sz post hw
  refine Met.ofW (cc := cc) (maxL := nL) (ret := ret) hy.1 rfl ?_
  intro p e s m args below meth c s₁ B hml hv
  obtain ⟨rfl, hsz, hP, hK, hD0⟩ := hv
  have hts := atoms_spec (ws := .code y cc nL ret :: lw_g) B.pre
  have hown : s.vm.findClass y.cls = some m.cls := findClass_of_methodNamed B.named
  rw [hy.2.1] at hown
  subst hsz
  have hD := hD0.self (sz := s.heap.size)
  have hA : ∀ q : Nat, s.heap.size ≤ q → x_A ad σ s.heap.size q := fun q h => Or.inr h
  rw [lg_entry_eq]
  exact body (post := post) ⟨B.exec, B.bytes, hml, hown, fun w h => hts w (List.mem_cons_of_mem _ h), B.returns, B.notSynchronized⟩ ⟨hP, hD, va_S.rf, hK, hA⟩ hw (lv_entry As hy.2.2)
/-- what the tables say of a callee of this class: its words, its descriptor -/
def x_Sv (own : String) (index : Nat) (y : MethodName) (bytes : ByteArray) (maxL : Nat) (rt : Option FieldType) (n : Nat) : Prop := GoodIn lw_g (wsV own index RX0 y (.code y bytes maxL rt :: lw_g)) ∧ (y.cls = RX0 ∧ y.cls ≠ "java/lang/invoke/MethodHandle" ∧ y.cls ≠ "java/lang/invoke/VarHandle" ∧ (parseMethodDescriptor y.desc).map (fun d => d.parameters.length) = some n)
def x_Ss (index : Nat) (y : MethodName) (bytes : ByteArray) (maxL : Nat) (rt : Option FieldType) (n : Nat) : Prop := GoodIn lw_g (wsS RX0 index y (.code y bytes maxL rt :: lw_g)) ∧ (y.cls = RX0 ∧ y.cls ≠ "java/lang/invoke/MethodHandle" ∧ y.cls ≠ "java/lang/invoke/VarHandle" ∧ (parseMethodDescriptor y.desc).map (fun d => d.parameters.length) = some n)
section xK
variable {p : Program} {l : Launch} {e : Env} {R : Room} {s : State} {m : MethodId} {args : Array Value} {below : List Frame} {meth : Method} {c : Code} {H : Heap} {locs : List Loc} {cells slots : Nat} {Q : State → Prop} {cc : ByteArray} {nL : Nat} {ret : Option FieldType} {D : va_G} {ad : XA} {σ : XS} {A : Nat → Prop} {pc : Nat} {ls : Array Slot} {rest : List Value}
theorem x_l_lim : Cond.fieldLink RX0 18 "VictimHeap" "limit" "I" ∈ lw_g := gm 66 rfl rfl
theorem x_l_u : Cond.fieldLink RX0 22 "VictimHeap" "units" "[I" ∈ lw_g := gm 67 rfl rfl
theorem x_l_z : Cond.fieldLink RX0 26 "VictimHeap" "sizes" "[I" ∈ lw_g := gm 68 rfl rfl
theorem x_l_t : Cond.fieldLink RX0 29 "VictimHeap" "states" "[I" ∈ lw_g := gm 69 rfl rfl
theorem x_l_r : Cond.fieldLink RX0 32 "VictimHeap" "arrivals" "[I" ∈ lw_g := gm 70 rfl rfl
theorem x_l_la : Cond.fieldLink RX0 41 "VictimHeap" "lastArrival" "I" ∈ lw_g := gm 71 rfl rfl
theorem x_l_en : Cond.fieldLink RX0 44 "VictimHeap" "end" "I" ∈ lw_g := gm 72 rfl rfl
theorem x_l_vi : Cond.fieldLink RX0 47 "VictimHeap" "victim" "I" ∈ lw_g := gm 73 rfl rfl
theorem x_l_tp : Cond.fieldLink RX0 50 "VictimHeap" "top" "I" ∈ lw_g := gm 74 rfl rfl
theorem x_get_lim (C : x_C p s m args meth c cc nL ret) (Wd : x_W D ad σ A s H locs) (hdg : decode cc pc = .ok (.getfield 18, 3)) (kk : W p l e R s m args below meth c H locs cells slots Q (F0 m (pc + 3) ls (.int (x_lim ad) :: rest))) : W p l e R s m args below meth c H locs cells slots Q (F0 m pc ls (.ref (x_h ad) :: rest)) :=
  va_get (D := D) (ci := 0) (v := .int (x_lim ad)) (C := RX0) (T := TX0) (N := 9) C.1 C.2.1 C.2.2.2.2.1 x_in C.2.2.2.1 Wd.2.2.2.1 Wd.1 0 rfl rfl 0 (by decide) (C.2.2.2.2.1 _ x_l_lim) (fun _ h9 => h9) rfl hdg kk
theorem x_get_u (C : x_C p s m args meth c cc nL ret) (Wd : x_W D ad σ A s H locs) (hdg : decode cc pc = .ok (.getfield 22, 3)) (kk : W p l e R s m args below meth c H locs cells slots Q (F0 m (pc + 3) ls (.ref (x_au ad) :: rest))) : W p l e R s m args below meth c H locs cells slots Q (F0 m pc ls (.ref (x_h ad) :: rest)) :=
  va_get (D := D) (ci := 0) (v := .ref (x_au ad)) (C := RX0) (T := TX0) (N := 9) C.1 C.2.1 C.2.2.2.2.1 x_in C.2.2.2.1 Wd.2.2.2.1 Wd.1 0 rfl rfl 1 (by decide) (C.2.2.2.2.1 _ x_l_u) (fun _ h9 => h9) rfl hdg kk
theorem x_get_z (C : x_C p s m args meth c cc nL ret) (Wd : x_W D ad σ A s H locs) (hdg : decode cc pc = .ok (.getfield 26, 3)) (kk : W p l e R s m args below meth c H locs cells slots Q (F0 m (pc + 3) ls (.ref (x_az ad) :: rest))) : W p l e R s m args below meth c H locs cells slots Q (F0 m pc ls (.ref (x_h ad) :: rest)) :=
  va_get (D := D) (ci := 0) (v := .ref (x_az ad)) (C := RX0) (T := TX0) (N := 9) C.1 C.2.1 C.2.2.2.2.1 x_in C.2.2.2.1 Wd.2.2.2.1 Wd.1 0 rfl rfl 2 (by decide) (C.2.2.2.2.1 _ x_l_z) (fun _ h9 => h9) rfl hdg kk
theorem x_get_t (C : x_C p s m args meth c cc nL ret) (Wd : x_W D ad σ A s H locs) (hdg : decode cc pc = .ok (.getfield 29, 3)) (kk : W p l e R s m args below meth c H locs cells slots Q (F0 m (pc + 3) ls (.ref (x_at ad) :: rest))) : W p l e R s m args below meth c H locs cells slots Q (F0 m pc ls (.ref (x_h ad) :: rest)) :=
  va_get (D := D) (ci := 0) (v := .ref (x_at ad)) (C := RX0) (T := TX0) (N := 9) C.1 C.2.1 C.2.2.2.2.1 x_in C.2.2.2.1 Wd.2.2.2.1 Wd.1 0 rfl rfl 3 (by decide) (C.2.2.2.2.1 _ x_l_t) (fun _ h9 => h9) rfl hdg kk
theorem x_get_r (C : x_C p s m args meth c cc nL ret) (Wd : x_W D ad σ A s H locs) (hdg : decode cc pc = .ok (.getfield 32, 3)) (kk : W p l e R s m args below meth c H locs cells slots Q (F0 m (pc + 3) ls (.ref (x_ar ad) :: rest))) : W p l e R s m args below meth c H locs cells slots Q (F0 m pc ls (.ref (x_h ad) :: rest)) :=
  va_get (D := D) (ci := 0) (v := .ref (x_ar ad)) (C := RX0) (T := TX0) (N := 9) C.1 C.2.1 C.2.2.2.2.1 x_in C.2.2.2.1 Wd.2.2.2.1 Wd.1 0 rfl rfl 4 (by decide) (C.2.2.2.2.1 _ x_l_r) (fun _ h9 => h9) rfl hdg kk
theorem x_get_la (C : x_C p s m args meth c cc nL ret) (Wd : x_W D ad σ A s H locs) (hdg : decode cc pc = .ok (.getfield 41, 3)) (kk : W p l e R s m args below meth c H locs cells slots Q (F0 m (pc + 3) ls (.int (x_la σ) :: rest))) : W p l e R s m args below meth c H locs cells slots Q (F0 m pc ls (.ref (x_h ad) :: rest)) :=
  va_get (D := D) (ci := 0) (v := .int (x_la σ)) (C := RX0) (T := TX0) (N := 9) C.1 C.2.1 C.2.2.2.2.1 x_in C.2.2.2.1 Wd.2.2.2.1 Wd.1 0 rfl rfl 5 (by decide) (C.2.2.2.2.1 _ x_l_la) (fun _ h9 => h9) rfl hdg kk
theorem x_put_la (C : x_C p s m args meth c cc nL ret) (Wd : x_W D ad σ A s H locs) {v : Int32} (hdg : decode cc pc = .ok (.putfield 41, 3)) (kk : ∀ (H : Heap) (locs : List Loc), x_W D ad (x_sla σ v) A s H locs → W p l e R s m args below meth c H locs cells slots Q (F0 m (pc + 3) ls rest)) : W p l e R s m args below meth c H locs cells slots Q (F0 m pc ls (.int v :: .ref (x_h ad) :: rest)) :=
  va_put (D := D) (ci := 0) (v := .int v) (ty := .int) (C := RX0) (T := TX0) (N := 9) C.1 C.2.1 C.2.2.2.2.1 x_in tyX0 tyX0_ok nmX0 C.2.2.2.1 Wd.2.2.2.1 Wd.1 Wd.2.1 Wd.2.2.1 0 rfl rfl 5 (by decide) (C.2.2.2.2.1 _ x_l_la) (fun _ h9 => h9) rfl (by decide +kernel) rfl rfl (Nat.le_of_ble_eq_true rfl) hdg (fun H locs hP hD hS => kk H locs ⟨hP, hD, hS, Wd.2.2.2.1, Wd.2.2.2.2⟩)
theorem x_get_en (C : x_C p s m args meth c cc nL ret) (Wd : x_W D ad σ A s H locs) (hdg : decode cc pc = .ok (.getfield 44, 3)) (kk : W p l e R s m args below meth c H locs cells slots Q (F0 m (pc + 3) ls (.int (x_en σ) :: rest))) : W p l e R s m args below meth c H locs cells slots Q (F0 m pc ls (.ref (x_h ad) :: rest)) :=
  va_get (D := D) (ci := 0) (v := .int (x_en σ)) (C := RX0) (T := TX0) (N := 9) C.1 C.2.1 C.2.2.2.2.1 x_in C.2.2.2.1 Wd.2.2.2.1 Wd.1 0 rfl rfl 6 (by decide) (C.2.2.2.2.1 _ x_l_en) (fun _ h9 => h9) rfl hdg kk
theorem x_put_en (C : x_C p s m args meth c cc nL ret) (Wd : x_W D ad σ A s H locs) {v : Int32} (hdg : decode cc pc = .ok (.putfield 44, 3)) (kk : ∀ (H : Heap) (locs : List Loc), x_W D ad (x_sen σ v) A s H locs → W p l e R s m args below meth c H locs cells slots Q (F0 m (pc + 3) ls rest)) : W p l e R s m args below meth c H locs cells slots Q (F0 m pc ls (.int v :: .ref (x_h ad) :: rest)) :=
  va_put (D := D) (ci := 0) (v := .int v) (ty := .int) (C := RX0) (T := TX0) (N := 9) C.1 C.2.1 C.2.2.2.2.1 x_in tyX0 tyX0_ok nmX0 C.2.2.2.1 Wd.2.2.2.1 Wd.1 Wd.2.1 Wd.2.2.1 0 rfl rfl 6 (by decide) (C.2.2.2.2.1 _ x_l_en) (fun _ h9 => h9) rfl (by decide +kernel) rfl rfl (Nat.le_of_ble_eq_true rfl) hdg (fun H locs hP hD hS => kk H locs ⟨hP, hD, hS, Wd.2.2.2.1, Wd.2.2.2.2⟩)
theorem x_get_vi (C : x_C p s m args meth c cc nL ret) (Wd : x_W D ad σ A s H locs) (hdg : decode cc pc = .ok (.getfield 47, 3)) (kk : W p l e R s m args below meth c H locs cells slots Q (F0 m (pc + 3) ls (.int (x_vi σ) :: rest))) : W p l e R s m args below meth c H locs cells slots Q (F0 m pc ls (.ref (x_h ad) :: rest)) :=
  va_get (D := D) (ci := 0) (v := .int (x_vi σ)) (C := RX0) (T := TX0) (N := 9) C.1 C.2.1 C.2.2.2.2.1 x_in C.2.2.2.1 Wd.2.2.2.1 Wd.1 0 rfl rfl 7 (by decide) (C.2.2.2.2.1 _ x_l_vi) (fun _ h9 => h9) rfl hdg kk
theorem x_put_vi (C : x_C p s m args meth c cc nL ret) (Wd : x_W D ad σ A s H locs) {v : Int32} (hdg : decode cc pc = .ok (.putfield 47, 3)) (kk : ∀ (H : Heap) (locs : List Loc), x_W D ad (x_svi σ v) A s H locs → W p l e R s m args below meth c H locs cells slots Q (F0 m (pc + 3) ls rest)) : W p l e R s m args below meth c H locs cells slots Q (F0 m pc ls (.int v :: .ref (x_h ad) :: rest)) :=
  va_put (D := D) (ci := 0) (v := .int v) (ty := .int) (C := RX0) (T := TX0) (N := 9) C.1 C.2.1 C.2.2.2.2.1 x_in tyX0 tyX0_ok nmX0 C.2.2.2.1 Wd.2.2.2.1 Wd.1 Wd.2.1 Wd.2.2.1 0 rfl rfl 7 (by decide) (C.2.2.2.2.1 _ x_l_vi) (fun _ h9 => h9) rfl (by decide +kernel) rfl rfl (Nat.le_of_ble_eq_true rfl) hdg (fun H locs hP hD hS => kk H locs ⟨hP, hD, hS, Wd.2.2.2.1, Wd.2.2.2.2⟩)
theorem x_get_tp (C : x_C p s m args meth c cc nL ret) (Wd : x_W D ad σ A s H locs) (hdg : decode cc pc = .ok (.getfield 50, 3)) (kk : W p l e R s m args below meth c H locs cells slots Q (F0 m (pc + 3) ls (.int (x_tp σ) :: rest))) : W p l e R s m args below meth c H locs cells slots Q (F0 m pc ls (.ref (x_h ad) :: rest)) :=
  va_get (D := D) (ci := 0) (v := .int (x_tp σ)) (C := RX0) (T := TX0) (N := 9) C.1 C.2.1 C.2.2.2.2.1 x_in C.2.2.2.1 Wd.2.2.2.1 Wd.1 0 rfl rfl 8 (by decide) (C.2.2.2.2.1 _ x_l_tp) (fun _ h9 => h9) rfl hdg kk
theorem x_put_tp (C : x_C p s m args meth c cc nL ret) (Wd : x_W D ad σ A s H locs) {v : Int32} (hdg : decode cc pc = .ok (.putfield 50, 3)) (kk : ∀ (H : Heap) (locs : List Loc), x_W D ad (x_stp σ v) A s H locs → W p l e R s m args below meth c H locs cells slots Q (F0 m (pc + 3) ls rest)) : W p l e R s m args below meth c H locs cells slots Q (F0 m pc ls (.int v :: .ref (x_h ad) :: rest)) :=
  va_put (D := D) (ci := 0) (v := .int v) (ty := .int) (C := RX0) (T := TX0) (N := 9) C.1 C.2.1 C.2.2.2.2.1 x_in tyX0 tyX0_ok nmX0 C.2.2.2.1 Wd.2.2.2.1 Wd.1 Wd.2.1 Wd.2.2.1 0 rfl rfl 8 (by decide) (C.2.2.2.2.1 _ x_l_tp) (fun _ h9 => h9) rfl (by decide +kernel) rfl rfl (Nat.le_of_ble_eq_true rfl) hdg (fun H locs hP hD hS => kk H locs ⟨hP, hD, hS, Wd.2.2.2.1, Wd.2.2.2.2⟩)
theorem x_ald_u (C : x_C p s m args meth c cc nL ret) (Wd : x_W D ad σ A s H locs) {i : Int32} (hin : vp_in i (x_n ad)) (hdg : decode cc pc = .ok (.iaload, 1)) (kk : W p l e R s m args below meth c H locs cells slots Q (F0 m (pc + 1) ls (.int (x_u σ i.toNatClampNeg) :: rest))) : W p l e R s m args below meth c H locs cells slots Q (F0 m pc ls (.int i :: .ref (x_au ad) :: rest)) :=
  va_iald C.1 C.2.1 Wd.2.2.2.1 Wd.1 1 0 rfl rfl hin hdg kk
theorem x_ast_u (C : x_C p s m args meth c cc nL ret) (Wd : x_W D ad σ A s H locs) {i x : Int32} (hin : vp_in i (x_n ad)) (hdg : decode cc pc = .ok (.iastore, 1)) (kk : ∀ (H : Heap) (locs : List Loc), x_W D ad (x_su σ (upd (x_u σ) i.toNatClampNeg x)) A s H locs → W p l e R s m args below meth c H locs cells slots Q (F0 m (pc + 1) ls rest)) : W p l e R s m args below meth c H locs cells slots Q (F0 m pc ls (.int x :: .int i :: .ref (x_au ad) :: rest)) :=
  va_iast C.1 C.2.1 Wd.2.2.2.1 Wd.1 Wd.2.1 Wd.2.2.1 1 0 rfl rfl hin hdg (fun H locs hP hD hS => kk H locs ⟨hP, hD, hS, Wd.2.2.2.1, Wd.2.2.2.2⟩)
theorem x_ald_z (C : x_C p s m args meth c cc nL ret) (Wd : x_W D ad σ A s H locs) {i : Int32} (hin : vp_in i (x_n ad)) (hdg : decode cc pc = .ok (.iaload, 1)) (kk : W p l e R s m args below meth c H locs cells slots Q (F0 m (pc + 1) ls (.int (x_z σ i.toNatClampNeg) :: rest))) : W p l e R s m args below meth c H locs cells slots Q (F0 m pc ls (.int i :: .ref (x_az ad) :: rest)) :=
  va_iald C.1 C.2.1 Wd.2.2.2.1 Wd.1 2 0 rfl rfl hin hdg kk
theorem x_ast_z (C : x_C p s m args meth c cc nL ret) (Wd : x_W D ad σ A s H locs) {i x : Int32} (hin : vp_in i (x_n ad)) (hdg : decode cc pc = .ok (.iastore, 1)) (kk : ∀ (H : Heap) (locs : List Loc), x_W D ad (x_sz σ (upd (x_z σ) i.toNatClampNeg x)) A s H locs → W p l e R s m args below meth c H locs cells slots Q (F0 m (pc + 1) ls rest)) : W p l e R s m args below meth c H locs cells slots Q (F0 m pc ls (.int x :: .int i :: .ref (x_az ad) :: rest)) :=
  va_iast C.1 C.2.1 Wd.2.2.2.1 Wd.1 Wd.2.1 Wd.2.2.1 2 0 rfl rfl hin hdg (fun H locs hP hD hS => kk H locs ⟨hP, hD, hS, Wd.2.2.2.1, Wd.2.2.2.2⟩)
theorem x_ald_t (C : x_C p s m args meth c cc nL ret) (Wd : x_W D ad σ A s H locs) {i : Int32} (hin : vp_in i (x_n ad)) (hdg : decode cc pc = .ok (.iaload, 1)) (kk : W p l e R s m args below meth c H locs cells slots Q (F0 m (pc + 1) ls (.int (x_t σ i.toNatClampNeg) :: rest))) : W p l e R s m args below meth c H locs cells slots Q (F0 m pc ls (.int i :: .ref (x_at ad) :: rest)) :=
  va_iald C.1 C.2.1 Wd.2.2.2.1 Wd.1 3 0 rfl rfl hin hdg kk
theorem x_ast_t (C : x_C p s m args meth c cc nL ret) (Wd : x_W D ad σ A s H locs) {i x : Int32} (hin : vp_in i (x_n ad)) (hdg : decode cc pc = .ok (.iastore, 1)) (kk : ∀ (H : Heap) (locs : List Loc), x_W D ad (x_st σ (upd (x_t σ) i.toNatClampNeg x)) A s H locs → W p l e R s m args below meth c H locs cells slots Q (F0 m (pc + 1) ls rest)) : W p l e R s m args below meth c H locs cells slots Q (F0 m pc ls (.int x :: .int i :: .ref (x_at ad) :: rest)) :=
  va_iast C.1 C.2.1 Wd.2.2.2.1 Wd.1 Wd.2.1 Wd.2.2.1 3 0 rfl rfl hin hdg (fun H locs hP hD hS => kk H locs ⟨hP, hD, hS, Wd.2.2.2.1, Wd.2.2.2.2⟩)
theorem x_ald_r (C : x_C p s m args meth c cc nL ret) (Wd : x_W D ad σ A s H locs) {i : Int32} (hin : vp_in i (x_n ad)) (hdg : decode cc pc = .ok (.iaload, 1)) (kk : W p l e R s m args below meth c H locs cells slots Q (F0 m (pc + 1) ls (.int (x_r σ i.toNatClampNeg) :: rest))) : W p l e R s m args below meth c H locs cells slots Q (F0 m pc ls (.int i :: .ref (x_ar ad) :: rest)) :=
  va_iald C.1 C.2.1 Wd.2.2.2.1 Wd.1 4 0 rfl rfl hin hdg kk
theorem x_ast_r (C : x_C p s m args meth c cc nL ret) (Wd : x_W D ad σ A s H locs) {i x : Int32} (hin : vp_in i (x_n ad)) (hdg : decode cc pc = .ok (.iastore, 1)) (kk : ∀ (H : Heap) (locs : List Loc), x_W D ad (x_sr σ (upd (x_r σ) i.toNatClampNeg x)) A s H locs → W p l e R s m args below meth c H locs cells slots Q (F0 m (pc + 1) ls rest)) : W p l e R s m args below meth c H locs cells slots Q (F0 m pc ls (.int x :: .int i :: .ref (x_ar ad) :: rest)) :=
  va_iast C.1 C.2.1 Wd.2.2.2.1 Wd.1 Wd.2.1 Wd.2.2.1 4 0 rfl rfl hin hdg (fun H locs hP hD hS => kk H locs ⟨hP, hD, hS, Wd.2.2.2.1, Wd.2.2.2.2⟩)
theorem x_iret {post : Int32 → XS → Prop} (C : x_C p s m args meth c cc nL (some .int)) (Wd : x_W D ad σ A s H locs) {v : Int32} (hf : post v σ) (hdg : decode cc pc = .ok (.ireturn, 1)) : W p l e R s m args below meth c H locs 0 0 (x_Qi below D ad A args s post) (F0 m pc ls [.int v]) :=
  W.iret (v := v) C.1 C.2.1 C.2.2.2.2.2.1 (fun t ht hW => ⟨⟨v, σ, rfl, hf, by rw [ht]; exact Wd.1, va_K.moved hW.alike Wd.2.2.2.1, Wd.2.1⟩, Wd.2.2.1.F ht⟩) Wd.2.2.1.2.2 hdg C.2.2.2.2.2.2
theorem x_zret {post : Int32 → XS → Prop} (C : x_C p s m args meth c cc nL (some .boolean)) (Wd : x_W D ad σ A s H locs) {v : Int32} (hz : v = 0 ∨ v = 1) (hf : post v σ) (hdg : decode cc pc = .ok (.ireturn, 1)) : W p l e R s m args below meth c H locs 0 0 (x_Qi below D ad A args s post) (F0 m pc ls [.int v]) :=
  W.zret (v := v) C.1 C.2.1 C.2.2.2.2.2.1 (by rcases hz with rfl | rfl <;> rfl) (fun t ht hW => ⟨⟨v, σ, rfl, hf, by rw [ht]; exact Wd.1, va_K.moved hW.alike Wd.2.2.2.1, Wd.2.1⟩, Wd.2.2.1.F ht⟩) Wd.2.2.1.2.2 hdg C.2.2.2.2.2.2
theorem x_vret {post : XS → Prop} (C : x_C p s m args meth c cc nL none) (Wd : x_W D ad σ A s H locs) (hf : post σ) (hdg : decode cc pc = .ok (.return_, 1)) : W p l e R s m args below meth c H locs 0 0 (x_Qv below D ad A args s post) (F0 m pc ls []) :=
  W.vret C.1 C.2.1 C.2.2.2.2.2.1 (fun t ht hW => ⟨⟨σ, rfl, hf, by rw [ht]; exact Wd.1, va_K.moved hW.alike Wd.2.2.2.1, Wd.2.1⟩, Wd.2.2.1.F ht⟩) Wd.2.2.1.2.2 hdg C.2.2.2.2.2.2
theorem x_calliv {y : MethodName} {bytes : ByteArray} {maxL n index : Nat} {rt : Option FieldType} {rm : Room} {As st : List Value} {wp : XS → (Int32 → XS → Prop) → Prop} {post : Int32 → XS → Prop} (C : x_C p s m args meth c cc nL ret) (Wd : x_W D ad σ A s H locs) (hM : x_Mi l D y bytes maxL rt rm ad (.ref (x_h ad) :: As) wp) (hS : x_Sv RX0 index y bytes maxL rt n) (hR : rm.cells = 0 ∧ rm.slots = 0 ∧ rm.frames + 1 ≤ R.frames ∧ 8 + (maxL + 11) + rm.locals ≤ R.locals) (hn : As.length = n) (hls : ls.size = nL) (hst : st = As.reverse ++ .ref (x_h ad) :: rest) (hsm : (rest.map fun v => v.category).sum ≤ 8) (hcs : cells ≤ R.cells ∧ slots ≤ R.slots) (hdg : decode cc pc = .ok (.invokevirtual index, 3)) (hw : wp σ post) (kk : ∀ (r : Int32) (σ : XS) (H : Heap) (locs : List Loc), post r σ → x_W D ad σ A s H locs → W p l e R s m args below meth c H locs cells slots Q (F0 m (pc + 3) ls (.int r :: rest))) : W p l e R s m args below meth c H locs cells slots Q (F0 m pc ls st) := by
  obtain ⟨hP, hD, hS0, hK, hA⟩ := Wd
  subst hst
  have hFc := va_free (wc := x_w ad σ) hD hS0 hA [0, 1, 2, 3, 4] rfl
  have hc0 : cells + 0 ≤ R.cells ∧ slots + 0 ≤ R.slots := hcs
  refine va_calli (va_runV (As := As) (rest := rest) (b := x_h ad) ⟨C.1, C.2.1, C.2.2.1, C.2.2.2.1, C.2.2.2.2.1⟩ (hM σ H.size post hw) (cwV n C.2.2.2.2.1 hS.1 rfl hR.1 hR.2.1 hS.2 hR.2.2) ⟨fun a U g mk q => by obtain ⟨q0, q1, qP, qK, qD⟩ := q; exact ⟨q0, q1, qP, va_K.moved (u := U) (U := U.calling g mk a) (Vm.Alike.refl U.vm) qK, qD⟩, va_recv hK hP (ci := 0) (q0 := 0) rfl rfl, fun U hU hW => ⟨rfl, by rw [hU], by rw [hU]; exact hP, va_K.moved hW.alike hK, hD.weaken (fun _ _ _ _ => trivial)⟩⟩ rfl hn hls rfl (lv_room hsm) hdg hc0) hS0 (fun q _ h => hFc q h) hFc (fun r u t H1 locs ht hvm hw hB hz1 hk1 hS => ?_)
  obtain ⟨hP1, hK1, hD1⟩ := hB
  rw [ht] at hP1
  exact kk r u H1 locs hw ⟨hP1, hD1.weaken (fun k q _ h => hFc q.1 h), hS, hK, hA⟩
theorem x_callis {y : MethodName} {bytes : ByteArray} {maxL n index : Nat} {rt : Option FieldType} {rm : Room} {As st : List Value} {wp : XS → (Int32 → XS → Prop) → Prop} {post : Int32 → XS → Prop} (C : x_C p s m args meth c cc nL ret) (Wd : x_W D ad σ A s H locs) (hM : x_Mi l D y bytes maxL rt rm ad As wp) (hS : x_Ss index y bytes maxL rt n) (hR : rm.cells = 0 ∧ rm.slots = 0 ∧ rm.frames + 1 ≤ R.frames ∧ 8 + (maxL + 11) + rm.locals ≤ R.locals) (hn : As.length = n) (hls : ls.size = nL) (hst : st = As.reverse ++ rest) (hsm : (rest.map fun v => v.category).sum ≤ 8) (hcs : cells ≤ R.cells ∧ slots ≤ R.slots) (hdg : decode cc pc = .ok (.invokestatic index, 3)) (hw : wp σ post) (kk : ∀ (r : Int32) (σ : XS) (H : Heap) (locs : List Loc), post r σ → x_W D ad σ A s H locs → W p l e R s m args below meth c H locs cells slots Q (F0 m (pc + 3) ls (.int r :: rest))) : W p l e R s m args below meth c H locs cells slots Q (F0 m pc ls st) := by
  obtain ⟨hP, hD, hS0, hK, hA⟩ := Wd
  subst hst
  have hFc := va_free (wc := x_w ad σ) hD hS0 hA [0, 1, 2, 3, 4] rfl
  have hc0 : cells + 0 ≤ R.cells ∧ slots + 0 ≤ R.slots := hcs
  refine va_calli (va_runS (As := As) (rest := rest) ⟨C.1, C.2.1, C.2.2.1, C.2.2.2.1, C.2.2.2.2.1⟩ (hM σ H.size post hw) (cwS n C.2.2.2.2.1 hS.1 rfl hR.1 hR.2.1 hS.2 hR.2.2) ⟨fun a U g mk q => by obtain ⟨q0, q1, qP, qK, qD⟩ := q; exact ⟨q0, q1, qP, va_K.moved (u := U) (U := U.calling g mk a) (Vm.Alike.refl U.vm) qK, qD⟩, fun U hU hW => ⟨rfl, by rw [hU], by rw [hU]; exact hP, va_K.moved hW.alike hK, hD.weaken (fun _ _ _ _ => trivial)⟩⟩ rfl hn hls rfl (lv_room hsm) hdg hc0) hS0 (fun q _ h => hFc q h) hFc (fun r u t H1 locs ht hvm hw hB hz1 hk1 hS => ?_)
  obtain ⟨hP1, hK1, hD1⟩ := hB
  rw [ht] at hP1
  exact kk r u H1 locs hw ⟨hP1, hD1.weaken (fun k q _ h => hFc q.1 h), hS, hK, hA⟩
theorem x_callvv {y : MethodName} {bytes : ByteArray} {maxL n index : Nat} {rt : Option FieldType} {rm : Room} {As st : List Value} {wp : XS → (XS → Prop) → Prop} {post : XS → Prop} (C : x_C p s m args meth c cc nL ret) (Wd : x_W D ad σ A s H locs) (hM : x_Mv l D y bytes maxL rt rm ad (.ref (x_h ad) :: As) wp) (hS : x_Sv RX0 index y bytes maxL rt n) (hR : rm.cells = 0 ∧ rm.slots = 0 ∧ rm.frames + 1 ≤ R.frames ∧ 8 + (maxL + 11) + rm.locals ≤ R.locals) (hn : As.length = n) (hls : ls.size = nL) (hst : st = As.reverse ++ .ref (x_h ad) :: rest) (hsm : (rest.map fun v => v.category).sum ≤ 8) (hcs : cells ≤ R.cells ∧ slots ≤ R.slots) (hdg : decode cc pc = .ok (.invokevirtual index, 3)) (hw : wp σ post) (kk : ∀ (σ : XS) (H : Heap) (locs : List Loc), post σ → x_W D ad σ A s H locs → W p l e R s m args below meth c H locs cells slots Q (F0 m (pc + 3) ls (rest))) : W p l e R s m args below meth c H locs cells slots Q (F0 m pc ls st) := by
  obtain ⟨hP, hD, hS0, hK, hA⟩ := Wd
  subst hst
  have hFc := va_free (wc := x_w ad σ) hD hS0 hA [0, 1, 2, 3, 4] rfl
  have hc0 : cells + 0 ≤ R.cells ∧ slots + 0 ≤ R.slots := hcs
  refine va_callv (va_runV (As := As) (rest := rest) (b := x_h ad) ⟨C.1, C.2.1, C.2.2.1, C.2.2.2.1, C.2.2.2.2.1⟩ (hM σ H.size post hw) (cwV n C.2.2.2.2.1 hS.1 rfl hR.1 hR.2.1 hS.2 hR.2.2) ⟨fun a U g mk q => by obtain ⟨q0, q1, qP, qK, qD⟩ := q; exact ⟨q0, q1, qP, va_K.moved (u := U) (U := U.calling g mk a) (Vm.Alike.refl U.vm) qK, qD⟩, va_recv hK hP (ci := 0) (q0 := 0) rfl rfl, fun U hU hW => ⟨rfl, by rw [hU], by rw [hU]; exact hP, va_K.moved hW.alike hK, hD.weaken (fun _ _ _ _ => trivial)⟩⟩ rfl hn hls rfl (lv_room hsm) hdg hc0) hS0 (fun q _ h => hFc q h) hFc (fun u t H1 locs ht hvm hw hB hz1 hk1 hS => ?_)
  obtain ⟨hP1, hK1, hD1⟩ := hB
  rw [ht] at hP1
  exact kk u H1 locs hw ⟨hP1, hD1.weaken (fun k q _ h => hFc q.1 h), hS, hK, hA⟩
theorem x_callvs {y : MethodName} {bytes : ByteArray} {maxL n index : Nat} {rt : Option FieldType} {rm : Room} {As st : List Value} {wp : XS → (XS → Prop) → Prop} {post : XS → Prop} (C : x_C p s m args meth c cc nL ret) (Wd : x_W D ad σ A s H locs) (hM : x_Mv l D y bytes maxL rt rm ad As wp) (hS : x_Ss index y bytes maxL rt n) (hR : rm.cells = 0 ∧ rm.slots = 0 ∧ rm.frames + 1 ≤ R.frames ∧ 8 + (maxL + 11) + rm.locals ≤ R.locals) (hn : As.length = n) (hls : ls.size = nL) (hst : st = As.reverse ++ rest) (hsm : (rest.map fun v => v.category).sum ≤ 8) (hcs : cells ≤ R.cells ∧ slots ≤ R.slots) (hdg : decode cc pc = .ok (.invokestatic index, 3)) (hw : wp σ post) (kk : ∀ (σ : XS) (H : Heap) (locs : List Loc), post σ → x_W D ad σ A s H locs → W p l e R s m args below meth c H locs cells slots Q (F0 m (pc + 3) ls (rest))) : W p l e R s m args below meth c H locs cells slots Q (F0 m pc ls st) := by
  obtain ⟨hP, hD, hS0, hK, hA⟩ := Wd
  subst hst
  have hFc := va_free (wc := x_w ad σ) hD hS0 hA [0, 1, 2, 3, 4] rfl
  have hc0 : cells + 0 ≤ R.cells ∧ slots + 0 ≤ R.slots := hcs
  refine va_callv (va_runS (As := As) (rest := rest) ⟨C.1, C.2.1, C.2.2.1, C.2.2.2.1, C.2.2.2.2.1⟩ (hM σ H.size post hw) (cwS n C.2.2.2.2.1 hS.1 rfl hR.1 hR.2.1 hS.2 hR.2.2) ⟨fun a U g mk q => by obtain ⟨q0, q1, qP, qK, qD⟩ := q; exact ⟨q0, q1, qP, va_K.moved (u := U) (U := U.calling g mk a) (Vm.Alike.refl U.vm) qK, qD⟩, fun U hU hW => ⟨rfl, by rw [hU], by rw [hU]; exact hP, va_K.moved hW.alike hK, hD.weaken (fun _ _ _ _ => trivial)⟩⟩ rfl hn hls rfl (lv_room hsm) hdg hc0) hS0 (fun q _ h => hFc q h) hFc (fun u t H1 locs ht hvm hw hB hz1 hk1 hS => ?_)
  obtain ⟨hP1, hK1, hD1⟩ := hB
  rw [ht] at hP1
  exact kk u H1 locs hw ⟨hP1, hD1.weaken (fun k q _ h => hFc q.1 h), hS, hK, hA⟩
end xK

section xE
variable {p : Program} {l : Launch} {e : Env} {R : Room} {s : State} {m : MethodId} {args : Array Value} {below : List Frame} {meth : Method} {c : Code} {H : Heap} {locs : List Loc} {cells slots : Nat} {Q : State → Prop} {cc : ByteArray} {nL : Nat} {ret : Option FieldType} {D : va_G} {ad : XA} {σ : XS} {A : Nat → Prop} {pc : Nat} {ls : Array Slot} {rest : List Value}
theorem x_mmax (C : x_C p s m args meth c cc nL ret) (hls : ls.size = nL) (h1 : 1 ≤ R.frames) (h2 : (rest.map fun v => v.category).sum + 13 ≤ R.locals) (h3 : cells ≤ R.cells ∧ slots ≤ R.slots) {x y : Int32} (hdg : decode cc pc = .ok (.invokestatic 15, 3)) (kk : W p l e R s m args below meth c H locs cells slots Q (F0 m (pc + 3) ls (.int (if x < y then y else x) :: rest))) : W p l e R s m args below meth c H locs cells slots Q (F0 m pc ls (.int y :: .int x :: rest)) :=
  va_mmax C.1 C.2.1 (C.2.2.1.trans hls.symm) (own := RX0) C.2.2.2.1 (C.2.2.2.2.1 _ (gm 60 rfl rfl)) (C.2.2.2.2.1 _ (gm 61 rfl rfl)) (C.2.2.2.2.1 _ (gm 45 rfl rfl)) (C.2.2.2.2.1 _ (gm 62 rfl rfl)) h1 h2 h3.1 h3.2 hdg kk
theorem x_mmin (C : x_C p s m args meth c cc nL ret) (hls : ls.size = nL) (h1 : 1 ≤ R.frames) (h2 : (rest.map fun v => v.category).sum + 13 ≤ R.locals) (h3 : cells ≤ R.cells ∧ slots ≤ R.slots) {x y : Int32} (hdg : decode cc pc = .ok (.invokestatic 9, 3)) (kk : W p l e R s m args below meth c H locs cells slots Q (F0 m (pc + 3) ls (.int (if y < x then y else x) :: rest))) : W p l e R s m args below meth c H locs cells slots Q (F0 m pc ls (.int y :: .int x :: rest)) :=
  va_mmin C.1 C.2.1 (C.2.2.1.trans hls.symm) (own := RX0) C.2.2.2.1 (C.2.2.2.2.1 _ (gm 57 rfl rfl)) (C.2.2.2.2.1 _ (gm 58 rfl rfl)) (C.2.2.2.2.1 _ (gm 45 rfl rfl)) (C.2.2.2.2.1 _ (gm 59 rfl rfl)) h1 h2 h3.1 h3.2 hdg kk
theorem x_copy_u (C : x_C p s m args meth c cc nL ret) (Wd : x_W D ad σ A s H locs) {sp dp k : Int32} (hin : ¬ sp < 0 ∧ ¬ dp < 0 ∧ ¬ k < 0 ∧ sp.toNatClampNeg + k.toNatClampNeg ≤ x_n ad ∧ dp.toNatClampNeg + k.toNatClampNeg ≤ x_n ad) (hls : ls.size = nL) (h1 : 1 ≤ R.frames) (h2 : nativeFrameWords "java/lang/System" "arraycopy" 5 + 11 ≤ R.locals) (hdg : decode cc pc = .ok (.invokestatic 153, 3)) (kk : ∀ (H : Heap) (locs : List Loc), x_W D ad (x_su σ (va_cpy (x_u σ) (x_u σ) sp.toNatClampNeg dp.toNatClampNeg k.toNatClampNeg)) A s H locs → W p l e R s m args below meth c H locs cells slots Q (F0 m (pc + 3) ls [])) : W p l e R s m args below meth c H locs cells slots Q (F0 m pc ls [.int k, .int dp, .ref (x_au ad), .int sp, .ref (x_au ad)]) :=
  va_copyi (rest := []) C.1 C.2.1 (C.2.2.1.trans hls.symm) (own := RX0) C.2.2.2.1 (C.2.2.2.2.1 _ (gm 212 rfl rfl)) (C.2.2.2.2.1 _ (gm 214 rfl rfl)) (C.2.2.2.2.1 _ (gm 213 rfl rfl)) (C.2.2.2.2.1 _ (gm 48 rfl rfl)) Wd.2.2.2.1 Wd.1 Wd.2.1 Wd.2.2.1 1 1 0 0 (ty := .int) rfl rfl rfl rfl rfl hin.1 hin.2.1 hin.2.2.1 hin.2.2.2.1 hin.2.2.2.2 (fun _ _ => rfl) h1 (by simpa using h2) hdg (fun H locs hP hD hS => kk H locs ⟨hP, hD, hS, Wd.2.2.2.1, Wd.2.2.2.2⟩)
theorem x_fillr_u (C : x_C p s m args meth c cc nL ret) (Wd : x_W D ad σ A s H locs) {lo hi v : Int32} (hin : (¬ hi < lo ∧ ¬ lo < 0 ∧ ¬ nI (x_n ad) < hi ∧ x_n ad < 2 ^ 31)) (hls : ls.size = nL) (hsm : (rest.map fun v => v.category).sum ≤ 8) (hR : 1 + 1 ≤ R.frames ∧ 8 + (5 + 11) + 22 ≤ R.locals ∧ cells ≤ R.cells ∧ slots ≤ R.slots) (hdg : decode cc pc = .ok (.invokestatic 73, 3)) (kk : ∀ (H : Heap) (locs : List Loc), x_W D ad (x_su σ (x_fl (x_u σ) lo.toNatClampNeg hi.toNatClampNeg v)) A s H locs → W p l e R s m args below meth c H locs cells slots Q (F0 m (pc + 3) ls rest)) : W p l e R s m args below meth c H locs cells slots Q (F0 m pc ls (.int v :: .int hi :: .int lo :: .ref (x_au ad) :: rest)) := by
  obtain ⟨hP, hD, hS0, hK, hA⟩ := Wd
  have hFc := va_free (wc := x_w ad σ) hD hS0 hA [0, 1, 2, 3, 4] rfl
  refine va_callv (va_runS (As := [.ref (x_au ad), .int lo, .int hi, .int v]) (rest := rest) ⟨C.1, C.2.1, C.2.2.1, C.2.2.2.1, C.2.2.2.2.1⟩ (cJm_fillr l D vcl [(x_c ad, .int)] (x_w ad σ) 1 0 rfl rfl hin H.size) (va_cwS 4 C.2.2.2.2.1 (gw_e (gm 154 rfl rfl) (gm 155 rfl rfl) (gm 46 rfl rfl) (gm 156 rfl rfl)) rfl rfl rfl (by decide +kernel) ⟨hR.1, hR.2.1⟩) ⟨fun a U g mk q => by obtain ⟨q0, q1, qP, qK, qD⟩ := q; exact ⟨q0, q1, qP, va_K.moved (u := U) (U := U.calling g mk a) (Vm.Alike.refl U.vm) qK, qD⟩, fun U hU hW => ⟨rfl, by rw [hU], by rw [hU]; exact hP, va_K.moved hW.alike hK, hD.weaken (fun _ _ _ _ => trivial)⟩⟩ rfl rfl hls rfl (lv_room hsm) hdg ⟨hR.2.2.1, hR.2.2.2⟩) hS0 (fun q _ h => hFc q h) hFc (fun u t H1 locs ht hvm hw hB hz1 hk1 hS => ?_)
  obtain ⟨hP1, hK1, hD1⟩ := hB
  rw [ht] at hP1
  exact kk H1 locs ⟨hP1, hD1.weaken (fun k q _ h => hFc q.1 h), hS, hK, hA⟩
theorem x_fill_t (C : x_C p s m args meth c cc nL ret) (Wd : x_W D ad σ A s H locs) {v : Int32} (hin : x_n ad < 2 ^ 31) (hls : ls.size = nL) (hsm : (rest.map fun v => v.category).sum ≤ 8) (hR : 0 + 1 ≤ R.frames ∧ 8 + (4 + 11) + 0 ≤ R.locals ∧ cells ≤ R.cells ∧ slots ≤ R.slots) (hdg : decode cc pc = .ok (.invokestatic 35, 3)) (kk : ∀ (H : Heap) (locs : List Loc), x_W D ad (x_st σ (x_fl (x_t σ) 0 (x_n ad) v)) A s H locs → W p l e R s m args below meth c H locs cells slots Q (F0 m (pc + 3) ls rest)) : W p l e R s m args below meth c H locs cells slots Q (F0 m pc ls (.int v :: .ref (x_at ad) :: rest)) := by
  obtain ⟨hP, hD, hS0, hK, hA⟩ := Wd
  have hFc := va_free (wc := x_w ad σ) hD hS0 hA [0, 1, 2, 3, 4] rfl
  refine va_callv (va_runS (As := [.ref (x_at ad), .int v]) (rest := rest) ⟨C.1, C.2.1, C.2.2.1, C.2.2.2.1, C.2.2.2.2.1⟩ (cJm_fill l D vcl [(x_c ad, .int)] (x_w ad σ) 3 0 rfl rfl hin H.size) (va_cwS 2 C.2.2.2.2.1 (gw_e (gm 63 rfl rfl) (gm 64 rfl rfl) (gm 46 rfl rfl) (gm 65 rfl rfl)) rfl rfl rfl (by decide +kernel) ⟨hR.1, hR.2.1⟩) ⟨fun a U g mk q => by obtain ⟨q0, q1, qP, qK, qD⟩ := q; exact ⟨q0, q1, qP, va_K.moved (u := U) (U := U.calling g mk a) (Vm.Alike.refl U.vm) qK, qD⟩, fun U hU hW => ⟨rfl, by rw [hU], by rw [hU]; exact hP, va_K.moved hW.alike hK, hD.weaken (fun _ _ _ _ => trivial)⟩⟩ rfl rfl hls rfl (lv_room hsm) hdg ⟨hR.2.2.1, hR.2.2.2⟩) hS0 (fun q _ h => hFc q h) hFc (fun u t H1 locs ht hvm hw hB hz1 hk1 hS => ?_)
  obtain ⟨hP1, hK1, hD1⟩ := hB
  rw [ht] at hP1
  exact kk H1 locs ⟨hP1, hD1.weaken (fun k q _ h => hFc q.1 h), hS, hK, hA⟩
end xE
theorem sX_unitsFor : x_Ss 53 yX0_unitsFor cX0_unitsFor 1 (some .int) 1 := ⟨gw_s (gm 99 rfl rfl) (gm 100 rfl rfl) (gm 44 rfl rfl) (gm 101 rfl rfl), by decide +kernel⟩
theorem sX_take : x_Sv RX0 57 yX0_take cX0_take 3 (some .int) 1 := ⟨gw_v (gm 102 rfl rfl) (gm 104 rfl rfl) (gm 0 rfl rfl) (gm 44 rfl rfl) (gm 105 rfl rfl), by decide +kernel⟩
theorem sX_pointerTo : x_Ss 60 yX0_pointerTo cX0_pointerTo 1 (some .int) 1 := ⟨gw_s (gm 160 rfl rfl) (gm 161 rfl rfl) (gm 44 rfl rfl) (gm 162 rfl rfl), by decide +kernel⟩
theorem sX_malloc : x_Sv RX0 63 yX0_malloc cX0_malloc 2 (some .int) 1 := ⟨gw_v (gm 167 rfl rfl) (gm 96 rfl rfl) (gm 97 rfl rfl) (gm 44 rfl rfl) (gm 98 rfl rfl), by decide +kernel⟩
theorem sX_isPointer : x_Sv RX0 66 yX0_isPointer cX0_isPointer 2 (some .boolean) 1 := ⟨gw_v (gm 168 rfl rfl) (gm 170 rfl rfl) (gm 13 rfl rfl) (gm 44 rfl rfl) (gm 171 rfl rfl), by decide +kernel⟩
theorem sX_usable : x_Sv RX0 70 yX0_usable cX0_usable 2 (some .int) 1 := ⟨gw_v (gm 176 rfl rfl) (gm 177 rfl rfl) (gm 178 rfl rfl) (gm 44 rfl rfl) (gm 179 rfl rfl), by decide +kernel⟩
theorem sX_release : x_Sv RX0 76 yX0_release cX0_release 7 none 1 := ⟨gw_v (gm 184 rfl rfl) (gm 186 rfl rfl) (gm 15 rfl rfl) (gm 44 rfl rfl) (gm 187 rfl rfl), by decide +kernel⟩
theorem sX_shorten : x_Sv RX0 80 yX0_shorten cX0_shorten 3 none 2 := ⟨gw_v (gm 200 rfl rfl) (gm 202 rfl rfl) (gm 18 rfl rfl) (gm 44 rfl rfl) (gm 203 rfl rfl), by decide +kernel⟩
theorem sX_lengthen : x_Sv RX0 84 yX0_lengthen cX0_lengthen 6 (some .boolean) 2 := ⟨gw_v (gm 204 rfl rfl) (gm 206 rfl rfl) (gm 19 rfl rfl) (gm 44 rfl rfl) (gm 207 rfl rfl), by decide +kernel⟩
theorem sX_move : x_Sv RX0 88 yX0_move cX0_move 4 (some .int) 2 := ⟨gw_v (gm 208 rfl rfl) (gm 210 rfl rfl) (gm 20 rfl rfl) (gm 44 rfl rfl) (gm 211 rfl rfl), by decide +kernel⟩
theorem sX_isAlignment : x_Ss 91 yX0_isAlignment cX0_isAlignment 1 (some .boolean) 1 := ⟨gw_s (gm 219 rfl rfl) (gm 220 rfl rfl) (gm 44 rfl rfl) (gm 221 rfl rfl), by decide +kernel⟩
theorem sX_unitsInFront : x_Ss 94 yX0_unitsInFront cX0_unitsInFront 4 (some .int) 2 := ⟨gw_s (gm 222 rfl rfl) (gm 223 rfl rfl) (gm 44 rfl rfl) (gm 224 rfl rfl), by decide +kernel⟩
theorem sX_cut : x_Sv RX0 97 yX0_cut cX0_cut 6 (some .int) 3 := ⟨gw_v (gm 122 rfl rfl) (gm 124 rfl rfl) (gm 5 rfl rfl) (gm 44 rfl rfl) (gm 125 rfl rfl), by decide +kernel⟩
theorem sX_sizeAt : x_Sv RX0 101 yX0_sizeAt cX0_sizeAt 2 (some .int) 1 := ⟨gw_v (gm 134 rfl rfl) (gm 136 rfl rfl) (gm 8 rfl rfl) (gm 44 rfl rfl) (gm 137 rfl rfl), by decide +kernel⟩
theorem sX_shrinkTop : x_Sv RX0 104 yX0_shrinkTop cX0_shrinkTop 4 none 1 := ⟨gw_v (gm 229 rfl rfl) (gm 231 rfl rfl) (gm 21 rfl rfl) (gm 44 rfl rfl) (gm 232 rfl rfl), by decide +kernel⟩
theorem sX_hasData : x_Sv RX0 107 yX0_hasData cX0_hasData 3 (some .boolean) 2 := ⟨gw_v (gm 238 rfl rfl) (gm 240 rfl rfl) (gm 22 rfl rfl) (gm 44 rfl rfl) (gm 241 rfl rfl), by decide +kernel⟩
theorem sX_isChunk : x_Sv RX0 110 yX0_isChunk cX0_isChunk 2 (some .boolean) 1 := ⟨gw_v (gm 172 rfl rfl) (gm 174 rfl rfl) (gm 14 rfl rfl) (gm 44 rfl rfl) (gm 175 rfl rfl), by decide +kernel⟩
theorem sX_isCountedBy : x_Sv RX0 113 yX0_isCountedBy cX0_isCountedBy 3 (some .boolean) 2 := ⟨gw_v (gm 258 rfl rfl) (gm 260 rfl rfl) (gm 23 rfl rfl) (gm 44 rfl rfl) (gm 261 rfl rfl), by decide +kernel⟩
theorem sX_takeSmall : x_Sv RX0 116 yX0_takeSmall cX0_takeSmall 3 (some .int) 1 := ⟨gw_v (gm 106 rfl rfl) (gm 108 rfl rfl) (gm 1 rfl rfl) (gm 44 rfl rfl) (gm 109 rfl rfl), by decide +kernel⟩
theorem sX_takeLarge : x_Sv RX0 119 yX0_takeLarge cX0_takeLarge 4 (some .int) 1 := ⟨gw_v (gm 142 rfl rfl) (gm 144 rfl rfl) (gm 10 rfl rfl) (gm 44 rfl rfl) (gm 145 rfl rfl), by decide +kernel⟩
theorem sX_takeFromTop : x_Sv RX0 122 yX0_takeFromTop cX0_takeFromTop 3 (some .int) 1 := ⟨gw_v (gm 146 rfl rfl) (gm 148 rfl rfl) (gm 11 rfl rfl) (gm 44 rfl rfl) (gm 149 rfl rfl), by decide +kernel⟩
theorem sX_bestStored : x_Sv RX0 125 yX0_bestStored cX0_bestStored 4 (some .int) 1 := ⟨gw_v (gm 110 rfl rfl) (gm 112 rfl rfl) (gm 2 rfl rfl) (gm 44 rfl rfl) (gm 113 rfl rfl), by decide +kernel⟩
theorem sX_cutForVictim : x_Sv RX0 128 yX0_cutForVictim cX0_cutForVictim 4 (some .int) 2 := ⟨gw_v (gm 138 rfl rfl) (gm 140 rfl rfl) (gm 9 rfl rfl) (gm 44 rfl rfl) (gm 141 rfl rfl), by decide +kernel⟩
theorem sX_grow : x_Sv RX0 131 yX0_grow cX0_grow 5 (some .boolean) 1 := ⟨gw_v (gm 150 rfl rfl) (gm 152 rfl rfl) (gm 12 rfl rfl) (gm 44 rfl rfl) (gm 153 rfl rfl), by decide +kernel⟩
theorem sX_lay : x_Sv RX0 134 yX0_lay cX0_lay 4 none 3 := ⟨gw_v (gm 130 rfl rfl) (gm 132 rfl rfl) (gm 7 rfl rfl) (gm 44 rfl rfl) (gm 133 rfl rfl), by decide +kernel⟩
theorem sX_isStored : x_Sv RX0 138 yX0_isStored cX0_isStored 2 (some .boolean) 1 := ⟨gw_v (gm 114 rfl rfl) (gm 116 rfl rfl) (gm 3 rfl rfl) (gm 44 rfl rfl) (gm 117 rfl rfl), by decide +kernel⟩
theorem sX_isBetter : x_Sv RX0 141 yX0_isBetter cX0_isBetter 3 (some .boolean) 2 := ⟨gw_v (gm 118 rfl rfl) (gm 120 rfl rfl) (gm 4 rfl rfl) (gm 44 rfl rfl) (gm 121 rfl rfl), by decide +kernel⟩
theorem sX_chunkBefore : x_Sv RX0 144 yX0_chunkBefore cX0_chunkBefore 3 (some .int) 1 := ⟨gw_v (gm 188 rfl rfl) (gm 190 rfl rfl) (gm 16 rfl rfl) (gm 44 rfl rfl) (gm 191 rfl rfl), by decide +kernel⟩
theorem sX_lift : x_Sv RX0 147 yX0_lift cX0_lift 3 (some .int) 1 := ⟨gw_v (gm 126 rfl rfl) (gm 128 rfl rfl) (gm 6 rfl rfl) (gm 44 rfl rfl) (gm 129 rfl rfl), by decide +kernel⟩
theorem sX_isFree : x_Sv RX0 150 yX0_isFree cX0_isFree 2 (some .boolean) 1 := ⟨gw_v (gm 192 rfl rfl) (gm 194 rfl rfl) (gm 17 rfl rfl) (gm 44 rfl rfl) (gm 195 rfl rfl), by decide +kernel⟩
end
section
def wX_unitsFor (n : Nat) (lim : Int32) (σ : XS) (v0 : Int32) (post : Int32 → XS → Prop) : Prop := post ((if v0 < 1 then 1 else v0) + 1) σ
def wX_isStored (n : Nat) (lim : Int32) (σ : XS) (v1 : Int32) (post : Int32 → XS → Prop) : Prop := (vp_in v1 n ∧ (((x_t σ v1.toNatClampNeg) = 1 → post 1 σ) ∧ (¬ (x_t σ v1.toNatClampNeg) = 1 → (vp_in v1 n ∧ ((¬ (x_t σ v1.toNatClampNeg) = 2 → post 0 σ) ∧ ((x_t σ v1.toNatClampNeg) = 2 → post 1 σ))))))
def wX_isBetter (n : Nat) (lim : Int32) (σ : XS) (v1 : Int32) (v2 : Int32) (post : Int32 → XS → Prop) : Prop := (vp_in v1 n ∧ (vp_in v2 n ∧ (((x_z σ v1.toNatClampNeg) = (x_z σ v2.toNatClampNeg) → (vp_in v1 n ∧ (vp_in v2 n ∧ (((x_r σ v1.toNatClampNeg) ≤ (x_r σ v2.toNatClampNeg) → post 0 σ) ∧ (¬ (x_r σ v1.toNatClampNeg) ≤ (x_r σ v2.toNatClampNeg) → post 1 σ))))) ∧ (¬ (x_z σ v1.toNatClampNeg) = (x_z σ v2.toNatClampNeg) → (vp_in v1 n ∧ (vp_in v2 n ∧ (((x_z σ v2.toNatClampNeg) ≤ (x_z σ v1.toNatClampNeg) → post 0 σ) ∧ (¬ (x_z σ v2.toNatClampNeg) ≤ (x_z σ v1.toNatClampNeg) → post 1 σ))))))))
def wX_bestStored_4_s (n : Nat) (lim : Int32) (post : Int32 → XS → Prop) (rc : XS → Int32 → Int32 → Int32 → Prop) (σ : XS) (v1 : Int32) (v2 : Int32) (v3 : Int32) : Prop := (((x_en σ) ≤ v3 → post v2 σ) ∧ (¬ (x_en σ) ≤ v3 → wX_isStored n lim σ v3 (fun r14 σ14 => ((r14 = 0 → rc σ14 v1 v2 (v3 + 1)) ∧ (¬ r14 = 0 → (vp_in v3 n ∧ (((x_z σ14 v3.toNatClampNeg) < v1 → rc σ14 v1 v2 (v3 + 1)) ∧ (¬ (x_z σ14 v3.toNatClampNeg) < v1 → ((v2 = (-1) → rc σ14 v1 v3 (v3 + 1)) ∧ (¬ v2 = (-1) → wX_isBetter n lim σ14 v3 v2 (fun r38 σ38 => ((r38 = 0 → rc σ38 v1 v2 (v3 + 1)) ∧ (¬ r38 = 0 → rc σ38 v1 v3 (v3 + 1))))))))))))))
def wX_bestStored_4 (n : Nat) (lim : Int32) (post : Int32 → XS → Prop) : Nat → XS → Int32 → Int32 → Int32 → Prop
  | 0 => fun _ _ _ _  => False
  | f + 1 => wX_bestStored_4_s n lim post (wX_bestStored_4 n lim post f)
def wX_bestStored (n : Nat) (lim : Int32) (σ : XS) (v1 : Int32) (post : Int32 → XS → Prop) : Prop := (∃ f : Nat, wX_bestStored_4 n lim post f σ v1 (-1) 0)
def wX_lift_34 (n : Nat) (lim : Int32) (σ : XS) (v1 : Int32) (v2 : Int32) (post : Int32 → XS → Prop) : Prop := ((¬ v1 = (x_tp σ) → post v2 σ) ∧ (v1 = (x_tp σ) → post v2 (x_stp σ (-1))))
def wX_lift (n : Nat) (lim : Int32) (σ : XS) (v1 : Int32) (post : Int32 → XS → Prop) : Prop := (vp_in v1 n ∧ (vp_in v1 n ∧ (vp_in v1 n ∧ ((¬ v1 = (x_vi (x_st (x_sz σ (upd (x_z σ) v1.toNatClampNeg 0)) (upd (x_t (x_sz σ (upd (x_z σ) v1.toNatClampNeg 0))) v1.toNatClampNeg (-1)))) → wX_lift_34 n lim (x_st (x_sz σ (upd (x_z σ) v1.toNatClampNeg 0)) (upd (x_t (x_sz σ (upd (x_z σ) v1.toNatClampNeg 0))) v1.toNatClampNeg (-1))) v1 (x_z σ v1.toNatClampNeg) post) ∧ (v1 = (x_vi (x_st (x_sz σ (upd (x_z σ) v1.toNatClampNeg 0)) (upd (x_t (x_sz σ (upd (x_z σ) v1.toNatClampNeg 0))) v1.toNatClampNeg (-1)))) → wX_lift_34 n lim (x_svi (x_st (x_sz σ (upd (x_z σ) v1.toNatClampNeg 0)) (upd (x_t (x_sz σ (upd (x_z σ) v1.toNatClampNeg 0))) v1.toNatClampNeg (-1))) (-1)) v1 (x_z σ v1.toNatClampNeg) post)))))
def wX_lay_66 (n : Nat) (lim : Int32) (σ : XS) (v1 : Int32) (k1 : Int32) (k0 : Int32) (post : XS → Prop) : Prop := (vp_in k1 n ∧ (vp_in v1 n ∧ post (x_sr (x_sla (x_st σ (upd (x_t σ) k1.toNatClampNeg k0)) ((x_la (x_st σ (upd (x_t σ) k1.toNatClampNeg k0))) + 1)) (upd (x_r (x_sla (x_st σ (upd (x_t σ) k1.toNatClampNeg k0)) ((x_la (x_st σ (upd (x_t σ) k1.toNatClampNeg k0))) + 1))) v1.toNatClampNeg (x_la (x_sla (x_st σ (upd (x_t σ) k1.toNatClampNeg k0)) ((x_la (x_st σ (upd (x_t σ) k1.toNatClampNeg k0))) + 1)))))))
def wX_lay_50 (n : Nat) (lim : Int32) (σ : XS) (v1 : Int32) (v2 : Int32) (post : XS → Prop) : Prop := ((16 ≤ v2 → wX_lay_66 n lim σ v1 v1 2 post) ∧ (¬ 16 ≤ v2 → wX_lay_66 n lim σ v1 v1 1 post))
def wX_lay (n : Nat) (lim : Int32) (σ : XS) (v1 : Int32) (v2 : Int32) (v3 : Int32) (post : XS → Prop) : Prop := (vp_in v1 n ∧ (vp_in v1 n ∧ ((¬ v3 = 4 → ((¬ v3 = 3 → ((v3 = 1 → wX_lay_50 n lim (x_st (x_sz σ (upd (x_z σ) v1.toNatClampNeg v2)) (upd (x_t (x_sz σ (upd (x_z σ) v1.toNatClampNeg v2))) v1.toNatClampNeg v3)) v1 v2 post) ∧ (¬ v3 = 1 → ((¬ v3 = 2 → post (x_st (x_sz σ (upd (x_z σ) v1.toNatClampNeg v2)) (upd (x_t (x_sz σ (upd (x_z σ) v1.toNatClampNeg v2))) v1.toNatClampNeg v3))) ∧ (v3 = 2 → wX_lay_50 n lim (x_st (x_sz σ (upd (x_z σ) v1.toNatClampNeg v2)) (upd (x_t (x_sz σ (upd (x_z σ) v1.toNatClampNeg v2))) v1.toNatClampNeg v3)) v1 v2 post))))) ∧ (v3 = 3 → post (x_svi (x_st (x_sz σ (upd (x_z σ) v1.toNatClampNeg v2)) (upd (x_t (x_sz σ (upd (x_z σ) v1.toNatClampNeg v2))) v1.toNatClampNeg v3)) v1)))) ∧ (v3 = 4 → post (x_stp (x_st (x_sz σ (upd (x_z σ) v1.toNatClampNeg v2)) (upd (x_t (x_sz σ (upd (x_z σ) v1.toNatClampNeg v2))) v1.toNatClampNeg v3)) v1)))))
def wX_cut (n : Nat) (lim : Int32) (σ : XS) (v1 : Int32) (v2 : Int32) (v3 : Int32) (post : Int32 → XS → Prop) : Prop := wX_lift n lim σ v1 (fun r2 σ2 => ((2 ≤ (r2 - v2) → wX_lay n lim σ2 v1 v2 0 (fun σ34 => wX_lay n lim σ34 (v1 + v2) (r2 - v2) v3 (fun σ44 => post v1 σ44))) ∧ (¬ 2 ≤ (r2 - v2) → wX_lay n lim σ2 v1 r2 0 (fun σ24 => post v1 σ24))))
def wX_sizeAt (n : Nat) (lim : Int32) (σ : XS) (v1 : Int32) (post : Int32 → XS → Prop) : Prop := ((¬ v1 = (-1) → (vp_in v1 n ∧ post (x_z σ v1.toNatClampNeg) σ)) ∧ (v1 = (-1) → post 0 σ))
def wX_cutForVictim (n : Nat) (lim : Int32) (σ : XS) (v1 : Int32) (v2 : Int32) (post : Int32 → XS → Prop) : Prop := wX_cut n lim σ v1 v2 3 (fun r9 σ9 => (((x_vi σ) = (-1) → post v1 σ9) ∧ (¬ (x_vi σ) = (-1) → (((x_vi σ) = (x_vi σ9) → post v1 σ9) ∧ (¬ (x_vi σ) = (x_vi σ9) → (vp_in (x_vi σ) n ∧ wX_lay n lim σ9 (x_vi σ) (x_z σ9 (x_vi σ).toNatClampNeg) 2 (fun σ35 => post v1 σ35)))))))
def wX_takeSmall_41 (n : Nat) (lim : Int32) (σ : XS) (v1 : Int32) (v2 : Int32) (post : Int32 → XS → Prop) : Prop := wX_sizeAt n lim σ (x_vi σ) (fun r46 σ46 => ((r46 < v1 → ((¬ v2 = (-1) → wX_cutForVictim n lim σ46 v2 v1 (fun r76 σ76 => post r76 σ76)) ∧ (v2 = (-1) → post (-1) σ46))) ∧ (¬ r46 < v1 → wX_cut n lim σ46 (x_vi σ46) v1 3 (fun r60 σ60 => post r60 σ60))))
def wX_takeSmall (n : Nat) (lim : Int32) (σ : XS) (v1 : Int32) (post : Int32 → XS → Prop) : Prop := wX_bestStored n lim σ v1 (fun r2 σ2 => ((r2 = (-1) → wX_takeSmall_41 n lim σ2 v1 r2 post) ∧ (¬ r2 = (-1) → (vp_in r2 n ∧ ((¬ (x_t σ2 r2.toNatClampNeg) = 1 → wX_takeSmall_41 n lim σ2 v1 r2 post) ∧ ((x_t σ2 r2.toNatClampNeg) = 1 → (vp_in r2 n ∧ ((2 ≤ ((x_z σ2 r2.toNatClampNeg) - v1) → wX_takeSmall_41 n lim σ2 v1 r2 post) ∧ (¬ 2 ≤ ((x_z σ2 r2.toNatClampNeg) - v1) → wX_cut n lim σ2 r2 v1 2 (fun r37 σ37 => post r37 σ37))))))))))
def wX_takeLarge_59 (n : Nat) (lim : Int32) (σ : XS) (v1 : Int32) (v3 : Int32) (post : Int32 → XS → Prop) : Prop := ((v3 = 0 → post (-1) σ) ∧ (¬ v3 = 0 → wX_cut n lim σ (x_vi σ) v1 3 (fun r70 σ70 => post r70 σ70)))
def wX_takeLarge_51 (n : Nat) (lim : Int32) (σ : XS) (v1 : Int32) (v2 : Int32) (post : Int32 → XS → Prop) : Prop := wX_cut n lim σ v2 v1 2 (fun r55 σ55 => post r55 σ55)
def wX_takeLarge_23 (n : Nat) (lim : Int32) (σ : XS) (v1 : Int32) (v2 : Int32) (k0 : Int32) (post : Int32 → XS → Prop) : Prop := ((v2 = (-1) → wX_takeLarge_59 n lim σ v1 k0 post) ∧ (¬ v2 = (-1) → ((k0 = 0 → wX_takeLarge_51 n lim σ v1 v2 post) ∧ (¬ k0 = 0 → (vp_in v2 n ∧ (vp_in (x_vi σ) n ∧ (((x_z σ (x_vi σ).toNatClampNeg) ≤ (x_z σ v2.toNatClampNeg) → wX_takeLarge_59 n lim σ v1 k0 post) ∧ (¬ (x_z σ (x_vi σ).toNatClampNeg) ≤ (x_z σ v2.toNatClampNeg) → wX_takeLarge_51 n lim σ v1 v2 post))))))))
def wX_takeLarge (n : Nat) (lim : Int32) (σ : XS) (v1 : Int32) (post : Int32 → XS → Prop) : Prop := wX_bestStored n lim σ v1 (fun r2 σ2 => wX_sizeAt n lim σ2 (x_vi σ2) (fun r11 σ11 => ((r11 < v1 → wX_takeLarge_23 n lim σ11 v1 r2 0 post) ∧ (¬ r11 < v1 → wX_takeLarge_23 n lim σ11 v1 r2 1 post))))
def wX_grow_47 (n : Nat) (lim : Int32) (σ : XS) (v2 : Int32) (k0 : Int32) (post : Int32 → XS → Prop) : Prop := wX_sizeAt n lim σ (x_tp σ) (fun r53 σ53 => ((¬ ((x_en σ53) + v2) < (x_en σ53) ∧ ¬ (x_en σ53) < 0 ∧ ¬ nI n < ((x_en σ53) + v2) ∧ n < 2 ^ 31) ∧ wX_lay n lim (x_sen (x_su σ53 (x_fl (x_u σ53) (x_en σ53).toNatClampNeg ((x_en σ53) + v2).toNatClampNeg 0)) ((x_en (x_su σ53 (x_fl (x_u σ53) (x_en σ53).toNatClampNeg ((x_en σ53) + v2).toNatClampNeg 0))) + v2)) k0 (r53 + v2) 4 (fun σ93 => post 1 σ93)))
def wX_grow (n : Nat) (lim : Int32) (σ : XS) (v1 : Int32) (post : Int32 → XS → Prop) : Prop := ((((x_en σ) + ((((v1 + 16) - 1) / 16) * 16)) ≤ lim → ((¬ (x_tp σ) = (-1) → wX_grow_47 n lim σ ((((v1 + 16) - 1) / 16) * 16) (x_tp σ) post) ∧ ((x_tp σ) = (-1) → wX_grow_47 n lim σ ((((v1 + 16) - 1) / 16) * 16) (x_en σ) post))) ∧ (¬ ((x_en σ) + ((((v1 + 16) - 1) / 16) * 16)) ≤ lim → post 0 σ))
def wX_takeFromTop_25 (n : Nat) (lim : Int32) (σ : XS) (v1 : Int32) (post : Int32 → XS → Prop) : Prop := wX_cut n lim σ (x_tp σ) v1 4 (fun r32 σ32 => post r32 σ32)
def wX_takeFromTop (n : Nat) (lim : Int32) (σ : XS) (v1 : Int32) (post : Int32 → XS → Prop) : Prop := wX_sizeAt n lim σ (x_tp σ) (fun r6 σ6 => (((v1 - r6) ≤ 0 → wX_takeFromTop_25 n lim σ6 v1 post) ∧ (¬ (v1 - r6) ≤ 0 → wX_grow n lim σ6 (v1 - r6) (fun r17 σ17 => ((¬ r17 = 0 → wX_takeFromTop_25 n lim σ17 v1 post) ∧ (r17 = 0 → post (-1) σ17))))))
def wX_take_19 (n : Nat) (lim : Int32) (σ : XS) (v1 : Int32) (k0 : Int32) (post : Int32 → XS → Prop) : Prop := ((k0 = (-1) → wX_takeFromTop n lim σ v1 (fun r31 σ31 => post r31 σ31)) ∧ (¬ k0 = (-1) → post k0 σ))
def wX_take (n : Nat) (lim : Int32) (σ : XS) (v1 : Int32) (post : Int32 → XS → Prop) : Prop := ((16 ≤ v1 → wX_takeLarge n lim σ v1 (fun r16 σ16 => wX_take_19 n lim σ16 v1 r16 post)) ∧ (¬ 16 ≤ v1 → wX_takeSmall n lim σ v1 (fun r8 σ8 => wX_take_19 n lim σ8 v1 r8 post)))
def wX_pointerTo (n : Nat) (lim : Int32) (σ : XS) (v0 : Int32) (post : Int32 → XS → Prop) : Prop := ((¬ v0 = (-1) → post (v0 + 1) σ) ∧ (v0 = (-1) → post 0 σ))
def wX_malloc (n : Nat) (lim : Int32) (σ : XS) (v1 : Int32) (post : Int32 → XS → Prop) : Prop := ((v1 ≤ 511 → wX_unitsFor n lim σ v1 (fun r11 σ11 => wX_take n lim σ11 r11 (fun r14 σ14 => wX_pointerTo n lim σ14 r14 (fun r17 σ17 => post r17 σ17)))) ∧ (¬ v1 ≤ 511 → post 0 σ))
def wX_isChunk (n : Nat) (lim : Int32) (σ : XS) (v1 : Int32) (post : Int32 → XS → Prop) : Prop := ((v1 < 0 → post 0 σ) ∧ (¬ v1 < 0 → (((x_en σ) ≤ v1 → post 0 σ) ∧ (¬ (x_en σ) ≤ v1 → (vp_in v1 n ∧ (((x_t σ v1.toNatClampNeg) = (-1) → post 0 σ) ∧ (¬ (x_t σ v1.toNatClampNeg) = (-1) → post 1 σ)))))))
def wX_isPointer (n : Nat) (lim : Int32) (σ : XS) (v1 : Int32) (post : Int32 → XS → Prop) : Prop := wX_isChunk n lim σ (v1 - 1) (fun r4 σ4 => ((r4 = 0 → post 0 σ4) ∧ (¬ r4 = 0 → (vp_in (v1 - 1) n ∧ ((¬ (x_t σ4 (v1 - 1).toNatClampNeg) = 0 → post 0 σ4) ∧ ((x_t σ4 (v1 - 1).toNatClampNeg) = 0 → post 1 σ4))))))
def wX_usable (n : Nat) (lim : Int32) (σ : XS) (v1 : Int32) (post : Int32 → XS → Prop) : Prop := wX_isPointer n lim σ v1 (fun r2 σ2 => ((r2 = 0 → post 0 σ2) ∧ (¬ r2 = 0 → (vp_in (v1 - 1) n ∧ post ((x_z σ2 (v1 - 1).toNatClampNeg) - 1) σ2))))
def wX_calloc (n : Nat) (lim : Int32) (σ : XS) (v1 : Int32) (post : Int32 → XS → Prop) : Prop := wX_malloc n lim σ v1 (fun r2 σ2 => wX_isPointer n lim σ2 r2 (fun r8 σ8 => ((r8 = 0 → post r2 σ8) ∧ (¬ r8 = 0 → wX_usable n lim σ8 r2 (fun r22 σ22 => ((¬ (r2 + r22) < r2 ∧ ¬ r2 < 0 ∧ ¬ nI n < (r2 + r22) ∧ n < 2 ^ 31) ∧ post r2 (x_su σ22 (x_fl (x_u σ22) r2.toNatClampNeg (r2 + r22).toNatClampNeg 0))))))))
def wX_chunkBefore_4_s (n : Nat) (lim : Int32) (post : Int32 → XS → Prop) (rc : XS → Int32 → Prop) (σ : XS) (v2 : Int32) : Prop := ((v2 < 0 → post (-1) σ) ∧ (¬ v2 < 0 → (vp_in v2 n ∧ (((x_t σ v2.toNatClampNeg) = (-1) → rc σ (v2 + (-1))) ∧ (¬ (x_t σ v2.toNatClampNeg) = (-1) → post v2 σ)))))
def wX_chunkBefore_4 (n : Nat) (lim : Int32) (post : Int32 → XS → Prop) : Nat → XS → Int32 → Prop
  | 0 => fun _ _  => False
  | f + 1 => wX_chunkBefore_4_s n lim post (wX_chunkBefore_4 n lim post f)
def wX_chunkBefore (n : Nat) (lim : Int32) (σ : XS) (v1 : Int32) (post : Int32 → XS → Prop) : Prop := (∃ f : Nat, wX_chunkBefore_4 n lim post f σ (v1 - 1))
def wX_isFree (n : Nat) (lim : Int32) (σ : XS) (v1 : Int32) (post : Int32 → XS → Prop) : Prop := wX_isChunk n lim σ v1 (fun r2 σ2 => ((r2 = 0 → post 0 σ2) ∧ (¬ r2 = 0 → (vp_in v1 n ∧ (((x_t σ2 v1.toNatClampNeg) = 0 → post 0 σ2) ∧ (¬ (x_t σ2 v1.toNatClampNeg) = 0 → post 1 σ2))))))
def wX_release_95 (n : Nat) (lim : Int32) (σ : XS) (v4 : Int32) (v5 : Int32) (v6 : Int32) (post : XS → Prop) : Prop := ((¬ (v5 + v6) = (x_en σ) → ((v4 = 0 → wX_lay n lim σ v5 v6 2 (fun σ134 => post σ134)) ∧ (¬ v4 = 0 → wX_lay n lim σ v5 v6 3 (fun σ134 => post σ134)))) ∧ ((v5 + v6) = (x_en σ) → wX_lay n lim σ v5 v6 4 (fun σ113 => post σ113)))
def wX_release_74 (n : Nat) (lim : Int32) (σ : XS) (v2 : Int32) (v4 : Int32) (v5 : Int32) (v6 : Int32) (post : XS → Prop) : Prop := wX_isFree n lim σ v2 (fun r76 σ76 => ((r76 = 0 → wX_release_95 n lim σ76 v4 v5 v6 post) ∧ (¬ r76 = 0 → wX_lift n lim σ76 v2 (fun r86 σ86 => wX_release_95 n lim σ86 v4 v2 (v6 + r86) post))))
def wX_release_44 (n : Nat) (lim : Int32) (σ : XS) (v1 : Int32) (v2 : Int32) (v3 : Int32) (k0 : Int32) (post : XS → Prop) : Prop := wX_lift n lim σ v1 (fun r51 σ51 => wX_isFree n lim σ51 v3 (fun r58 σ58 => ((r58 = 0 → wX_release_74 n lim σ58 v2 k0 v1 r51 post) ∧ (¬ r58 = 0 → wX_lift n lim σ58 v3 (fun r68 σ68 => wX_release_74 n lim σ68 v2 k0 v1 (r51 + r68) post)))))
def wX_release (n : Nat) (lim : Int32) (σ : XS) (v1 : Int32) (post : XS → Prop) : Prop := wX_chunkBefore n lim σ v1 (fun r2 σ2 => (vp_in v1 n ∧ (((x_vi σ2) = (-1) → wX_release_44 n lim σ2 v1 r2 (v1 + (x_z σ2 v1.toNatClampNeg)) 0 post) ∧ (¬ (x_vi σ2) = (-1) → (((x_vi σ2) = r2 → wX_release_44 n lim σ2 v1 r2 (v1 + (x_z σ2 v1.toNatClampNeg)) 1 post) ∧ (¬ (x_vi σ2) = r2 → ((¬ (x_vi σ2) = (v1 + (x_z σ2 v1.toNatClampNeg)) → wX_release_44 n lim σ2 v1 r2 (v1 + (x_z σ2 v1.toNatClampNeg)) 0 post) ∧ ((x_vi σ2) = (v1 + (x_z σ2 v1.toNatClampNeg)) → wX_release_44 n lim σ2 v1 r2 (v1 + (x_z σ2 v1.toNatClampNeg)) 1 post))))))))
def wX_free (n : Nat) (lim : Int32) (σ : XS) (v1 : Int32) (post : Int32 → XS → Prop) : Prop := wX_isPointer n lim σ v1 (fun r2 σ2 => ((¬ r2 = 0 → wX_release n lim σ2 (v1 - 1) (fun σ14 => post 1 σ14)) ∧ (r2 = 0 → post 0 σ2)))
def wX_shorten (n : Nat) (lim : Int32) (σ : XS) (v1 : Int32) (v2 : Int32) (post : XS → Prop) : Prop := (vp_in v1 n ∧ ((((x_z σ v1.toNatClampNeg) - v2) < 2 → post σ) ∧ (¬ ((x_z σ v1.toNatClampNeg) - v2) < 2 → wX_cut n lim σ v1 v2 0 (fun r16 σ16 => wX_release n lim σ16 (v1 + v2) (fun σ24 => post σ24)))))
def wX_lengthen_64 (n : Nat) (lim : Int32) (σ : XS) (v1 : Int32) (v2 : Int32) (v3 : Int32) (v4 : Int32) (post : Int32 → XS → Prop) : Prop := wX_isFree n lim σ v3 (fun r66 σ66 => ((r66 = 0 → post 0 σ66) ∧ (¬ r66 = 0 → (vp_in v3 n ∧ ((v4 ≤ (x_z σ66 v3.toNatClampNeg) → (vp_in v3 n ∧ (vp_in v1 n ∧ wX_lift n lim σ66 v3 (fun r102 σ102 => (vp_in v1 n ∧ wX_cut n lim (x_sz σ102 (upd (x_z σ102) v1.toNatClampNeg ((x_z σ66 v1.toNatClampNeg) + r102))) v1 v2 (x_t σ66 v3.toNatClampNeg) (fun r112 σ112 => post 1 σ112)))))) ∧ (¬ v4 ≤ (x_z σ66 v3.toNatClampNeg) → post 0 σ66))))))
def wX_lengthen_35 (n : Nat) (lim : Int32) (σ : XS) (v1 : Int32) (v2 : Int32) (v3 : Int32) (v4 : Int32) (post : Int32 → XS → Prop) : Prop := wX_sizeAt n lim σ (x_tp σ) (fun r42 σ42 => (((v4 - r42) ≤ 0 → wX_lengthen_64 n lim σ42 v1 v2 v3 v4 post) ∧ (¬ (v4 - r42) ≤ 0 → wX_grow n lim σ42 (v4 - r42) (fun r56 σ56 => ((¬ r56 = 0 → wX_lengthen_64 n lim σ56 v1 v2 v3 v4 post) ∧ (r56 = 0 → post 0 σ56))))))
def wX_lengthen (n : Nat) (lim : Int32) (σ : XS) (v1 : Int32) (v2 : Int32) (post : Int32 → XS → Prop) : Prop := (vp_in v1 n ∧ (vp_in v1 n ∧ (((v1 + (x_z σ v1.toNatClampNeg)) = (x_en σ) → wX_lengthen_35 n lim σ v1 v2 (v1 + (x_z σ v1.toNatClampNeg)) (v2 - (x_z σ v1.toNatClampNeg)) post) ∧ (¬ (v1 + (x_z σ v1.toNatClampNeg)) = (x_en σ) → ((¬ (v1 + (x_z σ v1.toNatClampNeg)) = (x_tp σ) → wX_lengthen_64 n lim σ v1 v2 (v1 + (x_z σ v1.toNatClampNeg)) (v2 - (x_z σ v1.toNatClampNeg)) post) ∧ ((v1 + (x_z σ v1.toNatClampNeg)) = (x_tp σ) → wX_lengthen_35 n lim σ v1 v2 (v1 + (x_z σ v1.toNatClampNeg)) (v2 - (x_z σ v1.toNatClampNeg)) post))))))
def wX_move (n : Nat) (lim : Int32) (σ : XS) (v1 : Int32) (v2 : Int32) (post : Int32 → XS → Prop) : Prop := wX_take n lim σ v2 (fun r2 σ2 => ((r2 = (-1) → post r2 σ2) ∧ (¬ r2 = (-1) → (vp_in v1 n ∧ ((¬ (v1 + 1) < 0 ∧ ¬ (r2 + 1) < 0 ∧ ¬ ((x_z σ2 v1.toNatClampNeg) - 1) < 0 ∧ (v1 + 1).toNatClampNeg + ((x_z σ2 v1.toNatClampNeg) - 1).toNatClampNeg ≤ n ∧ (r2 + 1).toNatClampNeg + ((x_z σ2 v1.toNatClampNeg) - 1).toNatClampNeg ≤ n) ∧ wX_release n lim (x_su σ2 (va_cpy (x_u σ2) (x_u σ2) (v1 + 1).toNatClampNeg (r2 + 1).toNatClampNeg ((x_z σ2 v1.toNatClampNeg) - 1).toNatClampNeg)) v1 (fun σ38 => post r2 σ38))))))
def wX_realloc (n : Nat) (lim : Int32) (σ : XS) (v1 : Int32) (v2 : Int32) (post : Int32 → XS → Prop) : Prop := wX_isPointer n lim σ v1 (fun r2 σ2 => ((r2 = 0 → post 0 σ2) ∧ (¬ r2 = 0 → ((v2 ≤ 511 → wX_unitsFor n lim σ2 v2 (fun r22 σ22 => (vp_in (v1 - 1) n ∧ (((x_z σ22 (v1 - 1).toNatClampNeg) < r22 → wX_lengthen n lim σ22 (v1 - 1) r22 (fun r51 σ51 => ((r51 = 0 → wX_move n lim σ51 (v1 - 1) r22 (fun r65 σ65 => wX_pointerTo n lim σ65 r65 (fun r68 σ68 => post r68 σ68))) ∧ (¬ r51 = 0 → post v1 σ51)))) ∧ (¬ (x_z σ22 (v1 - 1).toNatClampNeg) < r22 → wX_shorten n lim σ22 (v1 - 1) r22 (fun σ42 => post v1 σ42)))))) ∧ (¬ v2 ≤ 511 → post 0 σ2)))))
def wX_isAlignment (n : Nat) (lim : Int32) (σ : XS) (v0 : Int32) (post : Int32 → XS → Prop) : Prop := ((v0 = 2 → post 1 σ) ∧ (¬ v0 = 2 → ((v0 = 4 → post 1 σ) ∧ (¬ v0 = 4 → ((v0 = 8 → post 1 σ) ∧ (¬ v0 = 8 → ((¬ v0 = 16 → post 0 σ) ∧ (v0 = 16 → post 1 σ))))))))
def wX_unitsInFront (n : Nat) (lim : Int32) (σ : XS) (v0 : Int32) (v1 : Int32) (post : Int32 → XS → Prop) : Prop := (¬ v1 = 0 ∧ ((¬ (v0 - v0 / v1 * v1) = 0 → ((2 ≤ (v1 - (v0 - v0 / v1 * v1)) → post (v1 - (v0 - v0 / v1 * v1)) σ) ∧ (¬ 2 ≤ (v1 - (v0 - v0 / v1 * v1)) → post ((v1 - (v0 - v0 / v1 * v1)) + v1) σ))) ∧ ((v0 - v0 / v1 * v1) = 0 → post 0 σ)))
def wX_align_71 (n : Nat) (lim : Int32) (σ : XS) (v3 : Int32) (v4 : Int32) (v5 : Int32) (post : Int32 → XS → Prop) : Prop := wX_shorten n lim σ (v4 + v5) v3 (fun σ78 => wX_pointerTo n lim σ78 (v4 + v5) (fun r86 σ86 => post r86 σ86))
def wX_align (n : Nat) (lim : Int32) (σ : XS) (v1 : Int32) (v2 : Int32) (post : Int32 → XS → Prop) : Prop := ((511 < v1 → post 0 σ) ∧ (¬ 511 < v1 → wX_isAlignment n lim σ v2 (fun r8 σ8 => ((¬ r8 = 0 → wX_unitsFor n lim σ8 v1 (fun r17 σ17 => wX_take n lim σ17 ((r17 + v2) + 2) (fun r27 σ27 => ((¬ r27 = (-1) → wX_unitsInFront n lim σ27 (r27 + 1) v2 (fun r45 σ45 => ((r45 ≤ 0 → wX_align_71 n lim σ45 r17 r27 r45 post) ∧ (¬ r45 ≤ 0 → wX_cut n lim σ45 r27 r45 0 (fun r61 σ61 => wX_release n lim σ61 r27 (fun σ68 => wX_align_71 n lim σ68 r17 r27 r45 post)))))) ∧ (r27 = (-1) → post 0 σ27))))) ∧ (r8 = 0 → post 0 σ8)))))
def wX_shrinkTop (n : Nat) (lim : Int32) (σ : XS) (v1 : Int32) (post : XS → Prop) : Prop := wX_lift n lim σ (x_tp σ) (fun r10 σ10 => (((r10 - v1) ≤ 0 → post (x_sen σ10 ((x_en σ10) - v1))) ∧ (¬ (r10 - v1) ≤ 0 → wX_lay n lim (x_sen σ10 ((x_en σ10) - v1)) (x_tp σ) (r10 - v1) 4 (fun σ34 => post σ34))))
def wX_trim_44 (n : Nat) (lim : Int32) (σ : XS) (v4 : Int32) (post : Int32 → XS → Prop) : Prop := wX_shrinkTop n lim σ v4 (fun σ47 => post v4 σ47)
def wX_trim (n : Nat) (lim : Int32) (σ : XS) (v1 : Int32) (post : Int32 → XS → Prop) : Prop := wX_sizeAt n lim σ (x_tp σ) (fun r5 σ5 => ((16 ≤ (r5 - (if v1 < 0 then 0 else v1)) → ((¬ (r5 - ((r5 - (if v1 < 0 then 0 else v1)) - ((r5 - (if v1 < 0 then 0 else v1)) - (r5 - (if v1 < 0 then 0 else v1)) / 16 * 16))) = 1 → wX_trim_44 n lim σ5 ((r5 - (if v1 < 0 then 0 else v1)) - ((r5 - (if v1 < 0 then 0 else v1)) - (r5 - (if v1 < 0 then 0 else v1)) / 16 * 16)) post) ∧ ((r5 - ((r5 - (if v1 < 0 then 0 else v1)) - ((r5 - (if v1 < 0 then 0 else v1)) - (r5 - (if v1 < 0 then 0 else v1)) / 16 * 16))) = 1 → wX_trim_44 n lim σ5 (((r5 - (if v1 < 0 then 0 else v1)) - ((r5 - (if v1 < 0 then 0 else v1)) - (r5 - (if v1 < 0 then 0 else v1)) / 16 * 16)) + (-16)) post))) ∧ (¬ 16 ≤ (r5 - (if v1 < 0 then 0 else v1)) → post 0 σ5)))
def wX_hasData (n : Nat) (lim : Int32) (σ : XS) (v1 : Int32) (v2 : Int32) (post : Int32 → XS → Prop) : Prop := ((v2 < 0 → post 0 σ) ∧ (¬ v2 < 0 → wX_usable n lim σ v1 (fun r7 σ7 => ((r7 ≤ v2 → post 0 σ7) ∧ (¬ r7 ≤ v2 → post 1 σ7)))))
def wX_read (n : Nat) (lim : Int32) (σ : XS) (v1 : Int32) (v2 : Int32) (post : Int32 → XS → Prop) : Prop := wX_hasData n lim σ v1 v2 (fun r3 σ3 => ((r3 = 0 → post 0 σ3) ∧ (¬ r3 = 0 → (vp_in (v1 + v2) n ∧ post (x_u σ3 (v1 + v2).toNatClampNeg) σ3))))
def wX_write (n : Nat) (lim : Int32) (σ : XS) (v1 : Int32) (v2 : Int32) (v3 : Int32) (post : Int32 → XS → Prop) : Prop := wX_hasData n lim σ v1 v2 (fun r3 σ3 => ((¬ r3 = 0 → (vp_in (v1 + v2) n ∧ post 1 (x_su σ3 (upd (x_u σ3) (v1 + v2).toNatClampNeg v3)))) ∧ (r3 = 0 → post 0 σ3)))
def wX_size (n : Nat) (lim : Int32) (σ : XS) (v1 : Int32) (post : Int32 → XS → Prop) : Prop := wX_isChunk n lim σ v1 (fun r2 σ2 => ((r2 = 0 → post (-1) σ2) ∧ (¬ r2 = 0 → (vp_in v1 n ∧ post (x_z σ2 v1.toNatClampNeg) σ2))))
def wX_state (n : Nat) (lim : Int32) (σ : XS) (v1 : Int32) (post : Int32 → XS → Prop) : Prop := wX_isChunk n lim σ v1 (fun r2 σ2 => ((r2 = 0 → post (-1) σ2) ∧ (¬ r2 = 0 → (vp_in v1 n ∧ post (x_t σ2 v1.toNatClampNeg) σ2))))
def wX_isCountedBy (n : Nat) (lim : Int32) (σ : XS) (v1 : Int32) (v2 : Int32) (post : Int32 → XS → Prop) : Prop := ((v1 = 0 → (vp_in v2 n ∧ ((¬ (x_t σ v2.toNatClampNeg) = 0 → post 0 σ) ∧ ((x_t σ v2.toNatClampNeg) = 0 → post 1 σ)))) ∧ (¬ v1 = 0 → ((v1 = 1 → post 1 σ) ∧ (¬ v1 = 1 → ((v1 = 16 → (vp_in v2 n ∧ ((¬ (x_t σ v2.toNatClampNeg) = 2 → post 0 σ) ∧ ((x_t σ v2.toNatClampNeg) = 2 → post 1 σ)))) ∧ (¬ v1 = 16 → (vp_in v2 n ∧ ((¬ (x_t σ v2.toNatClampNeg) = 1 → post 0 σ) ∧ ((x_t σ v2.toNatClampNeg) = 1 → (vp_in v2 n ∧ ((¬ (x_z σ v2.toNatClampNeg) = v1 → post 0 σ) ∧ ((x_z σ v2.toNatClampNeg) = v1 → post 1 σ))))))))))))
def wX_count_16_s (n : Nat) (lim : Int32) (post : Int32 → XS → Prop) (rc : XS → Int32 → Int32 → Int32 → Prop) (σ : XS) (v1 : Int32) (v2 : Int32) (v3 : Int32) : Prop := (((x_en σ) ≤ v3 → post v2 σ) ∧ (¬ (x_en σ) ≤ v3 → (vp_in v3 n ∧ (((x_t σ v3.toNatClampNeg) = (-1) → rc σ v1 v2 (v3 + 1)) ∧ (¬ (x_t σ v3.toNatClampNeg) = (-1) → wX_isCountedBy n lim σ v1 v3 (fun r37 σ37 => ((r37 = 0 → rc σ37 v1 v2 (v3 + 1)) ∧ (¬ r37 = 0 → rc σ37 v1 (v2 + 1) (v3 + 1)))))))))
def wX_count_16 (n : Nat) (lim : Int32) (post : Int32 → XS → Prop) : Nat → XS → Int32 → Int32 → Int32 → Prop
  | 0 => fun _ _ _ _  => False
  | f + 1 => wX_count_16_s n lim post (wX_count_16 n lim post f)
def wX_count (n : Nat) (lim : Int32) (σ : XS) (v1 : Int32) (post : Int32 → XS → Prop) : Prop := ((v1 < 0 → post (-1) σ) ∧ (¬ v1 < 0 → ((v1 ≤ 16 → (∃ f : Nat, wX_count_16 n lim post f σ v1 0 0)) ∧ (¬ v1 ≤ 16 → post (-1) σ))))
def wX_end (n : Nat) (lim : Int32) (σ : XS) (post : Int32 → XS → Prop) : Prop := post (x_en σ) σ
def wX_total_15_s (n : Nat) (lim : Int32) (post : Int32 → XS → Prop) (rc : XS → Int32 → Int32 → Int32 → Prop) (σ : XS) (v1 : Int32) (v2 : Int32) (v3 : Int32) : Prop := (((x_en σ) ≤ v3 → post v2 σ) ∧ (¬ (x_en σ) ≤ v3 → (vp_in v3 n ∧ ((¬ (x_t σ v3.toNatClampNeg) = v1 → rc σ v1 v2 (v3 + 1)) ∧ ((x_t σ v3.toNatClampNeg) = v1 → (vp_in v3 n ∧ rc σ v1 (v2 + (x_z σ v3.toNatClampNeg)) (v3 + 1)))))))
def wX_total_15 (n : Nat) (lim : Int32) (post : Int32 → XS → Prop) : Nat → XS → Int32 → Int32 → Int32 → Prop
  | 0 => fun _ _ _ _  => False
  | f + 1 => wX_total_15_s n lim post (wX_total_15 n lim post f)
def wX_total (n : Nat) (lim : Int32) (σ : XS) (v1 : Int32) (post : Int32 → XS → Prop) : Prop := ((v1 < 0 → post (-1) σ) ∧ (¬ v1 < 0 → ((v1 ≤ 4 → (∃ f : Nat, wX_total_15 n lim post f σ v1 0 0)) ∧ (¬ v1 ≤ 4 → post (-1) σ))))
end
section
set_option maxHeartbeats 4000000 in
set_option maxRecDepth 100000 in
theorem cX_unitsFor (l : Launch) (D : va_G) (ad : XA) (v0 : Int32) : x_Mi l D yX0_unitsFor cX0_unitsFor 1 (some .int) { frames := 1, cells := 0, slots := 0, locals := 30 } ad [.int v0] (fun σ post => wX_unitsFor (x_n ad) (x_lim ad) σ v0 post) := by
  refine x_ofi ⟨by decide, rfl, Nat.le_of_ble_eq_true rfl⟩ (fun {p e s m args below meth c σ A post ls} C Wd hf hl => ?_)
  replace hl : lv_has ls 1 [(0, .int v0)] := hl
  refine lv_iload_n C.1 C.2.1 dX0_unitsFor_0 rfl (lv_at hl 0 rfl) ?_
  refine lv_iconst (v := 1) C.1 C.2.1 dX0_unitsFor_1 (by decide) ?_
  refine x_mmax C hl.1 (Nat.le_of_ble_eq_true rfl) (Nat.le_of_ble_eq_true rfl) (by decide) dX0_unitsFor_2 ?_
  refine lv_iconst (v := 1) C.1 C.2.1 dX0_unitsFor_5 (by decide) ?_
  refine lv_iadd C.1 C.2.1 dX0_unitsFor_6 ?_
  exact x_iret C Wd hf dX0_unitsFor_7
set_option maxHeartbeats 4000000 in
set_option maxRecDepth 100000 in
theorem cX_isStored (l : Launch) (D : va_G) (ad : XA) (v1 : Int32) : x_Mi l D yX0_isStored cX0_isStored 2 (some .boolean) { frames := 0, cells := 0, slots := 0, locals := 0 } ad [.ref (x_h ad), .int v1] (fun σ post => wX_isStored (x_n ad) (x_lim ad) σ v1 post) := by
  refine x_ofi ⟨by decide, rfl, Nat.le_of_ble_eq_true rfl⟩ (fun {p e s m args below meth c σ A post ls} C Wd hf hl => ?_)
  replace hl : lv_has ls 2 [(0, .ref (x_h ad)), (1, .int v1)] := hl
  refine lv_aload_n C.1 C.2.1 dX0_isStored_0 rfl (lv_at hl 0 rfl) ?_
  refine x_get_t C Wd dX0_isStored_1 ?_
  refine lv_iload_n C.1 C.2.1 dX0_isStored_4 rfl (lv_at hl 1 rfl) ?_
  refine x_ald_t C Wd hf.1 dX0_isStored_5 ?_
  replace hf := hf.2
  refine lv_iconst (v := 1) C.1 C.2.1 dX0_isStored_6 (by decide) ?_
  refine lv_icmp_eq (tgt := 20) C.1 C.2.1 dX0_isStored_7 (by decide) (fun hc => ?_) (fun hc => ?_)
  · replace hf := hf.1 hc
    refine lv_iconst (v := 1) C.1 C.2.1 dX0_isStored_20 (by decide) ?_
    refine lv_goto (tgt := 25) C.1 C.2.1 dX0_isStored_21 (by decide) ?_
    exact x_zret C Wd (by decide) hf dX0_isStored_25
  · replace hf := hf.2 hc
    refine lv_aload_n C.1 C.2.1 dX0_isStored_10 rfl (lv_at hl 0 rfl) ?_
    refine x_get_t C Wd dX0_isStored_11 ?_
    refine lv_iload_n C.1 C.2.1 dX0_isStored_14 rfl (lv_at hl 1 rfl) ?_
    refine x_ald_t C Wd hf.1 dX0_isStored_15 ?_
    replace hf := hf.2
    refine lv_iconst (v := 2) C.1 C.2.1 dX0_isStored_16 (by decide) ?_
    refine lv_icmp_ne (tgt := 24) C.1 C.2.1 dX0_isStored_17 (by decide) (fun hc => ?_) (fun hc => ?_)
    · replace hf := hf.1 hc
      refine lv_iconst (v := 0) C.1 C.2.1 dX0_isStored_24 (by decide) ?_
      exact x_zret C Wd (by decide) hf dX0_isStored_25
    · replace hf := hf.2 hc
      refine lv_iconst (v := 1) C.1 C.2.1 dX0_isStored_20 (by decide) ?_
      refine lv_goto (tgt := 25) C.1 C.2.1 dX0_isStored_21 (by decide) ?_
      exact x_zret C Wd (by decide) hf dX0_isStored_25
set_option maxHeartbeats 4000000 in
set_option maxRecDepth 100000 in
theorem cX_isBetter (l : Launch) (D : va_G) (ad : XA) (v1 : Int32) (v2 : Int32) : x_Mi l D yX0_isBetter cX0_isBetter 3 (some .boolean) { frames := 0, cells := 0, slots := 0, locals := 0 } ad [.ref (x_h ad), .int v1, .int v2] (fun σ post => wX_isBetter (x_n ad) (x_lim ad) σ v1 v2 post) := by
  refine x_ofi ⟨by decide, rfl, Nat.le_of_ble_eq_true rfl⟩ (fun {p e s m args below meth c σ A post ls} C Wd hf hl => ?_)
  replace hl : lv_has ls 3 [(0, .ref (x_h ad)), (1, .int v1), (2, .int v2)] := hl
  refine lv_aload_n C.1 C.2.1 dX0_isBetter_0 rfl (lv_at hl 0 rfl) ?_
  refine x_get_z C Wd dX0_isBetter_1 ?_
  refine lv_iload_n C.1 C.2.1 dX0_isBetter_4 rfl (lv_at hl 1 rfl) ?_
  refine x_ald_z C Wd hf.1 dX0_isBetter_5 ?_
  replace hf := hf.2
  refine lv_aload_n C.1 C.2.1 dX0_isBetter_6 rfl (lv_at hl 0 rfl) ?_
  refine x_get_z C Wd dX0_isBetter_7 ?_
  refine lv_iload_n C.1 C.2.1 dX0_isBetter_10 rfl (lv_at hl 2 rfl) ?_
  refine x_ald_z C Wd hf.1 dX0_isBetter_11 ?_
  replace hf := hf.2
  refine lv_icmp_eq (tgt := 36) C.1 C.2.1 dX0_isBetter_12 (by decide) (fun hc => ?_) (fun hc => ?_)
  · replace hf := hf.1 hc
    refine lv_aload_n C.1 C.2.1 dX0_isBetter_36 rfl (lv_at hl 0 rfl) ?_
    refine x_get_r C Wd dX0_isBetter_37 ?_
    refine lv_iload_n C.1 C.2.1 dX0_isBetter_40 rfl (lv_at hl 1 rfl) ?_
    refine x_ald_r C Wd hf.1 dX0_isBetter_41 ?_
    replace hf := hf.2
    refine lv_aload_n C.1 C.2.1 dX0_isBetter_42 rfl (lv_at hl 0 rfl) ?_
    refine x_get_r C Wd dX0_isBetter_43 ?_
    refine lv_iload_n C.1 C.2.1 dX0_isBetter_46 rfl (lv_at hl 2 rfl) ?_
    refine x_ald_r C Wd hf.1 dX0_isBetter_47 ?_
    replace hf := hf.2
    refine lv_icmp_le (tgt := 55) C.1 C.2.1 dX0_isBetter_48 (by decide) (fun hc => ?_) (fun hc => ?_)
    · replace hf := hf.1 hc
      refine lv_iconst (v := 0) C.1 C.2.1 dX0_isBetter_55 (by decide) ?_
      exact x_zret C Wd (by decide) hf dX0_isBetter_56
    · replace hf := hf.2 hc
      refine lv_iconst (v := 1) C.1 C.2.1 dX0_isBetter_51 (by decide) ?_
      refine lv_goto (tgt := 56) C.1 C.2.1 dX0_isBetter_52 (by decide) ?_
      exact x_zret C Wd (by decide) hf dX0_isBetter_56
  · replace hf := hf.2 hc
    refine lv_aload_n C.1 C.2.1 dX0_isBetter_15 rfl (lv_at hl 0 rfl) ?_
    refine x_get_z C Wd dX0_isBetter_16 ?_
    refine lv_iload_n C.1 C.2.1 dX0_isBetter_19 rfl (lv_at hl 1 rfl) ?_
    refine x_ald_z C Wd hf.1 dX0_isBetter_20 ?_
    replace hf := hf.2
    refine lv_aload_n C.1 C.2.1 dX0_isBetter_21 rfl (lv_at hl 0 rfl) ?_
    refine x_get_z C Wd dX0_isBetter_22 ?_
    refine lv_iload_n C.1 C.2.1 dX0_isBetter_25 rfl (lv_at hl 2 rfl) ?_
    refine x_ald_z C Wd hf.1 dX0_isBetter_26 ?_
    replace hf := hf.2
    refine lv_icmp_ge (tgt := 34) C.1 C.2.1 dX0_isBetter_27 (by decide) (fun hc => ?_) (fun hc => ?_)
    · replace hf := hf.1 hc
      refine lv_iconst (v := 0) C.1 C.2.1 dX0_isBetter_34 (by decide) ?_
      exact x_zret C Wd (by decide) hf dX0_isBetter_35
    · replace hf := hf.2 hc
      refine lv_iconst (v := 1) C.1 C.2.1 dX0_isBetter_30 (by decide) ?_
      refine lv_goto (tgt := 35) C.1 C.2.1 dX0_isBetter_31 (by decide) ?_
      exact x_zret C Wd (by decide) hf dX0_isBetter_35
set_option maxHeartbeats 4000000 in
set_option maxRecDepth 100000 in
theorem bX_bestStored_4_f {p : Program} {l : Launch} {e : Env} {s : State} {m : MethodId} {args : Array Value} {below : List Frame} {meth : Method} {c : Code} {D : va_G} {ad : XA} {A : Nat → Prop} (C : x_C p s m args meth c cX0_bestStored 4 (some .int)) {post : Int32 → XS → Prop} : ∀ (f : Nat) (σ : XS) (H : Heap) (locs : List Loc) (ls : Array Slot) (v1 : Int32) (v2 : Int32) (v3 : Int32), x_W D ad σ A s H locs → wX_bestStored_4 (x_n ad) (x_lim ad) post f σ v1 v2 v3 → lv_has ls 4 [(0, .ref (x_h ad)), (1, .int v1), (2, .int v2), (3, .int v3)] → W p l e { frames := 1, cells := 0, slots := 0, locals := 22 } s m args below meth c H locs 0 0 (x_Qi below D ad A args s post) (F0 m 4 ls []) := by
  intro f
  induction f with
  | zero => intro σ H locs ls v1 v2 v3 Wd hf hl; exact False.elim hf
  | succ f ih =>
    intro σ H locs ls v1 v2 v3 Wd hf hl
    replace hf : wX_bestStored_4_s (x_n ad) (x_lim ad) post (wX_bestStored_4 (x_n ad) (x_lim ad) post f) σ v1 v2 v3 := hf
    refine lv_iload_n C.1 C.2.1 dX0_bestStored_4 rfl (lv_at hl 3 rfl) ?_
    refine lv_aload_n C.1 C.2.1 dX0_bestStored_5 rfl (lv_at hl 0 rfl) ?_
    refine x_get_en C Wd dX0_bestStored_6 ?_
    refine lv_icmp_ge (tgt := 52) C.1 C.2.1 dX0_bestStored_9 (by decide) (fun hc => ?_) (fun hc => ?_)
    · replace hf := hf.1 hc
      refine lv_iload_n C.1 C.2.1 dX0_bestStored_52 rfl (lv_at hl 2 rfl) ?_
      exact x_iret C Wd hf dX0_bestStored_53
    · replace hf := hf.2 hc
      refine lv_aload_n C.1 C.2.1 dX0_bestStored_12 rfl (lv_at hl 0 rfl) ?_
      refine lv_iload_n C.1 C.2.1 dX0_bestStored_13 rfl (lv_at hl 3 rfl) ?_
      refine x_calliv (As := [.int v3]) (rest := []) C Wd (cX_isStored l D ad v3) sX_isStored (by decide) rfl hl.1 rfl (Nat.le_of_ble_eq_true rfl) (by decide) dX0_bestStored_14 hf (fun r14 σ14 H locs hf Wd => ?_)
      refine lv_if_eq (tgt := 46) C.1 C.2.1 dX0_bestStored_17 (by decide) (fun hc => ?_) (fun hc => ?_)
      · replace hf := hf.1 hc
        refine lv_iinc (v := v3 + 1) (lv' := [(3, .int (v3 + 1)), (0, .ref (x_h ad)), (1, .int v1), (2, .int v2)]) C.1 C.2.1 dX0_bestStored_46 hl (k := 3) rfl rfl (by decide) rfl (fun ls hl => ?_)
        refine lv_goto (tgt := 4) C.1 C.2.1 dX0_bestStored_49 (by decide) ?_
        exact ih _ _ _ _ _ _ _  Wd hf (lv_sub hl [1, 2, 3, 0] rfl)
      · replace hf := hf.2 hc
        refine lv_aload_n C.1 C.2.1 dX0_bestStored_20 rfl (lv_at hl 0 rfl) ?_
        refine x_get_z C Wd dX0_bestStored_21 ?_
        refine lv_iload_n C.1 C.2.1 dX0_bestStored_24 rfl (lv_at hl 3 rfl) ?_
        refine x_ald_z C Wd hf.1 dX0_bestStored_25 ?_
        replace hf := hf.2
        refine lv_iload_n C.1 C.2.1 dX0_bestStored_26 rfl (lv_at hl 1 rfl) ?_
        refine lv_icmp_lt (tgt := 46) C.1 C.2.1 dX0_bestStored_27 (by decide) (fun hc => ?_) (fun hc => ?_)
        · replace hf := hf.1 hc
          refine lv_iinc (v := v3 + 1) (lv' := [(3, .int (v3 + 1)), (0, .ref (x_h ad)), (1, .int v1), (2, .int v2)]) C.1 C.2.1 dX0_bestStored_46 hl (k := 3) rfl rfl (by decide) rfl (fun ls hl => ?_)
          refine lv_goto (tgt := 4) C.1 C.2.1 dX0_bestStored_49 (by decide) ?_
          exact ih _ _ _ _ _ _ _  Wd hf (lv_sub hl [1, 2, 3, 0] rfl)
        · replace hf := hf.2 hc
          refine lv_iload_n C.1 C.2.1 dX0_bestStored_30 rfl (lv_at hl 2 rfl) ?_
          refine lv_iconst (v := (-1)) C.1 C.2.1 dX0_bestStored_31 (by decide) ?_
          refine lv_icmp_eq (tgt := 44) C.1 C.2.1 dX0_bestStored_32 (by decide) (fun hc => ?_) (fun hc => ?_)
          · replace hf := hf.1 hc
            refine lv_iload_n C.1 C.2.1 dX0_bestStored_44 rfl (lv_at hl 3 rfl) ?_
            refine lv_istore_n (lv' := [(2, .int v3), (0, .ref (x_h ad)), (1, .int v1), (3, .int v3)]) C.1 C.2.1 dX0_bestStored_45 rfl hl (by decide) rfl (fun ls hl => ?_)
            refine lv_iinc (v := v3 + 1) (lv' := [(3, .int (v3 + 1)), (2, .int v3), (0, .ref (x_h ad)), (1, .int v1)]) C.1 C.2.1 dX0_bestStored_46 hl (k := 3) rfl rfl (by decide) rfl (fun ls hl => ?_)
            refine lv_goto (tgt := 4) C.1 C.2.1 dX0_bestStored_49 (by decide) ?_
            exact ih _ _ _ _ _ _ _  Wd hf (lv_sub hl [2, 3, 1, 0] rfl)
          · replace hf := hf.2 hc
            refine lv_aload_n C.1 C.2.1 dX0_bestStored_35 rfl (lv_at hl 0 rfl) ?_
            refine lv_iload_n C.1 C.2.1 dX0_bestStored_36 rfl (lv_at hl 3 rfl) ?_
            refine lv_iload_n C.1 C.2.1 dX0_bestStored_37 rfl (lv_at hl 2 rfl) ?_
            refine x_calliv (As := [.int v3, .int v2]) (rest := []) C Wd (cX_isBetter l D ad v3 v2) sX_isBetter (by decide) rfl hl.1 rfl (Nat.le_of_ble_eq_true rfl) (by decide) dX0_bestStored_38 hf (fun r38 σ38 H locs hf Wd => ?_)
            refine lv_if_eq (tgt := 46) C.1 C.2.1 dX0_bestStored_41 (by decide) (fun hc => ?_) (fun hc => ?_)
            · replace hf := hf.1 hc
              refine lv_iinc (v := v3 + 1) (lv' := [(3, .int (v3 + 1)), (0, .ref (x_h ad)), (1, .int v1), (2, .int v2)]) C.1 C.2.1 dX0_bestStored_46 hl (k := 3) rfl rfl (by decide) rfl (fun ls hl => ?_)
              refine lv_goto (tgt := 4) C.1 C.2.1 dX0_bestStored_49 (by decide) ?_
              exact ih _ _ _ _ _ _ _  Wd hf (lv_sub hl [1, 2, 3, 0] rfl)
            · replace hf := hf.2 hc
              refine lv_iload_n C.1 C.2.1 dX0_bestStored_44 rfl (lv_at hl 3 rfl) ?_
              refine lv_istore_n (lv' := [(2, .int v3), (0, .ref (x_h ad)), (1, .int v1), (3, .int v3)]) C.1 C.2.1 dX0_bestStored_45 rfl hl (by decide) rfl (fun ls hl => ?_)
              refine lv_iinc (v := v3 + 1) (lv' := [(3, .int (v3 + 1)), (2, .int v3), (0, .ref (x_h ad)), (1, .int v1)]) C.1 C.2.1 dX0_bestStored_46 hl (k := 3) rfl rfl (by decide) rfl (fun ls hl => ?_)
              refine lv_goto (tgt := 4) C.1 C.2.1 dX0_bestStored_49 (by decide) ?_
              exact ih _ _ _ _ _ _ _  Wd hf (lv_sub hl [2, 3, 1, 0] rfl)
theorem bX_bestStored_4 {p : Program} {l : Launch} {e : Env} {s : State} {m : MethodId} {args : Array Value} {below : List Frame} {meth : Method} {c : Code} {D : va_G} {ad : XA} {A : Nat → Prop} (C : x_C p s m args meth c cX0_bestStored 4 (some .int)) {post : Int32 → XS → Prop} {σ : XS} {H : Heap} {locs : List Loc} {ls : Array Slot} {v1 : Int32} {v2 : Int32} {v3 : Int32} (Wd : x_W D ad σ A s H locs) (hf : ∃ f : Nat, wX_bestStored_4 (x_n ad) (x_lim ad) post f σ v1 v2 v3) (hl : lv_has ls 4 [(0, .ref (x_h ad)), (1, .int v1), (2, .int v2), (3, .int v3)]) : W p l e { frames := 1, cells := 0, slots := 0, locals := 22 } s m args below meth c H locs 0 0 (x_Qi below D ad A args s post) (F0 m 4 ls []) := by
  obtain ⟨f, hf⟩ := hf
  exact bX_bestStored_4_f C f σ H locs ls v1 v2 v3 Wd hf hl
set_option maxHeartbeats 4000000 in
set_option maxRecDepth 100000 in
theorem cX_bestStored (l : Launch) (D : va_G) (ad : XA) (v1 : Int32) : x_Mi l D yX0_bestStored cX0_bestStored 4 (some .int) { frames := 1, cells := 0, slots := 0, locals := 22 } ad [.ref (x_h ad), .int v1] (fun σ post => wX_bestStored (x_n ad) (x_lim ad) σ v1 post) := by
  refine x_ofi ⟨by decide, rfl, Nat.le_of_ble_eq_true rfl⟩ (fun {p e s m args below meth c σ A post ls} C Wd hf hl => ?_)
  replace hl : lv_has ls 4 [(0, .ref (x_h ad)), (1, .int v1)] := hl
  refine lv_iconst (v := (-1)) C.1 C.2.1 dX0_bestStored_0 (by decide) ?_
  refine lv_istore_n (lv' := [(2, .int (-1)), (0, .ref (x_h ad)), (1, .int v1)]) C.1 C.2.1 dX0_bestStored_1 rfl hl (by decide) rfl (fun ls hl => ?_)
  refine lv_iconst (v := 0) C.1 C.2.1 dX0_bestStored_2 (by decide) ?_
  refine lv_istore_n (lv' := [(3, .int 0), (2, .int (-1)), (0, .ref (x_h ad)), (1, .int v1)]) C.1 C.2.1 dX0_bestStored_3 rfl hl (by decide) rfl (fun ls hl => ?_)
  exact bX_bestStored_4 C Wd hf (lv_sub hl [2, 3, 1, 0] rfl)
set_option maxHeartbeats 4000000 in
set_option maxRecDepth 100000 in
theorem bX_lift_34 {p : Program} {l : Launch} {e : Env} {s : State} {m : MethodId} {args : Array Value} {below : List Frame} {meth : Method} {c : Code} {D : va_G} {ad : XA} {A : Nat → Prop} (C : x_C p s m args meth c cX0_lift 3 (some .int)) {post : Int32 → XS → Prop} {σ : XS} {H : Heap} {locs : List Loc} {ls : Array Slot} {v1 : Int32} {v2 : Int32} (Wd : x_W D ad σ A s H locs) (hf : wX_lift_34 (x_n ad) (x_lim ad) σ v1 v2 post) (hl : lv_has ls 3 [(0, .ref (x_h ad)), (1, .int v1), (2, .int v2)]) : W p l e { frames := 0, cells := 0, slots := 0, locals := 0 } s m args below meth c H locs 0 0 (x_Qi below D ad A args s post) (F0 m 34 ls []) := by
  refine lv_iload_n C.1 C.2.1 dX0_lift_34 rfl (lv_at hl 1 rfl) ?_
  refine lv_aload_n C.1 C.2.1 dX0_lift_35 rfl (lv_at hl 0 rfl) ?_
  refine x_get_tp C Wd dX0_lift_36 ?_
  refine lv_icmp_ne (tgt := 47) C.1 C.2.1 dX0_lift_39 (by decide) (fun hc => ?_) (fun hc => ?_)
  · replace hf := hf.1 hc
    refine lv_iload_n C.1 C.2.1 dX0_lift_47 rfl (lv_at hl 2 rfl) ?_
    exact x_iret C Wd hf dX0_lift_48
  · replace hf := hf.2 hc
    refine lv_aload_n C.1 C.2.1 dX0_lift_42 rfl (lv_at hl 0 rfl) ?_
    refine lv_iconst (v := (-1)) C.1 C.2.1 dX0_lift_43 (by decide) ?_
    refine x_put_tp C Wd dX0_lift_44 (fun H locs Wd => ?_)
    refine lv_iload_n C.1 C.2.1 dX0_lift_47 rfl (lv_at hl 2 rfl) ?_
    exact x_iret C Wd hf dX0_lift_48
set_option maxHeartbeats 4000000 in
set_option maxRecDepth 100000 in
theorem cX_lift (l : Launch) (D : va_G) (ad : XA) (v1 : Int32) : x_Mi l D yX0_lift cX0_lift 3 (some .int) { frames := 0, cells := 0, slots := 0, locals := 0 } ad [.ref (x_h ad), .int v1] (fun σ post => wX_lift (x_n ad) (x_lim ad) σ v1 post) := by
  refine x_ofi ⟨by decide, rfl, Nat.le_of_ble_eq_true rfl⟩ (fun {p e s m args below meth c σ A post ls} C Wd hf hl => ?_)
  replace hl : lv_has ls 3 [(0, .ref (x_h ad)), (1, .int v1)] := hl
  refine lv_aload_n C.1 C.2.1 dX0_lift_0 rfl (lv_at hl 0 rfl) ?_
  refine x_get_z C Wd dX0_lift_1 ?_
  refine lv_iload_n C.1 C.2.1 dX0_lift_4 rfl (lv_at hl 1 rfl) ?_
  refine x_ald_z C Wd hf.1 dX0_lift_5 ?_
  replace hf := hf.2
  refine lv_istore_n (lv' := [(2, .int (x_z σ v1.toNatClampNeg)), (0, .ref (x_h ad)), (1, .int v1)]) C.1 C.2.1 dX0_lift_6 rfl hl (by decide) rfl (fun ls hl => ?_)
  refine lv_aload_n C.1 C.2.1 dX0_lift_7 rfl (lv_at hl 1 rfl) ?_
  refine x_get_z C Wd dX0_lift_8 ?_
  refine lv_iload_n C.1 C.2.1 dX0_lift_11 rfl (lv_at hl 2 rfl) ?_
  refine lv_iconst (v := 0) C.1 C.2.1 dX0_lift_12 (by decide) ?_
  refine x_ast_z C Wd hf.1 dX0_lift_13 (fun H locs Wd => ?_)
  replace hf := hf.2
  refine lv_aload_n C.1 C.2.1 dX0_lift_14 rfl (lv_at hl 1 rfl) ?_
  refine x_get_t C Wd dX0_lift_15 ?_
  refine lv_iload_n C.1 C.2.1 dX0_lift_18 rfl (lv_at hl 2 rfl) ?_
  refine lv_iconst (v := (-1)) C.1 C.2.1 dX0_lift_19 (by decide) ?_
  refine x_ast_t C Wd hf.1 dX0_lift_20 (fun H locs Wd => ?_)
  replace hf := hf.2
  refine lv_iload_n C.1 C.2.1 dX0_lift_21 rfl (lv_at hl 2 rfl) ?_
  refine lv_aload_n C.1 C.2.1 dX0_lift_22 rfl (lv_at hl 1 rfl) ?_
  refine x_get_vi C Wd dX0_lift_23 ?_
  refine lv_icmp_ne (tgt := 34) C.1 C.2.1 dX0_lift_26 (by decide) (fun hc => ?_) (fun hc => ?_)
  · replace hf := hf.1 hc
    exact bX_lift_34 C Wd hf (lv_sub hl [1, 2, 0] rfl)
  · replace hf := hf.2 hc
    refine lv_aload_n C.1 C.2.1 dX0_lift_29 rfl (lv_at hl 1 rfl) ?_
    refine lv_iconst (v := (-1)) C.1 C.2.1 dX0_lift_30 (by decide) ?_
    refine x_put_vi C Wd dX0_lift_31 (fun H locs Wd => ?_)
    exact bX_lift_34 C Wd hf (lv_sub hl [1, 2, 0] rfl)
set_option maxHeartbeats 4000000 in
set_option maxRecDepth 100000 in
theorem bX_lay_66 {p : Program} {l : Launch} {e : Env} {s : State} {m : MethodId} {args : Array Value} {below : List Frame} {meth : Method} {c : Code} {D : va_G} {ad : XA} {A : Nat → Prop} (C : x_C p s m args meth c cX0_lay 4 none) {post : XS → Prop} {σ : XS} {H : Heap} {locs : List Loc} {ls : Array Slot} {v1 : Int32} {k1 : Int32} {k0 : Int32} (Wd : x_W D ad σ A s H locs) (hf : wX_lay_66 (x_n ad) (x_lim ad) σ v1 k1 k0 post) (hl : lv_has ls 4 [(0, .ref (x_h ad)), (1, .int v1)]) : W p l e { frames := 0, cells := 0, slots := 0, locals := 0 } s m args below meth c H locs 0 0 (x_Qv below D ad A args s post) (F0 m 66 ls [.int k0, .int k1, .ref (x_at ad)]) := by
  refine x_ast_t C Wd hf.1 dX0_lay_66 (fun H locs Wd => ?_)
  replace hf := hf.2
  refine lv_aload_n C.1 C.2.1 dX0_lay_67 rfl (lv_at hl 0 rfl) ?_
  refine lv_dup C.1 C.2.1 dX0_lay_68 rfl ?_
  refine x_get_la C Wd dX0_lay_69 ?_
  refine lv_iconst (v := 1) C.1 C.2.1 dX0_lay_72 (by decide) ?_
  refine lv_iadd C.1 C.2.1 dX0_lay_73 ?_
  refine x_put_la C Wd dX0_lay_74 (fun H locs Wd => ?_)
  refine lv_aload_n C.1 C.2.1 dX0_lay_77 rfl (lv_at hl 0 rfl) ?_
  refine x_get_r C Wd dX0_lay_78 ?_
  refine lv_iload_n C.1 C.2.1 dX0_lay_81 rfl (lv_at hl 1 rfl) ?_
  refine lv_aload_n C.1 C.2.1 dX0_lay_82 rfl (lv_at hl 0 rfl) ?_
  refine x_get_la C Wd dX0_lay_83 ?_
  refine x_ast_r C Wd hf.1 dX0_lay_86 (fun H locs Wd => ?_)
  replace hf := hf.2
  exact x_vret C Wd hf dX0_lay_87
set_option maxHeartbeats 4000000 in
set_option maxRecDepth 100000 in
theorem bX_lay_50 {p : Program} {l : Launch} {e : Env} {s : State} {m : MethodId} {args : Array Value} {below : List Frame} {meth : Method} {c : Code} {D : va_G} {ad : XA} {A : Nat → Prop} (C : x_C p s m args meth c cX0_lay 4 none) {post : XS → Prop} {σ : XS} {H : Heap} {locs : List Loc} {ls : Array Slot} {v1 : Int32} {v2 : Int32} (Wd : x_W D ad σ A s H locs) (hf : wX_lay_50 (x_n ad) (x_lim ad) σ v1 v2 post) (hl : lv_has ls 4 [(0, .ref (x_h ad)), (1, .int v1), (2, .int v2)]) : W p l e { frames := 0, cells := 0, slots := 0, locals := 0 } s m args below meth c H locs 0 0 (x_Qv below D ad A args s post) (F0 m 50 ls []) := by
  refine lv_aload_n C.1 C.2.1 dX0_lay_50 rfl (lv_at hl 0 rfl) ?_
  refine x_get_t C Wd dX0_lay_51 ?_
  refine lv_iload_n C.1 C.2.1 dX0_lay_54 rfl (lv_at hl 1 rfl) ?_
  refine lv_iload_n C.1 C.2.1 dX0_lay_55 rfl (lv_at hl 2 rfl) ?_
  refine lv_bipush (v := 16) C.1 C.2.1 dX0_lay_56 (by decide) ?_
  refine lv_icmp_ge (tgt := 65) C.1 C.2.1 dX0_lay_58 (by decide) (fun hc => ?_) (fun hc => ?_)
  · replace hf := hf.1 hc
    refine lv_iconst (v := 2) C.1 C.2.1 dX0_lay_65 (by decide) ?_
    exact bX_lay_66 C Wd hf (lv_sub hl [0, 1] rfl)
  · replace hf := hf.2 hc
    refine lv_iconst (v := 1) C.1 C.2.1 dX0_lay_61 (by decide) ?_
    refine lv_goto (tgt := 66) C.1 C.2.1 dX0_lay_62 (by decide) ?_
    exact bX_lay_66 C Wd hf (lv_sub hl [0, 1] rfl)
set_option maxHeartbeats 4000000 in
set_option maxRecDepth 100000 in
theorem cX_lay (l : Launch) (D : va_G) (ad : XA) (v1 : Int32) (v2 : Int32) (v3 : Int32) : x_Mv l D yX0_lay cX0_lay 4 none { frames := 0, cells := 0, slots := 0, locals := 0 } ad [.ref (x_h ad), .int v1, .int v2, .int v3] (fun σ post => wX_lay (x_n ad) (x_lim ad) σ v1 v2 v3 post) := by
  refine x_ofv ⟨by decide, rfl, Nat.le_of_ble_eq_true rfl⟩ (fun {p e s m args below meth c σ A post ls} C Wd hf hl => ?_)
  replace hl : lv_has ls 4 [(0, .ref (x_h ad)), (1, .int v1), (2, .int v2), (3, .int v3)] := hl
  refine lv_aload_n C.1 C.2.1 dX0_lay_0 rfl (lv_at hl 0 rfl) ?_
  refine x_get_z C Wd dX0_lay_1 ?_
  refine lv_iload_n C.1 C.2.1 dX0_lay_4 rfl (lv_at hl 1 rfl) ?_
  refine lv_iload_n C.1 C.2.1 dX0_lay_5 rfl (lv_at hl 2 rfl) ?_
  refine x_ast_z C Wd hf.1 dX0_lay_6 (fun H locs Wd => ?_)
  replace hf := hf.2
  refine lv_aload_n C.1 C.2.1 dX0_lay_7 rfl (lv_at hl 0 rfl) ?_
  refine x_get_t C Wd dX0_lay_8 ?_
  refine lv_iload_n C.1 C.2.1 dX0_lay_11 rfl (lv_at hl 1 rfl) ?_
  refine lv_iload_n C.1 C.2.1 dX0_lay_12 rfl (lv_at hl 3 rfl) ?_
  refine x_ast_t C Wd hf.1 dX0_lay_13 (fun H locs Wd => ?_)
  replace hf := hf.2
  refine lv_iload_n C.1 C.2.1 dX0_lay_14 rfl (lv_at hl 3 rfl) ?_
  refine lv_iconst (v := 4) C.1 C.2.1 dX0_lay_15 (by decide) ?_
  refine lv_icmp_ne (tgt := 27) C.1 C.2.1 dX0_lay_16 (by decide) (fun hc => ?_) (fun hc => ?_)
  · replace hf := hf.1 hc
    refine lv_iload_n C.1 C.2.1 dX0_lay_27 rfl (lv_at hl 3 rfl) ?_
    refine lv_iconst (v := 3) C.1 C.2.1 dX0_lay_28 (by decide) ?_
    refine lv_icmp_ne (tgt := 40) C.1 C.2.1 dX0_lay_29 (by decide) (fun hc => ?_) (fun hc => ?_)
    · replace hf := hf.1 hc
      refine lv_iload_n C.1 C.2.1 dX0_lay_40 rfl (lv_at hl 3 rfl) ?_
      refine lv_iconst (v := 1) C.1 C.2.1 dX0_lay_41 (by decide) ?_
      refine lv_icmp_eq (tgt := 50) C.1 C.2.1 dX0_lay_42 (by decide) (fun hc => ?_) (fun hc => ?_)
      · replace hf := hf.1 hc
        exact bX_lay_50 C Wd hf (lv_sub hl [0, 1, 2] rfl)
      · replace hf := hf.2 hc
        refine lv_iload_n C.1 C.2.1 dX0_lay_45 rfl (lv_at hl 3 rfl) ?_
        refine lv_iconst (v := 2) C.1 C.2.1 dX0_lay_46 (by decide) ?_
        refine lv_icmp_ne (tgt := 87) C.1 C.2.1 dX0_lay_47 (by decide) (fun hc => ?_) (fun hc => ?_)
        · replace hf := hf.1 hc
          exact x_vret C Wd hf dX0_lay_87
        · replace hf := hf.2 hc
          exact bX_lay_50 C Wd hf (lv_sub hl [0, 1, 2] rfl)
    · replace hf := hf.2 hc
      refine lv_aload_n C.1 C.2.1 dX0_lay_32 rfl (lv_at hl 0 rfl) ?_
      refine lv_iload_n C.1 C.2.1 dX0_lay_33 rfl (lv_at hl 1 rfl) ?_
      refine x_put_vi C Wd dX0_lay_34 (fun H locs Wd => ?_)
      refine lv_goto (tgt := 87) C.1 C.2.1 dX0_lay_37 (by decide) ?_
      exact x_vret C Wd hf dX0_lay_87
  · replace hf := hf.2 hc
    refine lv_aload_n C.1 C.2.1 dX0_lay_19 rfl (lv_at hl 0 rfl) ?_
    refine lv_iload_n C.1 C.2.1 dX0_lay_20 rfl (lv_at hl 1 rfl) ?_
    refine x_put_tp C Wd dX0_lay_21 (fun H locs Wd => ?_)
    refine lv_goto (tgt := 87) C.1 C.2.1 dX0_lay_24 (by decide) ?_
    exact x_vret C Wd hf dX0_lay_87
set_option maxHeartbeats 4000000 in
set_option maxRecDepth 100000 in
theorem cX_cut (l : Launch) (D : va_G) (ad : XA) (v1 : Int32) (v2 : Int32) (v3 : Int32) : x_Mi l D yX0_cut cX0_cut 6 (some .int) { frames := 1, cells := 0, slots := 0, locals := 23 } ad [.ref (x_h ad), .int v1, .int v2, .int v3] (fun σ post => wX_cut (x_n ad) (x_lim ad) σ v1 v2 v3 post) := by
  refine x_ofi ⟨by decide, rfl, Nat.le_of_ble_eq_true rfl⟩ (fun {p e s m args below meth c σ A post ls} C Wd hf hl => ?_)
  replace hl : lv_has ls 6 [(0, .ref (x_h ad)), (1, .int v1), (2, .int v2), (3, .int v3)] := hl
  refine lv_aload_n C.1 C.2.1 dX0_cut_0 rfl (lv_at hl 0 rfl) ?_
  refine lv_iload_n C.1 C.2.1 dX0_cut_1 rfl (lv_at hl 1 rfl) ?_
  refine x_calliv (As := [.int v1]) (rest := []) C Wd (cX_lift l D ad v1) sX_lift (by decide) rfl hl.1 rfl (Nat.le_of_ble_eq_true rfl) (by decide) dX0_cut_2 hf (fun r2 σ2 H locs hf Wd => ?_)
  refine lv_istore (lv' := [(4, .int r2), (0, .ref (x_h ad)), (1, .int v1), (2, .int v2), (3, .int v3)]) C.1 C.2.1 dX0_cut_5 hl (by decide) rfl (fun ls hl => ?_)
  refine lv_iload C.1 C.2.1 dX0_cut_7 (lv_at hl 0 rfl) ?_
  refine lv_iload_n C.1 C.2.1 dX0_cut_9 rfl (lv_at hl 3 rfl) ?_
  refine lv_isub C.1 C.2.1 dX0_cut_10 ?_
  refine lv_istore (lv' := [(5, .int (r2 - v2)), (4, .int r2), (0, .ref (x_h ad)), (1, .int v1), (2, .int v2), (3, .int v3)]) C.1 C.2.1 dX0_cut_11 hl (by decide) rfl (fun ls hl => ?_)
  refine lv_iload C.1 C.2.1 dX0_cut_13 (lv_at hl 0 rfl) ?_
  refine lv_iconst (v := 2) C.1 C.2.1 dX0_cut_15 (by decide) ?_
  refine lv_icmp_ge (tgt := 30) C.1 C.2.1 dX0_cut_16 (by decide) (fun hc => ?_) (fun hc => ?_)
  · replace hf := hf.1 hc
    refine lv_aload_n C.1 C.2.1 dX0_cut_30 rfl (lv_at hl 2 rfl) ?_
    refine lv_iload_n C.1 C.2.1 dX0_cut_31 rfl (lv_at hl 3 rfl) ?_
    refine lv_iload_n C.1 C.2.1 dX0_cut_32 rfl (lv_at hl 4 rfl) ?_
    refine lv_iconst (v := 0) C.1 C.2.1 dX0_cut_33 (by decide) ?_
    refine x_callvv (As := [.int v1, .int v2, .int 0]) (rest := []) C Wd (cX_lay l D ad v1 v2 0) sX_lay (by decide) rfl hl.1 rfl (Nat.le_of_ble_eq_true rfl) (by decide) dX0_cut_34 hf (fun σ34 H locs hf Wd => ?_)
    refine lv_aload_n C.1 C.2.1 dX0_cut_37 rfl (lv_at hl 2 rfl) ?_
    refine lv_iload_n C.1 C.2.1 dX0_cut_38 rfl (lv_at hl 3 rfl) ?_
    refine lv_iload_n C.1 C.2.1 dX0_cut_39 rfl (lv_at hl 4 rfl) ?_
    refine lv_iadd C.1 C.2.1 dX0_cut_40 ?_
    refine lv_iload C.1 C.2.1 dX0_cut_41 (lv_at hl 0 rfl) ?_
    refine lv_iload_n C.1 C.2.1 dX0_cut_43 rfl (lv_at hl 5 rfl) ?_
    refine x_callvv (As := [.int (v1 + v2), .int (r2 - v2), .int v3]) (rest := []) C Wd (cX_lay l D ad (v1 + v2) (r2 - v2) v3) sX_lay (by decide) rfl hl.1 rfl (Nat.le_of_ble_eq_true rfl) (by decide) dX0_cut_44 hf (fun σ44 H locs hf Wd => ?_)
    refine lv_iload_n C.1 C.2.1 dX0_cut_47 rfl (lv_at hl 3 rfl) ?_
    exact x_iret C Wd hf dX0_cut_48
  · replace hf := hf.2 hc
    refine lv_aload_n C.1 C.2.1 dX0_cut_19 rfl (lv_at hl 2 rfl) ?_
    refine lv_iload_n C.1 C.2.1 dX0_cut_20 rfl (lv_at hl 3 rfl) ?_
    refine lv_iload C.1 C.2.1 dX0_cut_21 (lv_at hl 1 rfl) ?_
    refine lv_iconst (v := 0) C.1 C.2.1 dX0_cut_23 (by decide) ?_
    refine x_callvv (As := [.int v1, .int r2, .int 0]) (rest := []) C Wd (cX_lay l D ad v1 r2 0) sX_lay (by decide) rfl hl.1 rfl (Nat.le_of_ble_eq_true rfl) (by decide) dX0_cut_24 hf (fun σ24 H locs hf Wd => ?_)
    refine lv_goto (tgt := 47) C.1 C.2.1 dX0_cut_27 (by decide) ?_
    refine lv_iload_n C.1 C.2.1 dX0_cut_47 rfl (lv_at hl 3 rfl) ?_
    exact x_iret C Wd hf dX0_cut_48
set_option maxHeartbeats 4000000 in
set_option maxRecDepth 100000 in
theorem cX_sizeAt (l : Launch) (D : va_G) (ad : XA) (v1 : Int32) : x_Mi l D yX0_sizeAt cX0_sizeAt 2 (some .int) { frames := 0, cells := 0, slots := 0, locals := 0 } ad [.ref (x_h ad), .int v1] (fun σ post => wX_sizeAt (x_n ad) (x_lim ad) σ v1 post) := by
  refine x_ofi ⟨by decide, rfl, Nat.le_of_ble_eq_true rfl⟩ (fun {p e s m args below meth c σ A post ls} C Wd hf hl => ?_)
  replace hl : lv_has ls 2 [(0, .ref (x_h ad)), (1, .int v1)] := hl
  refine lv_iload_n C.1 C.2.1 dX0_sizeAt_0 rfl (lv_at hl 1 rfl) ?_
  refine lv_iconst (v := (-1)) C.1 C.2.1 dX0_sizeAt_1 (by decide) ?_
  refine lv_icmp_ne (tgt := 9) C.1 C.2.1 dX0_sizeAt_2 (by decide) (fun hc => ?_) (fun hc => ?_)
  · replace hf := hf.1 hc
    refine lv_aload_n C.1 C.2.1 dX0_sizeAt_9 rfl (lv_at hl 0 rfl) ?_
    refine x_get_z C Wd dX0_sizeAt_10 ?_
    refine lv_iload_n C.1 C.2.1 dX0_sizeAt_13 rfl (lv_at hl 1 rfl) ?_
    refine x_ald_z C Wd hf.1 dX0_sizeAt_14 ?_
    replace hf := hf.2
    exact x_iret C Wd hf dX0_sizeAt_15
  · replace hf := hf.2 hc
    refine lv_iconst (v := 0) C.1 C.2.1 dX0_sizeAt_5 (by decide) ?_
    refine lv_goto (tgt := 15) C.1 C.2.1 dX0_sizeAt_6 (by decide) ?_
    exact x_iret C Wd hf dX0_sizeAt_15
set_option maxHeartbeats 4000000 in
set_option maxRecDepth 100000 in
theorem cX_cutForVictim (l : Launch) (D : va_G) (ad : XA) (v1 : Int32) (v2 : Int32) : x_Mi l D yX0_cutForVictim cX0_cutForVictim 4 (some .int) { frames := 2, cells := 0, slots := 0, locals := 48 } ad [.ref (x_h ad), .int v1, .int v2] (fun σ post => wX_cutForVictim (x_n ad) (x_lim ad) σ v1 v2 post) := by
  refine x_ofi ⟨by decide, rfl, Nat.le_of_ble_eq_true rfl⟩ (fun {p e s m args below meth c σ A post ls} C Wd hf hl => ?_)
  replace hl : lv_has ls 4 [(0, .ref (x_h ad)), (1, .int v1), (2, .int v2)] := hl
  refine lv_aload_n C.1 C.2.1 dX0_cutForVictim_0 rfl (lv_at hl 0 rfl) ?_
  refine x_get_vi C Wd dX0_cutForVictim_1 ?_
  refine lv_istore_n (lv' := [(3, .int (x_vi σ)), (0, .ref (x_h ad)), (1, .int v1), (2, .int v2)]) C.1 C.2.1 dX0_cutForVictim_4 rfl hl (by decide) rfl (fun ls hl => ?_)
  refine lv_aload_n C.1 C.2.1 dX0_cutForVictim_5 rfl (lv_at hl 1 rfl) ?_
  refine lv_iload_n C.1 C.2.1 dX0_cutForVictim_6 rfl (lv_at hl 2 rfl) ?_
  refine lv_iload_n C.1 C.2.1 dX0_cutForVictim_7 rfl (lv_at hl 3 rfl) ?_
  refine lv_iconst (v := 3) C.1 C.2.1 dX0_cutForVictim_8 (by decide) ?_
  refine x_calliv (As := [.int v1, .int v2, .int 3]) (rest := []) C Wd (cX_cut l D ad v1 v2 3) sX_cut (by decide) rfl hl.1 rfl (Nat.le_of_ble_eq_true rfl) (by decide) dX0_cutForVictim_9 hf (fun r9 σ9 H locs hf Wd => ?_)
  refine lv_pop C.1 C.2.1 dX0_cutForVictim_12 rfl ?_
  refine lv_iload_n C.1 C.2.1 dX0_cutForVictim_13 rfl (lv_at hl 0 rfl) ?_
  refine lv_iconst (v := (-1)) C.1 C.2.1 dX0_cutForVictim_14 (by decide) ?_
  refine lv_icmp_eq (tgt := 38) C.1 C.2.1 dX0_cutForVictim_15 (by decide) (fun hc => ?_) (fun hc => ?_)
  · replace hf := hf.1 hc
    refine lv_iload_n C.1 C.2.1 dX0_cutForVictim_38 rfl (lv_at hl 2 rfl) ?_
    exact x_iret C Wd hf dX0_cutForVictim_39
  · replace hf := hf.2 hc
    refine lv_iload_n C.1 C.2.1 dX0_cutForVictim_18 rfl (lv_at hl 0 rfl) ?_
    refine lv_aload_n C.1 C.2.1 dX0_cutForVictim_19 rfl (lv_at hl 1 rfl) ?_
    refine x_get_vi C Wd dX0_cutForVictim_20 ?_
    refine lv_icmp_eq (tgt := 38) C.1 C.2.1 dX0_cutForVictim_23 (by decide) (fun hc => ?_) (fun hc => ?_)
    · replace hf := hf.1 hc
      refine lv_iload_n C.1 C.2.1 dX0_cutForVictim_38 rfl (lv_at hl 2 rfl) ?_
      exact x_iret C Wd hf dX0_cutForVictim_39
    · replace hf := hf.2 hc
      refine lv_aload_n C.1 C.2.1 dX0_cutForVictim_26 rfl (lv_at hl 1 rfl) ?_
      refine lv_iload_n C.1 C.2.1 dX0_cutForVictim_27 rfl (lv_at hl 0 rfl) ?_
      refine lv_aload_n C.1 C.2.1 dX0_cutForVictim_28 rfl (lv_at hl 1 rfl) ?_
      refine x_get_z C Wd dX0_cutForVictim_29 ?_
      refine lv_iload_n C.1 C.2.1 dX0_cutForVictim_32 rfl (lv_at hl 0 rfl) ?_
      refine x_ald_z C Wd hf.1 dX0_cutForVictim_33 ?_
      replace hf := hf.2
      refine lv_iconst (v := 2) C.1 C.2.1 dX0_cutForVictim_34 (by decide) ?_
      refine x_callvv (As := [.int (x_vi σ), .int (x_z σ9 (x_vi σ).toNatClampNeg), .int 2]) (rest := []) C Wd (cX_lay l D ad (x_vi σ) (x_z σ9 (x_vi σ).toNatClampNeg) 2) sX_lay (by decide) rfl hl.1 rfl (Nat.le_of_ble_eq_true rfl) (by decide) dX0_cutForVictim_35 hf (fun σ35 H locs hf Wd => ?_)
      refine lv_iload_n C.1 C.2.1 dX0_cutForVictim_38 rfl (lv_at hl 2 rfl) ?_
      exact x_iret C Wd hf dX0_cutForVictim_39
end
section
set_option maxHeartbeats 4000000 in
set_option maxRecDepth 100000 in
theorem bX_takeSmall_41 {p : Program} {l : Launch} {e : Env} {s : State} {m : MethodId} {args : Array Value} {below : List Frame} {meth : Method} {c : Code} {D : va_G} {ad : XA} {A : Nat → Prop} (C : x_C p s m args meth c cX0_takeSmall 3 (some .int)) {post : Int32 → XS → Prop} {σ : XS} {H : Heap} {locs : List Loc} {ls : Array Slot} {v1 : Int32} {v2 : Int32} (Wd : x_W D ad σ A s H locs) (hf : wX_takeSmall_41 (x_n ad) (x_lim ad) σ v1 v2 post) (hl : lv_has ls 3 [(0, .ref (x_h ad)), (1, .int v1), (2, .int v2)]) : W p l e { frames := 3, cells := 0, slots := 0, locals := 71 } s m args below meth c H locs 0 0 (x_Qi below D ad A args s post) (F0 m 41 ls []) := by
  refine lv_aload_n C.1 C.2.1 dX0_takeSmall_41 rfl (lv_at hl 0 rfl) ?_
  refine lv_aload_n C.1 C.2.1 dX0_takeSmall_42 rfl (lv_at hl 0 rfl) ?_
  refine x_get_vi C Wd dX0_takeSmall_43 ?_
  refine x_calliv (As := [.int (x_vi σ)]) (rest := []) C Wd (cX_sizeAt l D ad (x_vi σ)) sX_sizeAt (by decide) rfl hl.1 rfl (Nat.le_of_ble_eq_true rfl) (by decide) dX0_takeSmall_46 hf (fun r46 σ46 H locs hf Wd => ?_)
  refine lv_iload_n C.1 C.2.1 dX0_takeSmall_49 rfl (lv_at hl 1 rfl) ?_
  refine lv_icmp_lt (tgt := 64) C.1 C.2.1 dX0_takeSmall_50 (by decide) (fun hc => ?_) (fun hc => ?_)
  · replace hf := hf.1 hc
    refine lv_iload_n C.1 C.2.1 dX0_takeSmall_64 rfl (lv_at hl 2 rfl) ?_
    refine lv_iconst (v := (-1)) C.1 C.2.1 dX0_takeSmall_65 (by decide) ?_
    refine lv_icmp_ne (tgt := 73) C.1 C.2.1 dX0_takeSmall_66 (by decide) (fun hc => ?_) (fun hc => ?_)
    · replace hf := hf.1 hc
      refine lv_aload_n C.1 C.2.1 dX0_takeSmall_73 rfl (lv_at hl 0 rfl) ?_
      refine lv_iload_n C.1 C.2.1 dX0_takeSmall_74 rfl (lv_at hl 2 rfl) ?_
      refine lv_iload_n C.1 C.2.1 dX0_takeSmall_75 rfl (lv_at hl 1 rfl) ?_
      refine x_calliv (As := [.int v2, .int v1]) (rest := []) C Wd (cX_cutForVictim l D ad v2 v1) sX_cutForVictim (by decide) rfl hl.1 rfl (Nat.le_of_ble_eq_true rfl) (by decide) dX0_takeSmall_76 hf (fun r76 σ76 H locs hf Wd => ?_)
      exact x_iret C Wd hf dX0_takeSmall_79
    · replace hf := hf.2 hc
      refine lv_iconst (v := (-1)) C.1 C.2.1 dX0_takeSmall_69 (by decide) ?_
      refine lv_goto (tgt := 79) C.1 C.2.1 dX0_takeSmall_70 (by decide) ?_
      exact x_iret C Wd hf dX0_takeSmall_79
  · replace hf := hf.2 hc
    refine lv_aload_n C.1 C.2.1 dX0_takeSmall_53 rfl (lv_at hl 0 rfl) ?_
    refine lv_aload_n C.1 C.2.1 dX0_takeSmall_54 rfl (lv_at hl 0 rfl) ?_
    refine x_get_vi C Wd dX0_takeSmall_55 ?_
    refine lv_iload_n C.1 C.2.1 dX0_takeSmall_58 rfl (lv_at hl 1 rfl) ?_
    refine lv_iconst (v := 3) C.1 C.2.1 dX0_takeSmall_59 (by decide) ?_
    refine x_calliv (As := [.int (x_vi σ46), .int v1, .int 3]) (rest := []) C Wd (cX_cut l D ad (x_vi σ46) v1 3) sX_cut (by decide) rfl hl.1 rfl (Nat.le_of_ble_eq_true rfl) (by decide) dX0_takeSmall_60 hf (fun r60 σ60 H locs hf Wd => ?_)
    exact x_iret C Wd hf dX0_takeSmall_63
set_option maxHeartbeats 4000000 in
set_option maxRecDepth 100000 in
theorem cX_takeSmall (l : Launch) (D : va_G) (ad : XA) (v1 : Int32) : x_Mi l D yX0_takeSmall cX0_takeSmall 3 (some .int) { frames := 3, cells := 0, slots := 0, locals := 71 } ad [.ref (x_h ad), .int v1] (fun σ post => wX_takeSmall (x_n ad) (x_lim ad) σ v1 post) := by
  refine x_ofi ⟨by decide, rfl, Nat.le_of_ble_eq_true rfl⟩ (fun {p e s m args below meth c σ A post ls} C Wd hf hl => ?_)
  replace hl : lv_has ls 3 [(0, .ref (x_h ad)), (1, .int v1)] := hl
  refine lv_aload_n C.1 C.2.1 dX0_takeSmall_0 rfl (lv_at hl 0 rfl) ?_
  refine lv_iload_n C.1 C.2.1 dX0_takeSmall_1 rfl (lv_at hl 1 rfl) ?_
  refine x_calliv (As := [.int v1]) (rest := []) C Wd (cX_bestStored l D ad v1) sX_bestStored (by decide) rfl hl.1 rfl (Nat.le_of_ble_eq_true rfl) (by decide) dX0_takeSmall_2 hf (fun r2 σ2 H locs hf Wd => ?_)
  refine lv_istore_n (lv' := [(2, .int r2), (0, .ref (x_h ad)), (1, .int v1)]) C.1 C.2.1 dX0_takeSmall_5 rfl hl (by decide) rfl (fun ls hl => ?_)
  refine lv_iload_n C.1 C.2.1 dX0_takeSmall_6 rfl (lv_at hl 0 rfl) ?_
  refine lv_iconst (v := (-1)) C.1 C.2.1 dX0_takeSmall_7 (by decide) ?_
  refine lv_icmp_eq (tgt := 41) C.1 C.2.1 dX0_takeSmall_8 (by decide) (fun hc => ?_) (fun hc => ?_)
  · replace hf := hf.1 hc
    exact bX_takeSmall_41 C Wd hf (lv_sub hl [1, 2, 0] rfl)
  · replace hf := hf.2 hc
    refine lv_aload_n C.1 C.2.1 dX0_takeSmall_11 rfl (lv_at hl 1 rfl) ?_
    refine x_get_t C Wd dX0_takeSmall_12 ?_
    refine lv_iload_n C.1 C.2.1 dX0_takeSmall_15 rfl (lv_at hl 0 rfl) ?_
    refine x_ald_t C Wd hf.1 dX0_takeSmall_16 ?_
    replace hf := hf.2
    refine lv_iconst (v := 1) C.1 C.2.1 dX0_takeSmall_17 (by decide) ?_
    refine lv_icmp_ne (tgt := 41) C.1 C.2.1 dX0_takeSmall_18 (by decide) (fun hc => ?_) (fun hc => ?_)
    · replace hf := hf.1 hc
      exact bX_takeSmall_41 C Wd hf (lv_sub hl [1, 2, 0] rfl)
    · replace hf := hf.2 hc
      refine lv_aload_n C.1 C.2.1 dX0_takeSmall_21 rfl (lv_at hl 1 rfl) ?_
      refine x_get_z C Wd dX0_takeSmall_22 ?_
      refine lv_iload_n C.1 C.2.1 dX0_takeSmall_25 rfl (lv_at hl 0 rfl) ?_
      refine x_ald_z C Wd hf.1 dX0_takeSmall_26 ?_
      replace hf := hf.2
      refine lv_iload_n C.1 C.2.1 dX0_takeSmall_27 rfl (lv_at hl 2 rfl) ?_
      refine lv_isub C.1 C.2.1 dX0_takeSmall_28 ?_
      refine lv_iconst (v := 2) C.1 C.2.1 dX0_takeSmall_29 (by decide) ?_
      refine lv_icmp_ge (tgt := 41) C.1 C.2.1 dX0_takeSmall_30 (by decide) (fun hc => ?_) (fun hc => ?_)
      · replace hf := hf.1 hc
        exact bX_takeSmall_41 C Wd hf (lv_sub hl [1, 2, 0] rfl)
      · replace hf := hf.2 hc
        refine lv_aload_n C.1 C.2.1 dX0_takeSmall_33 rfl (lv_at hl 1 rfl) ?_
        refine lv_iload_n C.1 C.2.1 dX0_takeSmall_34 rfl (lv_at hl 0 rfl) ?_
        refine lv_iload_n C.1 C.2.1 dX0_takeSmall_35 rfl (lv_at hl 2 rfl) ?_
        refine lv_iconst (v := 2) C.1 C.2.1 dX0_takeSmall_36 (by decide) ?_
        refine x_calliv (As := [.int r2, .int v1, .int 2]) (rest := []) C Wd (cX_cut l D ad r2 v1 2) sX_cut (by decide) rfl hl.1 rfl (Nat.le_of_ble_eq_true rfl) (by decide) dX0_takeSmall_37 hf (fun r37 σ37 H locs hf Wd => ?_)
        exact x_iret C Wd hf dX0_takeSmall_40
set_option maxHeartbeats 4000000 in
set_option maxRecDepth 100000 in
theorem bX_takeLarge_59 {p : Program} {l : Launch} {e : Env} {s : State} {m : MethodId} {args : Array Value} {below : List Frame} {meth : Method} {c : Code} {D : va_G} {ad : XA} {A : Nat → Prop} (C : x_C p s m args meth c cX0_takeLarge 4 (some .int)) {post : Int32 → XS → Prop} {σ : XS} {H : Heap} {locs : List Loc} {ls : Array Slot} {v1 : Int32} {v3 : Int32} (Wd : x_W D ad σ A s H locs) (hf : wX_takeLarge_59 (x_n ad) (x_lim ad) σ v1 v3 post) (hl : lv_has ls 4 [(0, .ref (x_h ad)), (1, .int v1), (3, .int v3)]) : W p l e { frames := 2, cells := 0, slots := 0, locals := 48 } s m args below meth c H locs 0 0 (x_Qi below D ad A args s post) (F0 m 59 ls []) := by
  refine lv_iload_n C.1 C.2.1 dX0_takeLarge_59 rfl (lv_at hl 2 rfl) ?_
  refine lv_if_eq (tgt := 76) C.1 C.2.1 dX0_takeLarge_60 (by decide) (fun hc => ?_) (fun hc => ?_)
  · replace hf := hf.1 hc
    refine lv_iconst (v := (-1)) C.1 C.2.1 dX0_takeLarge_76 (by decide) ?_
    exact x_iret C Wd hf dX0_takeLarge_77
  · replace hf := hf.2 hc
    refine lv_aload_n C.1 C.2.1 dX0_takeLarge_63 rfl (lv_at hl 0 rfl) ?_
    refine lv_aload_n C.1 C.2.1 dX0_takeLarge_64 rfl (lv_at hl 0 rfl) ?_
    refine x_get_vi C Wd dX0_takeLarge_65 ?_
    refine lv_iload_n C.1 C.2.1 dX0_takeLarge_68 rfl (lv_at hl 1 rfl) ?_
    refine lv_iconst (v := 3) C.1 C.2.1 dX0_takeLarge_69 (by decide) ?_
    refine x_calliv (As := [.int (x_vi σ), .int v1, .int 3]) (rest := []) C Wd (cX_cut l D ad (x_vi σ) v1 3) sX_cut (by decide) rfl hl.1 rfl (Nat.le_of_ble_eq_true rfl) (by decide) dX0_takeLarge_70 hf (fun r70 σ70 H locs hf Wd => ?_)
    refine lv_goto (tgt := 77) C.1 C.2.1 dX0_takeLarge_73 (by decide) ?_
    exact x_iret C Wd hf dX0_takeLarge_77
set_option maxHeartbeats 4000000 in
set_option maxRecDepth 100000 in
theorem bX_takeLarge_51 {p : Program} {l : Launch} {e : Env} {s : State} {m : MethodId} {args : Array Value} {below : List Frame} {meth : Method} {c : Code} {D : va_G} {ad : XA} {A : Nat → Prop} (C : x_C p s m args meth c cX0_takeLarge 4 (some .int)) {post : Int32 → XS → Prop} {σ : XS} {H : Heap} {locs : List Loc} {ls : Array Slot} {v1 : Int32} {v2 : Int32} (Wd : x_W D ad σ A s H locs) (hf : wX_takeLarge_51 (x_n ad) (x_lim ad) σ v1 v2 post) (hl : lv_has ls 4 [(0, .ref (x_h ad)), (1, .int v1), (2, .int v2)]) : W p l e { frames := 2, cells := 0, slots := 0, locals := 48 } s m args below meth c H locs 0 0 (x_Qi below D ad A args s post) (F0 m 51 ls []) := by
  refine lv_aload_n C.1 C.2.1 dX0_takeLarge_51 rfl (lv_at hl 0 rfl) ?_
  refine lv_iload_n C.1 C.2.1 dX0_takeLarge_52 rfl (lv_at hl 2 rfl) ?_
  refine lv_iload_n C.1 C.2.1 dX0_takeLarge_53 rfl (lv_at hl 1 rfl) ?_
  refine lv_iconst (v := 2) C.1 C.2.1 dX0_takeLarge_54 (by decide) ?_
  refine x_calliv (As := [.int v2, .int v1, .int 2]) (rest := []) C Wd (cX_cut l D ad v2 v1 2) sX_cut (by decide) rfl hl.1 rfl (Nat.le_of_ble_eq_true rfl) (by decide) dX0_takeLarge_55 hf (fun r55 σ55 H locs hf Wd => ?_)
  exact x_iret C Wd hf dX0_takeLarge_58
set_option maxHeartbeats 4000000 in
set_option maxRecDepth 100000 in
theorem bX_takeLarge_23 {p : Program} {l : Launch} {e : Env} {s : State} {m : MethodId} {args : Array Value} {below : List Frame} {meth : Method} {c : Code} {D : va_G} {ad : XA} {A : Nat → Prop} (C : x_C p s m args meth c cX0_takeLarge 4 (some .int)) {post : Int32 → XS → Prop} {σ : XS} {H : Heap} {locs : List Loc} {ls : Array Slot} {v1 : Int32} {v2 : Int32} {k0 : Int32} (Wd : x_W D ad σ A s H locs) (hf : wX_takeLarge_23 (x_n ad) (x_lim ad) σ v1 v2 k0 post) (hl : lv_has ls 4 [(0, .ref (x_h ad)), (1, .int v1), (2, .int v2)]) : W p l e { frames := 2, cells := 0, slots := 0, locals := 48 } s m args below meth c H locs 0 0 (x_Qi below D ad A args s post) (F0 m 23 ls [.int k0]) := by
  refine lv_istore_n (lv' := [(3, .int k0), (0, .ref (x_h ad)), (1, .int v1), (2, .int v2)]) C.1 C.2.1 dX0_takeLarge_23 rfl hl (by decide) rfl (fun ls hl => ?_)
  refine lv_iload_n C.1 C.2.1 dX0_takeLarge_24 rfl (lv_at hl 3 rfl) ?_
  refine lv_iconst (v := (-1)) C.1 C.2.1 dX0_takeLarge_25 (by decide) ?_
  refine lv_icmp_eq (tgt := 59) C.1 C.2.1 dX0_takeLarge_26 (by decide) (fun hc => ?_) (fun hc => ?_)
  · replace hf := hf.1 hc
    exact bX_takeLarge_59 C Wd hf (lv_sub hl [1, 2, 0] rfl)
  · replace hf := hf.2 hc
    refine lv_iload_n C.1 C.2.1 dX0_takeLarge_29 rfl (lv_at hl 0 rfl) ?_
    refine lv_if_eq (tgt := 51) C.1 C.2.1 dX0_takeLarge_30 (by decide) (fun hc => ?_) (fun hc => ?_)
    · replace hf := hf.1 hc
      exact bX_takeLarge_51 C Wd hf (lv_sub hl [1, 2, 3] rfl)
    · replace hf := hf.2 hc
      refine lv_aload_n C.1 C.2.1 dX0_takeLarge_33 rfl (lv_at hl 1 rfl) ?_
      refine x_get_z C Wd dX0_takeLarge_34 ?_
      refine lv_iload_n C.1 C.2.1 dX0_takeLarge_37 rfl (lv_at hl 3 rfl) ?_
      refine x_ald_z C Wd hf.1 dX0_takeLarge_38 ?_
      replace hf := hf.2
      refine lv_aload_n C.1 C.2.1 dX0_takeLarge_39 rfl (lv_at hl 1 rfl) ?_
      refine x_get_z C Wd dX0_takeLarge_40 ?_
      refine lv_aload_n C.1 C.2.1 dX0_takeLarge_43 rfl (lv_at hl 1 rfl) ?_
      refine x_get_vi C Wd dX0_takeLarge_44 ?_
      refine x_ald_z C Wd hf.1 dX0_takeLarge_47 ?_
      replace hf := hf.2
      refine lv_icmp_ge (tgt := 59) C.1 C.2.1 dX0_takeLarge_48 (by decide) (fun hc => ?_) (fun hc => ?_)
      · replace hf := hf.1 hc
        exact bX_takeLarge_59 C Wd hf (lv_sub hl [1, 2, 0] rfl)
      · replace hf := hf.2 hc
        exact bX_takeLarge_51 C Wd hf (lv_sub hl [1, 2, 3] rfl)
set_option maxHeartbeats 4000000 in
set_option maxRecDepth 100000 in
theorem cX_takeLarge (l : Launch) (D : va_G) (ad : XA) (v1 : Int32) : x_Mi l D yX0_takeLarge cX0_takeLarge 4 (some .int) { frames := 2, cells := 0, slots := 0, locals := 48 } ad [.ref (x_h ad), .int v1] (fun σ post => wX_takeLarge (x_n ad) (x_lim ad) σ v1 post) := by
  refine x_ofi ⟨by decide, rfl, Nat.le_of_ble_eq_true rfl⟩ (fun {p e s m args below meth c σ A post ls} C Wd hf hl => ?_)
  replace hl : lv_has ls 4 [(0, .ref (x_h ad)), (1, .int v1)] := hl
  refine lv_aload_n C.1 C.2.1 dX0_takeLarge_0 rfl (lv_at hl 0 rfl) ?_
  refine lv_iload_n C.1 C.2.1 dX0_takeLarge_1 rfl (lv_at hl 1 rfl) ?_
  refine x_calliv (As := [.int v1]) (rest := []) C Wd (cX_bestStored l D ad v1) sX_bestStored (by decide) rfl hl.1 rfl (Nat.le_of_ble_eq_true rfl) (by decide) dX0_takeLarge_2 hf (fun r2 σ2 H locs hf Wd => ?_)
  refine lv_istore_n (lv' := [(2, .int r2), (0, .ref (x_h ad)), (1, .int v1)]) C.1 C.2.1 dX0_takeLarge_5 rfl hl (by decide) rfl (fun ls hl => ?_)
  refine lv_aload_n C.1 C.2.1 dX0_takeLarge_6 rfl (lv_at hl 1 rfl) ?_
  refine lv_aload_n C.1 C.2.1 dX0_takeLarge_7 rfl (lv_at hl 1 rfl) ?_
  refine x_get_vi C Wd dX0_takeLarge_8 ?_
  refine x_calliv (As := [.int (x_vi σ2)]) (rest := []) C Wd (cX_sizeAt l D ad (x_vi σ2)) sX_sizeAt (by decide) rfl hl.1 rfl (Nat.le_of_ble_eq_true rfl) (by decide) dX0_takeLarge_11 hf (fun r11 σ11 H locs hf Wd => ?_)
  refine lv_iload_n C.1 C.2.1 dX0_takeLarge_14 rfl (lv_at hl 2 rfl) ?_
  refine lv_icmp_lt (tgt := 22) C.1 C.2.1 dX0_takeLarge_15 (by decide) (fun hc => ?_) (fun hc => ?_)
  · replace hf := hf.1 hc
    refine lv_iconst (v := 0) C.1 C.2.1 dX0_takeLarge_22 (by decide) ?_
    exact bX_takeLarge_23 C Wd hf (lv_sub hl [1, 2, 0] rfl)
  · replace hf := hf.2 hc
    refine lv_iconst (v := 1) C.1 C.2.1 dX0_takeLarge_18 (by decide) ?_
    refine lv_goto (tgt := 23) C.1 C.2.1 dX0_takeLarge_19 (by decide) ?_
    exact bX_takeLarge_23 C Wd hf (lv_sub hl [1, 2, 0] rfl)
set_option maxHeartbeats 4000000 in
set_option maxRecDepth 100000 in
theorem bX_grow_47 {p : Program} {l : Launch} {e : Env} {s : State} {m : MethodId} {args : Array Value} {below : List Frame} {meth : Method} {c : Code} {D : va_G} {ad : XA} {A : Nat → Prop} (C : x_C p s m args meth c cX0_grow 5 (some .boolean)) {post : Int32 → XS → Prop} {σ : XS} {H : Heap} {locs : List Loc} {ls : Array Slot} {v2 : Int32} {k0 : Int32} (Wd : x_W D ad σ A s H locs) (hf : wX_grow_47 (x_n ad) (x_lim ad) σ v2 k0 post) (hl : lv_has ls 5 [(0, .ref (x_h ad)), (2, .int v2)]) : W p l e { frames := 2, cells := 0, slots := 0, locals := 70 } s m args below meth c H locs 0 0 (x_Qi below D ad A args s post) (F0 m 47 ls [.int k0]) := by
  refine lv_istore_n (lv' := [(3, .int k0), (0, .ref (x_h ad)), (2, .int v2)]) C.1 C.2.1 dX0_grow_47 rfl hl (by decide) rfl (fun ls hl => ?_)
  refine lv_aload_n C.1 C.2.1 dX0_grow_48 rfl (lv_at hl 1 rfl) ?_
  refine lv_aload_n C.1 C.2.1 dX0_grow_49 rfl (lv_at hl 1 rfl) ?_
  refine x_get_tp C Wd dX0_grow_50 ?_
  refine x_calliv (As := [.int (x_tp σ)]) (rest := []) C Wd (cX_sizeAt l D ad (x_tp σ)) sX_sizeAt (by decide) rfl hl.1 rfl (Nat.le_of_ble_eq_true rfl) (by decide) dX0_grow_53 hf (fun r53 σ53 H locs hf Wd => ?_)
  refine lv_iload_n C.1 C.2.1 dX0_grow_56 rfl (lv_at hl 2 rfl) ?_
  refine lv_iadd C.1 C.2.1 dX0_grow_57 ?_
  refine lv_istore (lv' := [(4, .int (r53 + v2)), (3, .int k0), (0, .ref (x_h ad)), (2, .int v2)]) C.1 C.2.1 dX0_grow_58 hl (by decide) rfl (fun ls hl => ?_)
  refine lv_aload_n C.1 C.2.1 dX0_grow_60 rfl (lv_at hl 2 rfl) ?_
  refine x_get_u C Wd dX0_grow_61 ?_
  refine lv_aload_n C.1 C.2.1 dX0_grow_64 rfl (lv_at hl 2 rfl) ?_
  refine x_get_en C Wd dX0_grow_65 ?_
  refine lv_aload_n C.1 C.2.1 dX0_grow_68 rfl (lv_at hl 2 rfl) ?_
  refine x_get_en C Wd dX0_grow_69 ?_
  refine lv_iload_n C.1 C.2.1 dX0_grow_72 rfl (lv_at hl 3 rfl) ?_
  refine lv_iadd C.1 C.2.1 dX0_grow_73 ?_
  refine lv_iconst (v := 0) C.1 C.2.1 dX0_grow_74 (by decide) ?_
  refine x_fillr_u (rest := []) C Wd hf.1 hl.1 (Nat.le_of_ble_eq_true rfl) (by decide) dX0_grow_75 (fun H locs Wd => ?_)
  replace hf := hf.2
  refine lv_aload_n C.1 C.2.1 dX0_grow_78 rfl (lv_at hl 2 rfl) ?_
  refine lv_dup C.1 C.2.1 dX0_grow_79 rfl ?_
  refine x_get_en C Wd dX0_grow_80 ?_
  refine lv_iload_n C.1 C.2.1 dX0_grow_83 rfl (lv_at hl 3 rfl) ?_
  refine lv_iadd C.1 C.2.1 dX0_grow_84 ?_
  refine x_put_en C Wd dX0_grow_85 (fun H locs Wd => ?_)
  refine lv_aload_n C.1 C.2.1 dX0_grow_88 rfl (lv_at hl 2 rfl) ?_
  refine lv_iload_n C.1 C.2.1 dX0_grow_89 rfl (lv_at hl 1 rfl) ?_
  refine lv_iload C.1 C.2.1 dX0_grow_90 (lv_at hl 0 rfl) ?_
  refine lv_iconst (v := 4) C.1 C.2.1 dX0_grow_92 (by decide) ?_
  refine x_callvv (As := [.int k0, .int (r53 + v2), .int 4]) (rest := []) C Wd (cX_lay l D ad k0 (r53 + v2) 4) sX_lay (by decide) rfl hl.1 rfl (Nat.le_of_ble_eq_true rfl) (by decide) dX0_grow_93 hf (fun σ93 H locs hf Wd => ?_)
  refine lv_iconst (v := 1) C.1 C.2.1 dX0_grow_96 (by decide) ?_
  exact x_zret C Wd (by decide) hf dX0_grow_97
set_option maxHeartbeats 4000000 in
set_option maxRecDepth 100000 in
theorem cX_grow (l : Launch) (D : va_G) (ad : XA) (v1 : Int32) : x_Mi l D yX0_grow cX0_grow 5 (some .boolean) { frames := 2, cells := 0, slots := 0, locals := 70 } ad [.ref (x_h ad), .int v1] (fun σ post => wX_grow (x_n ad) (x_lim ad) σ v1 post) := by
  refine x_ofi ⟨by decide, rfl, Nat.le_of_ble_eq_true rfl⟩ (fun {p e s m args below meth c σ A post ls} C Wd hf hl => ?_)
  replace hl : lv_has ls 5 [(0, .ref (x_h ad)), (1, .int v1)] := hl
  refine lv_iload_n C.1 C.2.1 dX0_grow_0 rfl (lv_at hl 1 rfl) ?_
  refine lv_bipush (v := 16) C.1 C.2.1 dX0_grow_1 (by decide) ?_
  refine lv_iadd C.1 C.2.1 dX0_grow_3 ?_
  refine lv_iconst (v := 1) C.1 C.2.1 dX0_grow_4 (by decide) ?_
  refine lv_isub C.1 C.2.1 dX0_grow_5 ?_
  refine lv_bipush (v := 16) C.1 C.2.1 dX0_grow_6 (by decide) ?_
  refine lv_idiv C.1 C.2.1 dX0_grow_8 (by decide) ?_
  refine lv_bipush (v := 16) C.1 C.2.1 dX0_grow_9 (by decide) ?_
  refine lv_imul C.1 C.2.1 dX0_grow_11 ?_
  refine lv_istore_n (lv' := [(2, .int ((((v1 + 16) - 1) / 16) * 16)), (0, .ref (x_h ad)), (1, .int v1)]) C.1 C.2.1 dX0_grow_12 rfl hl (by decide) rfl (fun ls hl => ?_)
  refine lv_aload_n C.1 C.2.1 dX0_grow_13 rfl (lv_at hl 1 rfl) ?_
  refine x_get_en C Wd dX0_grow_14 ?_
  refine lv_iload_n C.1 C.2.1 dX0_grow_17 rfl (lv_at hl 0 rfl) ?_
  refine lv_iadd C.1 C.2.1 dX0_grow_18 ?_
  refine lv_aload_n C.1 C.2.1 dX0_grow_19 rfl (lv_at hl 1 rfl) ?_
  refine x_get_lim C Wd dX0_grow_20 ?_
  refine lv_icmp_le (tgt := 28) C.1 C.2.1 dX0_grow_23 (by decide) (fun hc => ?_) (fun hc => ?_)
  · replace hf := hf.1 hc
    refine lv_aload_n C.1 C.2.1 dX0_grow_28 rfl (lv_at hl 1 rfl) ?_
    refine x_get_tp C Wd dX0_grow_29 ?_
    refine lv_iconst (v := (-1)) C.1 C.2.1 dX0_grow_32 (by decide) ?_
    refine lv_icmp_ne (tgt := 43) C.1 C.2.1 dX0_grow_33 (by decide) (fun hc => ?_) (fun hc => ?_)
    · replace hf := hf.1 hc
      refine lv_aload_n C.1 C.2.1 dX0_grow_43 rfl (lv_at hl 1 rfl) ?_
      refine x_get_tp C Wd dX0_grow_44 ?_
      exact bX_grow_47 C Wd hf (lv_sub hl [1, 0] rfl)
    · replace hf := hf.2 hc
      refine lv_aload_n C.1 C.2.1 dX0_grow_36 rfl (lv_at hl 1 rfl) ?_
      refine x_get_en C Wd dX0_grow_37 ?_
      refine lv_goto (tgt := 47) C.1 C.2.1 dX0_grow_40 (by decide) ?_
      exact bX_grow_47 C Wd hf (lv_sub hl [1, 0] rfl)
  · replace hf := hf.2 hc
    refine lv_iconst (v := 0) C.1 C.2.1 dX0_grow_26 (by decide) ?_
    exact x_zret C Wd (by decide) hf dX0_grow_27
set_option maxHeartbeats 4000000 in
set_option maxRecDepth 100000 in
theorem bX_takeFromTop_25 {p : Program} {l : Launch} {e : Env} {s : State} {m : MethodId} {args : Array Value} {below : List Frame} {meth : Method} {c : Code} {D : va_G} {ad : XA} {A : Nat → Prop} (C : x_C p s m args meth c cX0_takeFromTop 3 (some .int)) {post : Int32 → XS → Prop} {σ : XS} {H : Heap} {locs : List Loc} {ls : Array Slot} {v1 : Int32} (Wd : x_W D ad σ A s H locs) (hf : wX_takeFromTop_25 (x_n ad) (x_lim ad) σ v1 post) (hl : lv_has ls 3 [(0, .ref (x_h ad)), (1, .int v1)]) : W p l e { frames := 3, cells := 0, slots := 0, locals := 94 } s m args below meth c H locs 0 0 (x_Qi below D ad A args s post) (F0 m 25 ls []) := by
  refine lv_aload_n C.1 C.2.1 dX0_takeFromTop_25 rfl (lv_at hl 0 rfl) ?_
  refine lv_aload_n C.1 C.2.1 dX0_takeFromTop_26 rfl (lv_at hl 0 rfl) ?_
  refine x_get_tp C Wd dX0_takeFromTop_27 ?_
  refine lv_iload_n C.1 C.2.1 dX0_takeFromTop_30 rfl (lv_at hl 1 rfl) ?_
  refine lv_iconst (v := 4) C.1 C.2.1 dX0_takeFromTop_31 (by decide) ?_
  refine x_calliv (As := [.int (x_tp σ), .int v1, .int 4]) (rest := []) C Wd (cX_cut l D ad (x_tp σ) v1 4) sX_cut (by decide) rfl hl.1 rfl (Nat.le_of_ble_eq_true rfl) (by decide) dX0_takeFromTop_32 hf (fun r32 σ32 H locs hf Wd => ?_)
  exact x_iret C Wd hf dX0_takeFromTop_35
set_option maxHeartbeats 4000000 in
set_option maxRecDepth 100000 in
theorem cX_takeFromTop (l : Launch) (D : va_G) (ad : XA) (v1 : Int32) : x_Mi l D yX0_takeFromTop cX0_takeFromTop 3 (some .int) { frames := 3, cells := 0, slots := 0, locals := 94 } ad [.ref (x_h ad), .int v1] (fun σ post => wX_takeFromTop (x_n ad) (x_lim ad) σ v1 post) := by
  refine x_ofi ⟨by decide, rfl, Nat.le_of_ble_eq_true rfl⟩ (fun {p e s m args below meth c σ A post ls} C Wd hf hl => ?_)
  replace hl : lv_has ls 3 [(0, .ref (x_h ad)), (1, .int v1)] := hl
  refine lv_iload_n C.1 C.2.1 dX0_takeFromTop_0 rfl (lv_at hl 1 rfl) ?_
  refine lv_aload_n C.1 C.2.1 dX0_takeFromTop_1 rfl (lv_at hl 0 rfl) ?_
  refine lv_aload_n C.1 C.2.1 dX0_takeFromTop_2 rfl (lv_at hl 0 rfl) ?_
  refine x_get_tp C Wd dX0_takeFromTop_3 ?_
  refine x_calliv (As := [.int (x_tp σ)]) (rest := [.int v1]) C Wd (cX_sizeAt l D ad (x_tp σ)) sX_sizeAt (by decide) rfl hl.1 rfl (Nat.le_of_ble_eq_true rfl) (by decide) dX0_takeFromTop_6 hf (fun r6 σ6 H locs hf Wd => ?_)
  refine lv_isub C.1 C.2.1 dX0_takeFromTop_9 ?_
  refine lv_istore_n (lv' := [(2, .int (v1 - r6)), (0, .ref (x_h ad)), (1, .int v1)]) C.1 C.2.1 dX0_takeFromTop_10 rfl hl (by decide) rfl (fun ls hl => ?_)
  refine lv_iload_n C.1 C.2.1 dX0_takeFromTop_11 rfl (lv_at hl 0 rfl) ?_
  refine lv_if_le (tgt := 25) C.1 C.2.1 dX0_takeFromTop_12 (by decide) (fun hc => ?_) (fun hc => ?_)
  · replace hf := hf.1 hc
    exact bX_takeFromTop_25 C Wd hf (lv_sub hl [1, 2] rfl)
  · replace hf := hf.2 hc
    refine lv_aload_n C.1 C.2.1 dX0_takeFromTop_15 rfl (lv_at hl 1 rfl) ?_
    refine lv_iload_n C.1 C.2.1 dX0_takeFromTop_16 rfl (lv_at hl 0 rfl) ?_
    refine x_calliv (As := [.int (v1 - r6)]) (rest := []) C Wd (cX_grow l D ad (v1 - r6)) sX_grow (by decide) rfl hl.1 rfl (Nat.le_of_ble_eq_true rfl) (by decide) dX0_takeFromTop_17 hf (fun r17 σ17 H locs hf Wd => ?_)
    refine lv_if_ne (tgt := 25) C.1 C.2.1 dX0_takeFromTop_20 (by decide) (fun hc => ?_) (fun hc => ?_)
    · replace hf := hf.1 hc
      exact bX_takeFromTop_25 C Wd hf (lv_sub hl [1, 2] rfl)
    · replace hf := hf.2 hc
      refine lv_iconst (v := (-1)) C.1 C.2.1 dX0_takeFromTop_23 (by decide) ?_
      exact x_iret C Wd hf dX0_takeFromTop_24
set_option maxHeartbeats 4000000 in
set_option maxRecDepth 100000 in
theorem bX_take_19 {p : Program} {l : Launch} {e : Env} {s : State} {m : MethodId} {args : Array Value} {below : List Frame} {meth : Method} {c : Code} {D : va_G} {ad : XA} {A : Nat → Prop} (C : x_C p s m args meth c cX0_take 3 (some .int)) {post : Int32 → XS → Prop} {σ : XS} {H : Heap} {locs : List Loc} {ls : Array Slot} {v1 : Int32} {k0 : Int32} (Wd : x_W D ad σ A s H locs) (hf : wX_take_19 (x_n ad) (x_lim ad) σ v1 k0 post) (hl : lv_has ls 3 [(0, .ref (x_h ad)), (1, .int v1)]) : W p l e { frames := 4, cells := 0, slots := 0, locals := 116 } s m args below meth c H locs 0 0 (x_Qi below D ad A args s post) (F0 m 19 ls [.int k0]) := by
  refine lv_istore_n (lv' := [(2, .int k0), (0, .ref (x_h ad)), (1, .int v1)]) C.1 C.2.1 dX0_take_19 rfl hl (by decide) rfl (fun ls hl => ?_)
  refine lv_iload_n C.1 C.2.1 dX0_take_20 rfl (lv_at hl 0 rfl) ?_
  refine lv_iconst (v := (-1)) C.1 C.2.1 dX0_take_21 (by decide) ?_
  refine lv_icmp_eq (tgt := 29) C.1 C.2.1 dX0_take_22 (by decide) (fun hc => ?_) (fun hc => ?_)
  · replace hf := hf.1 hc
    refine lv_aload_n C.1 C.2.1 dX0_take_29 rfl (lv_at hl 1 rfl) ?_
    refine lv_iload_n C.1 C.2.1 dX0_take_30 rfl (lv_at hl 2 rfl) ?_
    refine x_calliv (As := [.int v1]) (rest := []) C Wd (cX_takeFromTop l D ad v1) sX_takeFromTop (by decide) rfl hl.1 rfl (Nat.le_of_ble_eq_true rfl) (by decide) dX0_take_31 hf (fun r31 σ31 H locs hf Wd => ?_)
    exact x_iret C Wd hf dX0_take_34
  · replace hf := hf.2 hc
    refine lv_iload_n C.1 C.2.1 dX0_take_25 rfl (lv_at hl 0 rfl) ?_
    refine lv_goto (tgt := 34) C.1 C.2.1 dX0_take_26 (by decide) ?_
    exact x_iret C Wd hf dX0_take_34
set_option maxHeartbeats 4000000 in
set_option maxRecDepth 100000 in
theorem cX_take (l : Launch) (D : va_G) (ad : XA) (v1 : Int32) : x_Mi l D yX0_take cX0_take 3 (some .int) { frames := 4, cells := 0, slots := 0, locals := 116 } ad [.ref (x_h ad), .int v1] (fun σ post => wX_take (x_n ad) (x_lim ad) σ v1 post) := by
  refine x_ofi ⟨by decide, rfl, Nat.le_of_ble_eq_true rfl⟩ (fun {p e s m args below meth c σ A post ls} C Wd hf hl => ?_)
  replace hl : lv_has ls 3 [(0, .ref (x_h ad)), (1, .int v1)] := hl
  refine lv_iload_n C.1 C.2.1 dX0_take_0 rfl (lv_at hl 1 rfl) ?_
  refine lv_bipush (v := 16) C.1 C.2.1 dX0_take_1 (by decide) ?_
  refine lv_icmp_ge (tgt := 14) C.1 C.2.1 dX0_take_3 (by decide) (fun hc => ?_) (fun hc => ?_)
  · replace hf := hf.1 hc
    refine lv_aload_n C.1 C.2.1 dX0_take_14 rfl (lv_at hl 0 rfl) ?_
    refine lv_iload_n C.1 C.2.1 dX0_take_15 rfl (lv_at hl 1 rfl) ?_
    refine x_calliv (As := [.int v1]) (rest := []) C Wd (cX_takeLarge l D ad v1) sX_takeLarge (by decide) rfl hl.1 rfl (Nat.le_of_ble_eq_true rfl) (by decide) dX0_take_16 hf (fun r16 σ16 H locs hf Wd => ?_)
    exact bX_take_19 C Wd hf hl
  · replace hf := hf.2 hc
    refine lv_aload_n C.1 C.2.1 dX0_take_6 rfl (lv_at hl 0 rfl) ?_
    refine lv_iload_n C.1 C.2.1 dX0_take_7 rfl (lv_at hl 1 rfl) ?_
    refine x_calliv (As := [.int v1]) (rest := []) C Wd (cX_takeSmall l D ad v1) sX_takeSmall (by decide) rfl hl.1 rfl (Nat.le_of_ble_eq_true rfl) (by decide) dX0_take_8 hf (fun r8 σ8 H locs hf Wd => ?_)
    refine lv_goto (tgt := 19) C.1 C.2.1 dX0_take_11 (by decide) ?_
    exact bX_take_19 C Wd hf hl
set_option maxHeartbeats 4000000 in
set_option maxRecDepth 100000 in
theorem cX_pointerTo (l : Launch) (D : va_G) (ad : XA) (v0 : Int32) : x_Mi l D yX0_pointerTo cX0_pointerTo 1 (some .int) { frames := 0, cells := 0, slots := 0, locals := 0 } ad [.int v0] (fun σ post => wX_pointerTo (x_n ad) (x_lim ad) σ v0 post) := by
  refine x_ofi ⟨by decide, rfl, Nat.le_of_ble_eq_true rfl⟩ (fun {p e s m args below meth c σ A post ls} C Wd hf hl => ?_)
  replace hl : lv_has ls 1 [(0, .int v0)] := hl
  refine lv_iload_n C.1 C.2.1 dX0_pointerTo_0 rfl (lv_at hl 0 rfl) ?_
  refine lv_iconst (v := (-1)) C.1 C.2.1 dX0_pointerTo_1 (by decide) ?_
  refine lv_icmp_ne (tgt := 9) C.1 C.2.1 dX0_pointerTo_2 (by decide) (fun hc => ?_) (fun hc => ?_)
  · replace hf := hf.1 hc
    refine lv_iload_n C.1 C.2.1 dX0_pointerTo_9 rfl (lv_at hl 0 rfl) ?_
    refine lv_iconst (v := 1) C.1 C.2.1 dX0_pointerTo_10 (by decide) ?_
    refine lv_iadd C.1 C.2.1 dX0_pointerTo_11 ?_
    exact x_iret C Wd hf dX0_pointerTo_12
  · replace hf := hf.2 hc
    refine lv_iconst (v := 0) C.1 C.2.1 dX0_pointerTo_5 (by decide) ?_
    refine lv_goto (tgt := 12) C.1 C.2.1 dX0_pointerTo_6 (by decide) ?_
    exact x_iret C Wd hf dX0_pointerTo_12
set_option maxHeartbeats 4000000 in
set_option maxRecDepth 100000 in
theorem cX_malloc (l : Launch) (D : va_G) (ad : XA) (v1 : Int32) : x_Mi l D yX0_malloc cX0_malloc 2 (some .int) { frames := 5, cells := 0, slots := 0, locals := 138 } ad [.ref (x_h ad), .int v1] (fun σ post => wX_malloc (x_n ad) (x_lim ad) σ v1 post) := by
  refine x_ofi ⟨by decide, rfl, Nat.le_of_ble_eq_true rfl⟩ (fun {p e s m args below meth c σ A post ls} C Wd hf hl => ?_)
  replace hl : lv_has ls 2 [(0, .ref (x_h ad)), (1, .int v1)] := hl
  refine lv_iload_n C.1 C.2.1 dX0_malloc_0 rfl (lv_at hl 1 rfl) ?_
  refine lv_sipush (v := 511) C.1 C.2.1 dX0_malloc_1 (by decide) ?_
  refine lv_icmp_le (tgt := 9) C.1 C.2.1 dX0_malloc_4 (by decide) (fun hc => ?_) (fun hc => ?_)
  · replace hf := hf.1 hc
    refine lv_aload_n C.1 C.2.1 dX0_malloc_9 rfl (lv_at hl 0 rfl) ?_
    refine lv_iload_n C.1 C.2.1 dX0_malloc_10 rfl (lv_at hl 1 rfl) ?_
    refine x_callis (As := [.int v1]) (rest := [.ref (x_h ad)]) C Wd (cX_unitsFor l D ad v1) sX_unitsFor (by decide) rfl hl.1 rfl (Nat.le_of_ble_eq_true rfl) (by decide) dX0_malloc_11 hf (fun r11 σ11 H locs hf Wd => ?_)
    refine x_calliv (As := [.int r11]) (rest := []) C Wd (cX_take l D ad r11) sX_take (by decide) rfl hl.1 rfl (Nat.le_of_ble_eq_true rfl) (by decide) dX0_malloc_14 hf (fun r14 σ14 H locs hf Wd => ?_)
    refine x_callis (As := [.int r14]) (rest := []) C Wd (cX_pointerTo l D ad r14) sX_pointerTo (by decide) rfl hl.1 rfl (Nat.le_of_ble_eq_true rfl) (by decide) dX0_malloc_17 hf (fun r17 σ17 H locs hf Wd => ?_)
    exact x_iret C Wd hf dX0_malloc_20
  · replace hf := hf.2 hc
    refine lv_iconst (v := 0) C.1 C.2.1 dX0_malloc_7 (by decide) ?_
    exact x_iret C Wd hf dX0_malloc_8
set_option maxHeartbeats 4000000 in
set_option maxRecDepth 100000 in
theorem cX_isChunk (l : Launch) (D : va_G) (ad : XA) (v1 : Int32) : x_Mi l D yX0_isChunk cX0_isChunk 2 (some .boolean) { frames := 0, cells := 0, slots := 0, locals := 0 } ad [.ref (x_h ad), .int v1] (fun σ post => wX_isChunk (x_n ad) (x_lim ad) σ v1 post) := by
  refine x_ofi ⟨by decide, rfl, Nat.le_of_ble_eq_true rfl⟩ (fun {p e s m args below meth c σ A post ls} C Wd hf hl => ?_)
  replace hl : lv_has ls 2 [(0, .ref (x_h ad)), (1, .int v1)] := hl
  refine lv_iload_n C.1 C.2.1 dX0_isChunk_0 rfl (lv_at hl 1 rfl) ?_
  refine lv_if_lt (tgt := 26) C.1 C.2.1 dX0_isChunk_1 (by decide) (fun hc => ?_) (fun hc => ?_)
  · replace hf := hf.1 hc
    refine lv_iconst (v := 0) C.1 C.2.1 dX0_isChunk_26 (by decide) ?_
    exact x_zret C Wd (by decide) hf dX0_isChunk_27
  · replace hf := hf.2 hc
    refine lv_iload_n C.1 C.2.1 dX0_isChunk_4 rfl (lv_at hl 1 rfl) ?_
    refine lv_aload_n C.1 C.2.1 dX0_isChunk_5 rfl (lv_at hl 0 rfl) ?_
    refine x_get_en C Wd dX0_isChunk_6 ?_
    refine lv_icmp_ge (tgt := 26) C.1 C.2.1 dX0_isChunk_9 (by decide) (fun hc => ?_) (fun hc => ?_)
    · replace hf := hf.1 hc
      refine lv_iconst (v := 0) C.1 C.2.1 dX0_isChunk_26 (by decide) ?_
      exact x_zret C Wd (by decide) hf dX0_isChunk_27
    · replace hf := hf.2 hc
      refine lv_aload_n C.1 C.2.1 dX0_isChunk_12 rfl (lv_at hl 0 rfl) ?_
      refine x_get_t C Wd dX0_isChunk_13 ?_
      refine lv_iload_n C.1 C.2.1 dX0_isChunk_16 rfl (lv_at hl 1 rfl) ?_
      refine x_ald_t C Wd hf.1 dX0_isChunk_17 ?_
      replace hf := hf.2
      refine lv_iconst (v := (-1)) C.1 C.2.1 dX0_isChunk_18 (by decide) ?_
      refine lv_icmp_eq (tgt := 26) C.1 C.2.1 dX0_isChunk_19 (by decide) (fun hc => ?_) (fun hc => ?_)
      · replace hf := hf.1 hc
        refine lv_iconst (v := 0) C.1 C.2.1 dX0_isChunk_26 (by decide) ?_
        exact x_zret C Wd (by decide) hf dX0_isChunk_27
      · replace hf := hf.2 hc
        refine lv_iconst (v := 1) C.1 C.2.1 dX0_isChunk_22 (by decide) ?_
        refine lv_goto (tgt := 27) C.1 C.2.1 dX0_isChunk_23 (by decide) ?_
        exact x_zret C Wd (by decide) hf dX0_isChunk_27
set_option maxHeartbeats 4000000 in
set_option maxRecDepth 100000 in
theorem cX_isPointer (l : Launch) (D : va_G) (ad : XA) (v1 : Int32) : x_Mi l D yX0_isPointer cX0_isPointer 2 (some .boolean) { frames := 1, cells := 0, slots := 0, locals := 21 } ad [.ref (x_h ad), .int v1] (fun σ post => wX_isPointer (x_n ad) (x_lim ad) σ v1 post) := by
  refine x_ofi ⟨by decide, rfl, Nat.le_of_ble_eq_true rfl⟩ (fun {p e s m args below meth c σ A post ls} C Wd hf hl => ?_)
  replace hl : lv_has ls 2 [(0, .ref (x_h ad)), (1, .int v1)] := hl
  refine lv_aload_n C.1 C.2.1 dX0_isPointer_0 rfl (lv_at hl 0 rfl) ?_
  refine lv_iload_n C.1 C.2.1 dX0_isPointer_1 rfl (lv_at hl 1 rfl) ?_
  refine lv_iconst (v := 1) C.1 C.2.1 dX0_isPointer_2 (by decide) ?_
  refine lv_isub C.1 C.2.1 dX0_isPointer_3 ?_
  refine x_calliv (As := [.int (v1 - 1)]) (rest := []) C Wd (cX_isChunk l D ad (v1 - 1)) sX_isChunk (by decide) rfl hl.1 rfl (Nat.le_of_ble_eq_true rfl) (by decide) dX0_isPointer_4 hf (fun r4 σ4 H locs hf Wd => ?_)
  refine lv_if_eq (tgt := 25) C.1 C.2.1 dX0_isPointer_7 (by decide) (fun hc => ?_) (fun hc => ?_)
  · replace hf := hf.1 hc
    refine lv_iconst (v := 0) C.1 C.2.1 dX0_isPointer_25 (by decide) ?_
    exact x_zret C Wd (by decide) hf dX0_isPointer_26
  · replace hf := hf.2 hc
    refine lv_aload_n C.1 C.2.1 dX0_isPointer_10 rfl (lv_at hl 0 rfl) ?_
    refine x_get_t C Wd dX0_isPointer_11 ?_
    refine lv_iload_n C.1 C.2.1 dX0_isPointer_14 rfl (lv_at hl 1 rfl) ?_
    refine lv_iconst (v := 1) C.1 C.2.1 dX0_isPointer_15 (by decide) ?_
    refine lv_isub C.1 C.2.1 dX0_isPointer_16 ?_
    refine x_ald_t C Wd hf.1 dX0_isPointer_17 ?_
    replace hf := hf.2
    refine lv_if_ne (tgt := 25) C.1 C.2.1 dX0_isPointer_18 (by decide) (fun hc => ?_) (fun hc => ?_)
    · replace hf := hf.1 hc
      refine lv_iconst (v := 0) C.1 C.2.1 dX0_isPointer_25 (by decide) ?_
      exact x_zret C Wd (by decide) hf dX0_isPointer_26
    · replace hf := hf.2 hc
      refine lv_iconst (v := 1) C.1 C.2.1 dX0_isPointer_21 (by decide) ?_
      refine lv_goto (tgt := 26) C.1 C.2.1 dX0_isPointer_22 (by decide) ?_
      exact x_zret C Wd (by decide) hf dX0_isPointer_26
set_option maxHeartbeats 4000000 in
set_option maxRecDepth 100000 in
theorem cX_usable (l : Launch) (D : va_G) (ad : XA) (v1 : Int32) : x_Mi l D yX0_usable cX0_usable 2 (some .int) { frames := 2, cells := 0, slots := 0, locals := 42 } ad [.ref (x_h ad), .int v1] (fun σ post => wX_usable (x_n ad) (x_lim ad) σ v1 post) := by
  refine x_ofi ⟨by decide, rfl, Nat.le_of_ble_eq_true rfl⟩ (fun {p e s m args below meth c σ A post ls} C Wd hf hl => ?_)
  replace hl : lv_has ls 2 [(0, .ref (x_h ad)), (1, .int v1)] := hl
  refine lv_aload_n C.1 C.2.1 dX0_usable_0 rfl (lv_at hl 0 rfl) ?_
  refine lv_iload_n C.1 C.2.1 dX0_usable_1 rfl (lv_at hl 1 rfl) ?_
  refine x_calliv (As := [.int v1]) (rest := []) C Wd (cX_isPointer l D ad v1) sX_isPointer (by decide) rfl hl.1 rfl (Nat.le_of_ble_eq_true rfl) (by decide) dX0_usable_2 hf (fun r2 σ2 H locs hf Wd => ?_)
  refine lv_if_eq (tgt := 21) C.1 C.2.1 dX0_usable_5 (by decide) (fun hc => ?_) (fun hc => ?_)
  · replace hf := hf.1 hc
    refine lv_iconst (v := 0) C.1 C.2.1 dX0_usable_21 (by decide) ?_
    exact x_iret C Wd hf dX0_usable_22
  · replace hf := hf.2 hc
    refine lv_aload_n C.1 C.2.1 dX0_usable_8 rfl (lv_at hl 0 rfl) ?_
    refine x_get_z C Wd dX0_usable_9 ?_
    refine lv_iload_n C.1 C.2.1 dX0_usable_12 rfl (lv_at hl 1 rfl) ?_
    refine lv_iconst (v := 1) C.1 C.2.1 dX0_usable_13 (by decide) ?_
    refine lv_isub C.1 C.2.1 dX0_usable_14 ?_
    refine x_ald_z C Wd hf.1 dX0_usable_15 ?_
    replace hf := hf.2
    refine lv_iconst (v := 1) C.1 C.2.1 dX0_usable_16 (by decide) ?_
    refine lv_isub C.1 C.2.1 dX0_usable_17 ?_
    refine lv_goto (tgt := 22) C.1 C.2.1 dX0_usable_18 (by decide) ?_
    exact x_iret C Wd hf dX0_usable_22
end
section
set_option maxHeartbeats 4000000 in
set_option maxRecDepth 100000 in
theorem cX_calloc (l : Launch) (D : va_G) (ad : XA) (v1 : Int32) : x_Mi l D yX0_calloc cX0_calloc 3 (some .int) { frames := 6, cells := 0, slots := 0, locals := 159 } ad [.ref (x_h ad), .int v1] (fun σ post => wX_calloc (x_n ad) (x_lim ad) σ v1 post) := by
  refine x_ofi ⟨by decide, rfl, Nat.le_of_ble_eq_true rfl⟩ (fun {p e s m args below meth c σ A post ls} C Wd hf hl => ?_)
  replace hl : lv_has ls 3 [(0, .ref (x_h ad)), (1, .int v1)] := hl
  refine lv_aload_n C.1 C.2.1 dX0_calloc_0 rfl (lv_at hl 0 rfl) ?_
  refine lv_iload_n C.1 C.2.1 dX0_calloc_1 rfl (lv_at hl 1 rfl) ?_
  refine x_calliv (As := [.int v1]) (rest := []) C Wd (cX_malloc l D ad v1) sX_malloc (by decide) rfl hl.1 rfl (Nat.le_of_ble_eq_true rfl) (by decide) dX0_calloc_2 hf (fun r2 σ2 H locs hf Wd => ?_)
  refine lv_istore_n (lv' := [(2, .int r2), (0, .ref (x_h ad)), (1, .int v1)]) C.1 C.2.1 dX0_calloc_5 rfl hl (by decide) rfl (fun ls hl => ?_)
  refine lv_aload_n C.1 C.2.1 dX0_calloc_6 rfl (lv_at hl 1 rfl) ?_
  refine lv_iload_n C.1 C.2.1 dX0_calloc_7 rfl (lv_at hl 0 rfl) ?_
  refine x_calliv (As := [.int r2]) (rest := []) C Wd (cX_isPointer l D ad r2) sX_isPointer (by decide) rfl hl.1 rfl (Nat.le_of_ble_eq_true rfl) (by decide) dX0_calloc_8 hf (fun r8 σ8 H locs hf Wd => ?_)
  refine lv_if_eq (tgt := 30) C.1 C.2.1 dX0_calloc_11 (by decide) (fun hc => ?_) (fun hc => ?_)
  · replace hf := hf.1 hc
    refine lv_iload_n C.1 C.2.1 dX0_calloc_30 rfl (lv_at hl 0 rfl) ?_
    exact x_iret C Wd hf dX0_calloc_31
  · replace hf := hf.2 hc
    refine lv_aload_n C.1 C.2.1 dX0_calloc_14 rfl (lv_at hl 1 rfl) ?_
    refine x_get_u C Wd dX0_calloc_15 ?_
    refine lv_iload_n C.1 C.2.1 dX0_calloc_18 rfl (lv_at hl 0 rfl) ?_
    refine lv_iload_n C.1 C.2.1 dX0_calloc_19 rfl (lv_at hl 0 rfl) ?_
    refine lv_aload_n C.1 C.2.1 dX0_calloc_20 rfl (lv_at hl 1 rfl) ?_
    refine lv_iload_n C.1 C.2.1 dX0_calloc_21 rfl (lv_at hl 0 rfl) ?_
    refine x_calliv (As := [.int r2]) (rest := [.int r2, .int r2, .ref (x_au ad)]) C Wd (cX_usable l D ad r2) sX_usable (by decide) rfl hl.1 rfl (Nat.le_of_ble_eq_true rfl) (by decide) dX0_calloc_22 hf (fun r22 σ22 H locs hf Wd => ?_)
    refine lv_iadd C.1 C.2.1 dX0_calloc_25 ?_
    refine lv_iconst (v := 0) C.1 C.2.1 dX0_calloc_26 (by decide) ?_
    refine x_fillr_u (rest := []) C Wd hf.1 hl.1 (Nat.le_of_ble_eq_true rfl) (by decide) dX0_calloc_27 (fun H locs Wd => ?_)
    replace hf := hf.2
    refine lv_iload_n C.1 C.2.1 dX0_calloc_30 rfl (lv_at hl 0 rfl) ?_
    exact x_iret C Wd hf dX0_calloc_31
set_option maxHeartbeats 4000000 in
set_option maxRecDepth 100000 in
theorem bX_chunkBefore_4_f {p : Program} {l : Launch} {e : Env} {s : State} {m : MethodId} {args : Array Value} {below : List Frame} {meth : Method} {c : Code} {D : va_G} {ad : XA} {A : Nat → Prop} (C : x_C p s m args meth c cX0_chunkBefore 3 (some .int)) {post : Int32 → XS → Prop} : ∀ (f : Nat) (σ : XS) (H : Heap) (locs : List Loc) (ls : Array Slot) (v2 : Int32), x_W D ad σ A s H locs → wX_chunkBefore_4 (x_n ad) (x_lim ad) post f σ v2 → lv_has ls 3 [(0, .ref (x_h ad)), (2, .int v2)] → W p l e { frames := 0, cells := 0, slots := 0, locals := 0 } s m args below meth c H locs 0 0 (x_Qi below D ad A args s post) (F0 m 4 ls []) := by
  intro f
  induction f with
  | zero => intro σ H locs ls v2 Wd hf hl; exact False.elim hf
  | succ f ih =>
    intro σ H locs ls v2 Wd hf hl
    replace hf : wX_chunkBefore_4_s (x_n ad) (x_lim ad) post (wX_chunkBefore_4 (x_n ad) (x_lim ad) post f) σ v2 := hf
    refine lv_iload_n C.1 C.2.1 dX0_chunkBefore_4 rfl (lv_at hl 1 rfl) ?_
    refine lv_if_lt (tgt := 26) C.1 C.2.1 dX0_chunkBefore_5 (by decide) (fun hc => ?_) (fun hc => ?_)
    · replace hf := hf.1 hc
      refine lv_iconst (v := (-1)) C.1 C.2.1 dX0_chunkBefore_26 (by decide) ?_
      exact x_iret C Wd hf dX0_chunkBefore_27
    · replace hf := hf.2 hc
      refine lv_aload_n C.1 C.2.1 dX0_chunkBefore_8 rfl (lv_at hl 0 rfl) ?_
      refine x_get_t C Wd dX0_chunkBefore_9 ?_
      refine lv_iload_n C.1 C.2.1 dX0_chunkBefore_12 rfl (lv_at hl 1 rfl) ?_
      refine x_ald_t C Wd hf.1 dX0_chunkBefore_13 ?_
      replace hf := hf.2
      refine lv_iconst (v := (-1)) C.1 C.2.1 dX0_chunkBefore_14 (by decide) ?_
      refine lv_icmp_eq (tgt := 20) C.1 C.2.1 dX0_chunkBefore_15 (by decide) (fun hc => ?_) (fun hc => ?_)
      · replace hf := hf.1 hc
        refine lv_iinc (v := v2 + (-1)) (lv' := [(2, .int (v2 + (-1))), (0, .ref (x_h ad))]) C.1 C.2.1 dX0_chunkBefore_20 hl (k := 1) rfl rfl (by decide) rfl (fun ls hl => ?_)
        refine lv_goto (tgt := 4) C.1 C.2.1 dX0_chunkBefore_23 (by decide) ?_
        exact ih _ _ _ _ _  Wd hf (lv_sub hl [1, 0] rfl)
      · replace hf := hf.2 hc
        refine lv_iload_n C.1 C.2.1 dX0_chunkBefore_18 rfl (lv_at hl 1 rfl) ?_
        exact x_iret C Wd hf dX0_chunkBefore_19
theorem bX_chunkBefore_4 {p : Program} {l : Launch} {e : Env} {s : State} {m : MethodId} {args : Array Value} {below : List Frame} {meth : Method} {c : Code} {D : va_G} {ad : XA} {A : Nat → Prop} (C : x_C p s m args meth c cX0_chunkBefore 3 (some .int)) {post : Int32 → XS → Prop} {σ : XS} {H : Heap} {locs : List Loc} {ls : Array Slot} {v2 : Int32} (Wd : x_W D ad σ A s H locs) (hf : ∃ f : Nat, wX_chunkBefore_4 (x_n ad) (x_lim ad) post f σ v2) (hl : lv_has ls 3 [(0, .ref (x_h ad)), (2, .int v2)]) : W p l e { frames := 0, cells := 0, slots := 0, locals := 0 } s m args below meth c H locs 0 0 (x_Qi below D ad A args s post) (F0 m 4 ls []) := by
  obtain ⟨f, hf⟩ := hf
  exact bX_chunkBefore_4_f C f σ H locs ls v2 Wd hf hl
set_option maxHeartbeats 4000000 in
set_option maxRecDepth 100000 in
theorem cX_chunkBefore (l : Launch) (D : va_G) (ad : XA) (v1 : Int32) : x_Mi l D yX0_chunkBefore cX0_chunkBefore 3 (some .int) { frames := 0, cells := 0, slots := 0, locals := 0 } ad [.ref (x_h ad), .int v1] (fun σ post => wX_chunkBefore (x_n ad) (x_lim ad) σ v1 post) := by
  refine x_ofi ⟨by decide, rfl, Nat.le_of_ble_eq_true rfl⟩ (fun {p e s m args below meth c σ A post ls} C Wd hf hl => ?_)
  replace hl : lv_has ls 3 [(0, .ref (x_h ad)), (1, .int v1)] := hl
  refine lv_iload_n C.1 C.2.1 dX0_chunkBefore_0 rfl (lv_at hl 1 rfl) ?_
  refine lv_iconst (v := 1) C.1 C.2.1 dX0_chunkBefore_1 (by decide) ?_
  refine lv_isub C.1 C.2.1 dX0_chunkBefore_2 ?_
  refine lv_istore_n (lv' := [(2, .int (v1 - 1)), (0, .ref (x_h ad)), (1, .int v1)]) C.1 C.2.1 dX0_chunkBefore_3 rfl hl (by decide) rfl (fun ls hl => ?_)
  exact bX_chunkBefore_4 C Wd hf (lv_sub hl [1, 0] rfl)
set_option maxHeartbeats 4000000 in
set_option maxRecDepth 100000 in
theorem cX_isFree (l : Launch) (D : va_G) (ad : XA) (v1 : Int32) : x_Mi l D yX0_isFree cX0_isFree 2 (some .boolean) { frames := 1, cells := 0, slots := 0, locals := 21 } ad [.ref (x_h ad), .int v1] (fun σ post => wX_isFree (x_n ad) (x_lim ad) σ v1 post) := by
  refine x_ofi ⟨by decide, rfl, Nat.le_of_ble_eq_true rfl⟩ (fun {p e s m args below meth c σ A post ls} C Wd hf hl => ?_)
  replace hl : lv_has ls 2 [(0, .ref (x_h ad)), (1, .int v1)] := hl
  refine lv_aload_n C.1 C.2.1 dX0_isFree_0 rfl (lv_at hl 0 rfl) ?_
  refine lv_iload_n C.1 C.2.1 dX0_isFree_1 rfl (lv_at hl 1 rfl) ?_
  refine x_calliv (As := [.int v1]) (rest := []) C Wd (cX_isChunk l D ad v1) sX_isChunk (by decide) rfl hl.1 rfl (Nat.le_of_ble_eq_true rfl) (by decide) dX0_isFree_2 hf (fun r2 σ2 H locs hf Wd => ?_)
  refine lv_if_eq (tgt := 21) C.1 C.2.1 dX0_isFree_5 (by decide) (fun hc => ?_) (fun hc => ?_)
  · replace hf := hf.1 hc
    refine lv_iconst (v := 0) C.1 C.2.1 dX0_isFree_21 (by decide) ?_
    exact x_zret C Wd (by decide) hf dX0_isFree_22
  · replace hf := hf.2 hc
    refine lv_aload_n C.1 C.2.1 dX0_isFree_8 rfl (lv_at hl 0 rfl) ?_
    refine x_get_t C Wd dX0_isFree_9 ?_
    refine lv_iload_n C.1 C.2.1 dX0_isFree_12 rfl (lv_at hl 1 rfl) ?_
    refine x_ald_t C Wd hf.1 dX0_isFree_13 ?_
    replace hf := hf.2
    refine lv_if_eq (tgt := 21) C.1 C.2.1 dX0_isFree_14 (by decide) (fun hc => ?_) (fun hc => ?_)
    · replace hf := hf.1 hc
      refine lv_iconst (v := 0) C.1 C.2.1 dX0_isFree_21 (by decide) ?_
      exact x_zret C Wd (by decide) hf dX0_isFree_22
    · replace hf := hf.2 hc
      refine lv_iconst (v := 1) C.1 C.2.1 dX0_isFree_17 (by decide) ?_
      refine lv_goto (tgt := 22) C.1 C.2.1 dX0_isFree_18 (by decide) ?_
      exact x_zret C Wd (by decide) hf dX0_isFree_22
set_option maxHeartbeats 4000000 in
set_option maxRecDepth 100000 in
theorem bX_release_95 {p : Program} {l : Launch} {e : Env} {s : State} {m : MethodId} {args : Array Value} {below : List Frame} {meth : Method} {c : Code} {D : va_G} {ad : XA} {A : Nat → Prop} (C : x_C p s m args meth c cX0_release 7 none) {post : XS → Prop} {σ : XS} {H : Heap} {locs : List Loc} {ls : Array Slot} {v4 : Int32} {v5 : Int32} {v6 : Int32} (Wd : x_W D ad σ A s H locs) (hf : wX_release_95 (x_n ad) (x_lim ad) σ v4 v5 v6 post) (hl : lv_has ls 7 [(0, .ref (x_h ad)), (4, .int v4), (5, .int v5), (6, .int v6)]) : W p l e { frames := 2, cells := 0, slots := 0, locals := 42 } s m args below meth c H locs 0 0 (x_Qv below D ad A args s post) (F0 m 95 ls []) := by
  refine lv_iload C.1 C.2.1 dX0_release_95 (lv_at hl 2 rfl) ?_
  refine lv_iload C.1 C.2.1 dX0_release_97 (lv_at hl 3 rfl) ?_
  refine lv_iadd C.1 C.2.1 dX0_release_99 ?_
  refine lv_aload_n C.1 C.2.1 dX0_release_100 rfl (lv_at hl 0 rfl) ?_
  refine x_get_en C Wd dX0_release_101 ?_
  refine lv_icmp_ne (tgt := 119) C.1 C.2.1 dX0_release_104 (by decide) (fun hc => ?_) (fun hc => ?_)
  · replace hf := hf.1 hc
    refine lv_aload_n C.1 C.2.1 dX0_release_119 rfl (lv_at hl 0 rfl) ?_
    refine lv_iload C.1 C.2.1 dX0_release_120 (lv_at hl 2 rfl) ?_
    refine lv_iload C.1 C.2.1 dX0_release_122 (lv_at hl 3 rfl) ?_
    refine lv_iload C.1 C.2.1 dX0_release_124 (lv_at hl 1 rfl) ?_
    refine lv_if_eq (tgt := 133) C.1 C.2.1 dX0_release_126 (by decide) (fun hc => ?_) (fun hc => ?_)
    · replace hf := hf.1 hc
      refine lv_iconst (v := 2) C.1 C.2.1 dX0_release_133 (by decide) ?_
      refine x_callvv (As := [.int v5, .int v6, .int 2]) (rest := []) C Wd (cX_lay l D ad v5 v6 2) sX_lay (by decide) rfl hl.1 rfl (Nat.le_of_ble_eq_true rfl) (by decide) dX0_release_134 hf (fun σ134 H locs hf Wd => ?_)
      exact x_vret C Wd hf dX0_release_137
    · replace hf := hf.2 hc
      refine lv_iconst (v := 3) C.1 C.2.1 dX0_release_129 (by decide) ?_
      refine lv_goto (tgt := 134) C.1 C.2.1 dX0_release_130 (by decide) ?_
      refine x_callvv (As := [.int v5, .int v6, .int 3]) (rest := []) C Wd (cX_lay l D ad v5 v6 3) sX_lay (by decide) rfl hl.1 rfl (Nat.le_of_ble_eq_true rfl) (by decide) dX0_release_134 hf (fun σ134 H locs hf Wd => ?_)
      exact x_vret C Wd hf dX0_release_137
  · replace hf := hf.2 hc
    refine lv_aload_n C.1 C.2.1 dX0_release_107 rfl (lv_at hl 0 rfl) ?_
    refine lv_iload C.1 C.2.1 dX0_release_108 (lv_at hl 2 rfl) ?_
    refine lv_iload C.1 C.2.1 dX0_release_110 (lv_at hl 3 rfl) ?_
    refine lv_iconst (v := 4) C.1 C.2.1 dX0_release_112 (by decide) ?_
    refine x_callvv (As := [.int v5, .int v6, .int 4]) (rest := []) C Wd (cX_lay l D ad v5 v6 4) sX_lay (by decide) rfl hl.1 rfl (Nat.le_of_ble_eq_true rfl) (by decide) dX0_release_113 hf (fun σ113 H locs hf Wd => ?_)
    refine lv_goto (tgt := 137) C.1 C.2.1 dX0_release_116 (by decide) ?_
    exact x_vret C Wd hf dX0_release_137
set_option maxHeartbeats 4000000 in
set_option maxRecDepth 100000 in
theorem bX_release_74 {p : Program} {l : Launch} {e : Env} {s : State} {m : MethodId} {args : Array Value} {below : List Frame} {meth : Method} {c : Code} {D : va_G} {ad : XA} {A : Nat → Prop} (C : x_C p s m args meth c cX0_release 7 none) {post : XS → Prop} {σ : XS} {H : Heap} {locs : List Loc} {ls : Array Slot} {v2 : Int32} {v4 : Int32} {v5 : Int32} {v6 : Int32} (Wd : x_W D ad σ A s H locs) (hf : wX_release_74 (x_n ad) (x_lim ad) σ v2 v4 v5 v6 post) (hl : lv_has ls 7 [(0, .ref (x_h ad)), (2, .int v2), (4, .int v4), (5, .int v5), (6, .int v6)]) : W p l e { frames := 2, cells := 0, slots := 0, locals := 42 } s m args below meth c H locs 0 0 (x_Qv below D ad A args s post) (F0 m 74 ls []) := by
  refine lv_aload_n C.1 C.2.1 dX0_release_74 rfl (lv_at hl 0 rfl) ?_
  refine lv_iload_n C.1 C.2.1 dX0_release_75 rfl (lv_at hl 1 rfl) ?_
  refine x_calliv (As := [.int v2]) (rest := []) C Wd (cX_isFree l D ad v2) sX_isFree (by decide) rfl hl.1 rfl (Nat.le_of_ble_eq_true rfl) (by decide) dX0_release_76 hf (fun r76 σ76 H locs hf Wd => ?_)
  refine lv_if_eq (tgt := 95) C.1 C.2.1 dX0_release_79 (by decide) (fun hc => ?_) (fun hc => ?_)
  · replace hf := hf.1 hc
    exact bX_release_95 C Wd hf (lv_sub hl [0, 2, 3, 4] rfl)
  · replace hf := hf.2 hc
    refine lv_iload C.1 C.2.1 dX0_release_82 (lv_at hl 4 rfl) ?_
    refine lv_aload_n C.1 C.2.1 dX0_release_84 rfl (lv_at hl 0 rfl) ?_
    refine lv_iload_n C.1 C.2.1 dX0_release_85 rfl (lv_at hl 1 rfl) ?_
    refine x_calliv (As := [.int v2]) (rest := [.int v6]) C Wd (cX_lift l D ad v2) sX_lift (by decide) rfl hl.1 rfl (Nat.le_of_ble_eq_true rfl) (by decide) dX0_release_86 hf (fun r86 σ86 H locs hf Wd => ?_)
    refine lv_iadd C.1 C.2.1 dX0_release_89 ?_
    refine lv_istore (lv' := [(6, .int (v6 + r86)), (0, .ref (x_h ad)), (2, .int v2), (4, .int v4), (5, .int v5)]) C.1 C.2.1 dX0_release_90 hl (by decide) rfl (fun ls hl => ?_)
    refine lv_iload_n C.1 C.2.1 dX0_release_92 rfl (lv_at hl 2 rfl) ?_
    refine lv_istore (lv' := [(5, .int v2), (6, .int (v6 + r86)), (0, .ref (x_h ad)), (2, .int v2), (4, .int v4)]) C.1 C.2.1 dX0_release_93 hl (by decide) rfl (fun ls hl => ?_)
    exact bX_release_95 C Wd hf (lv_sub hl [2, 4, 0, 1] rfl)
set_option maxHeartbeats 4000000 in
set_option maxRecDepth 100000 in
theorem bX_release_44 {p : Program} {l : Launch} {e : Env} {s : State} {m : MethodId} {args : Array Value} {below : List Frame} {meth : Method} {c : Code} {D : va_G} {ad : XA} {A : Nat → Prop} (C : x_C p s m args meth c cX0_release 7 none) {post : XS → Prop} {σ : XS} {H : Heap} {locs : List Loc} {ls : Array Slot} {v1 : Int32} {v2 : Int32} {v3 : Int32} {k0 : Int32} (Wd : x_W D ad σ A s H locs) (hf : wX_release_44 (x_n ad) (x_lim ad) σ v1 v2 v3 k0 post) (hl : lv_has ls 7 [(0, .ref (x_h ad)), (1, .int v1), (2, .int v2), (3, .int v3)]) : W p l e { frames := 2, cells := 0, slots := 0, locals := 42 } s m args below meth c H locs 0 0 (x_Qv below D ad A args s post) (F0 m 44 ls [.int k0]) := by
  refine lv_istore (lv' := [(4, .int k0), (0, .ref (x_h ad)), (1, .int v1), (2, .int v2), (3, .int v3)]) C.1 C.2.1 dX0_release_44 hl (by decide) rfl (fun ls hl => ?_)
  refine lv_iload_n C.1 C.2.1 dX0_release_46 rfl (lv_at hl 2 rfl) ?_
  refine lv_istore (lv' := [(5, .int v1), (4, .int k0), (0, .ref (x_h ad)), (1, .int v1), (2, .int v2), (3, .int v3)]) C.1 C.2.1 dX0_release_47 hl (by decide) rfl (fun ls hl => ?_)
  refine lv_aload_n C.1 C.2.1 dX0_release_49 rfl (lv_at hl 2 rfl) ?_
  refine lv_iload_n C.1 C.2.1 dX0_release_50 rfl (lv_at hl 3 rfl) ?_
  refine x_calliv (As := [.int v1]) (rest := []) C Wd (cX_lift l D ad v1) sX_lift (by decide) rfl hl.1 rfl (Nat.le_of_ble_eq_true rfl) (by decide) dX0_release_51 hf (fun r51 σ51 H locs hf Wd => ?_)
  refine lv_istore (lv' := [(6, .int r51), (5, .int v1), (4, .int k0), (0, .ref (x_h ad)), (1, .int v1), (2, .int v2), (3, .int v3)]) C.1 C.2.1 dX0_release_54 hl (by decide) rfl (fun ls hl => ?_)
  refine lv_aload_n C.1 C.2.1 dX0_release_56 rfl (lv_at hl 3 rfl) ?_
  refine lv_iload_n C.1 C.2.1 dX0_release_57 rfl (lv_at hl 6 rfl) ?_
  refine x_calliv (As := [.int v3]) (rest := []) C Wd (cX_isFree l D ad v3) sX_isFree (by decide) rfl hl.1 rfl (Nat.le_of_ble_eq_true rfl) (by decide) dX0_release_58 hf (fun r58 σ58 H locs hf Wd => ?_)
  refine lv_if_eq (tgt := 74) C.1 C.2.1 dX0_release_61 (by decide) (fun hc => ?_) (fun hc => ?_)
  · replace hf := hf.1 hc
    exact bX_release_74 C Wd hf (lv_sub hl [3, 5, 2, 1, 0] rfl)
  · replace hf := hf.2 hc
    refine lv_iload C.1 C.2.1 dX0_release_64 (lv_at hl 0 rfl) ?_
    refine lv_aload_n C.1 C.2.1 dX0_release_66 rfl (lv_at hl 3 rfl) ?_
    refine lv_iload_n C.1 C.2.1 dX0_release_67 rfl (lv_at hl 6 rfl) ?_
    refine x_calliv (As := [.int v3]) (rest := [.int r51]) C Wd (cX_lift l D ad v3) sX_lift (by decide) rfl hl.1 rfl (Nat.le_of_ble_eq_true rfl) (by decide) dX0_release_68 hf (fun r68 σ68 H locs hf Wd => ?_)
    refine lv_iadd C.1 C.2.1 dX0_release_71 ?_
    refine lv_istore (lv' := [(6, .int (r51 + r68)), (5, .int v1), (4, .int k0), (0, .ref (x_h ad)), (1, .int v1), (2, .int v2), (3, .int v3)]) C.1 C.2.1 dX0_release_72 hl (by decide) rfl (fun ls hl => ?_)
    exact bX_release_74 C Wd hf (lv_sub hl [3, 5, 2, 1, 0] rfl)
set_option maxHeartbeats 4000000 in
set_option maxRecDepth 100000 in
theorem cX_release (l : Launch) (D : va_G) (ad : XA) (v1 : Int32) : x_Mv l D yX0_release cX0_release 7 none { frames := 2, cells := 0, slots := 0, locals := 42 } ad [.ref (x_h ad), .int v1] (fun σ post => wX_release (x_n ad) (x_lim ad) σ v1 post) := by
  refine x_ofv ⟨by decide, rfl, Nat.le_of_ble_eq_true rfl⟩ (fun {p e s m args below meth c σ A post ls} C Wd hf hl => ?_)
  replace hl : lv_has ls 7 [(0, .ref (x_h ad)), (1, .int v1)] := hl
  refine lv_aload_n C.1 C.2.1 dX0_release_0 rfl (lv_at hl 0 rfl) ?_
  refine lv_iload_n C.1 C.2.1 dX0_release_1 rfl (lv_at hl 1 rfl) ?_
  refine x_calliv (As := [.int v1]) (rest := []) C Wd (cX_chunkBefore l D ad v1) sX_chunkBefore (by decide) rfl hl.1 rfl (Nat.le_of_ble_eq_true rfl) (by decide) dX0_release_2 hf (fun r2 σ2 H locs hf Wd => ?_)
  refine lv_istore_n (lv' := [(2, .int r2), (0, .ref (x_h ad)), (1, .int v1)]) C.1 C.2.1 dX0_release_5 rfl hl (by decide) rfl (fun ls hl => ?_)
  refine lv_iload_n C.1 C.2.1 dX0_release_6 rfl (lv_at hl 2 rfl) ?_
  refine lv_aload_n C.1 C.2.1 dX0_release_7 rfl (lv_at hl 1 rfl) ?_
  refine x_get_z C Wd dX0_release_8 ?_
  refine lv_iload_n C.1 C.2.1 dX0_release_11 rfl (lv_at hl 2 rfl) ?_
  refine x_ald_z C Wd hf.1 dX0_release_12 ?_
  replace hf := hf.2
  refine lv_iadd C.1 C.2.1 dX0_release_13 ?_
  refine lv_istore_n (lv' := [(3, .int (v1 + (x_z σ2 v1.toNatClampNeg))), (2, .int r2), (0, .ref (x_h ad)), (1, .int v1)]) C.1 C.2.1 dX0_release_14 rfl hl (by decide) rfl (fun ls hl => ?_)
  refine lv_aload_n C.1 C.2.1 dX0_release_15 rfl (lv_at hl 2 rfl) ?_
  refine x_get_vi C Wd dX0_release_16 ?_
  refine lv_iconst (v := (-1)) C.1 C.2.1 dX0_release_19 (by decide) ?_
  refine lv_icmp_eq (tgt := 43) C.1 C.2.1 dX0_release_20 (by decide) (fun hc => ?_) (fun hc => ?_)
  · replace hf := hf.1 hc
    refine lv_iconst (v := 0) C.1 C.2.1 dX0_release_43 (by decide) ?_
    exact bX_release_44 C Wd hf (lv_sub hl [2, 3, 1, 0] rfl)
  · replace hf := hf.2 hc
    refine lv_aload_n C.1 C.2.1 dX0_release_23 rfl (lv_at hl 2 rfl) ?_
    refine x_get_vi C Wd dX0_release_24 ?_
    refine lv_iload_n C.1 C.2.1 dX0_release_27 rfl (lv_at hl 1 rfl) ?_
    refine lv_icmp_eq (tgt := 39) C.1 C.2.1 dX0_release_28 (by decide) (fun hc => ?_) (fun hc => ?_)
    · replace hf := hf.1 hc
      refine lv_iconst (v := 1) C.1 C.2.1 dX0_release_39 (by decide) ?_
      refine lv_goto (tgt := 44) C.1 C.2.1 dX0_release_40 (by decide) ?_
      exact bX_release_44 C Wd hf (lv_sub hl [2, 3, 1, 0] rfl)
    · replace hf := hf.2 hc
      refine lv_aload_n C.1 C.2.1 dX0_release_31 rfl (lv_at hl 2 rfl) ?_
      refine x_get_vi C Wd dX0_release_32 ?_
      refine lv_iload_n C.1 C.2.1 dX0_release_35 rfl (lv_at hl 0 rfl) ?_
      refine lv_icmp_ne (tgt := 43) C.1 C.2.1 dX0_release_36 (by decide) (fun hc => ?_) (fun hc => ?_)
      · replace hf := hf.1 hc
        refine lv_iconst (v := 0) C.1 C.2.1 dX0_release_43 (by decide) ?_
        exact bX_release_44 C Wd hf (lv_sub hl [2, 3, 1, 0] rfl)
      · replace hf := hf.2 hc
        refine lv_iconst (v := 1) C.1 C.2.1 dX0_release_39 (by decide) ?_
        refine lv_goto (tgt := 44) C.1 C.2.1 dX0_release_40 (by decide) ?_
        exact bX_release_44 C Wd hf (lv_sub hl [2, 3, 1, 0] rfl)
set_option maxHeartbeats 4000000 in
set_option maxRecDepth 100000 in
theorem cX_free (l : Launch) (D : va_G) (ad : XA) (v1 : Int32) : x_Mi l D yX0_free cX0_free 2 (some .boolean) { frames := 3, cells := 0, slots := 0, locals := 68 } ad [.ref (x_h ad), .int v1] (fun σ post => wX_free (x_n ad) (x_lim ad) σ v1 post) := by
  refine x_ofi ⟨by decide, rfl, Nat.le_of_ble_eq_true rfl⟩ (fun {p e s m args below meth c σ A post ls} C Wd hf hl => ?_)
  replace hl : lv_has ls 2 [(0, .ref (x_h ad)), (1, .int v1)] := hl
  refine lv_aload_n C.1 C.2.1 dX0_free_0 rfl (lv_at hl 0 rfl) ?_
  refine lv_iload_n C.1 C.2.1 dX0_free_1 rfl (lv_at hl 1 rfl) ?_
  refine x_calliv (As := [.int v1]) (rest := []) C Wd (cX_isPointer l D ad v1) sX_isPointer (by decide) rfl hl.1 rfl (Nat.le_of_ble_eq_true rfl) (by decide) dX0_free_2 hf (fun r2 σ2 H locs hf Wd => ?_)
  refine lv_if_ne (tgt := 10) C.1 C.2.1 dX0_free_5 (by decide) (fun hc => ?_) (fun hc => ?_)
  · replace hf := hf.1 hc
    refine lv_aload_n C.1 C.2.1 dX0_free_10 rfl (lv_at hl 0 rfl) ?_
    refine lv_iload_n C.1 C.2.1 dX0_free_11 rfl (lv_at hl 1 rfl) ?_
    refine lv_iconst (v := 1) C.1 C.2.1 dX0_free_12 (by decide) ?_
    refine lv_isub C.1 C.2.1 dX0_free_13 ?_
    refine x_callvv (As := [.int (v1 - 1)]) (rest := []) C Wd (cX_release l D ad (v1 - 1)) sX_release (by decide) rfl hl.1 rfl (Nat.le_of_ble_eq_true rfl) (by decide) dX0_free_14 hf (fun σ14 H locs hf Wd => ?_)
    refine lv_iconst (v := 1) C.1 C.2.1 dX0_free_17 (by decide) ?_
    exact x_zret C Wd (by decide) hf dX0_free_18
  · replace hf := hf.2 hc
    refine lv_iconst (v := 0) C.1 C.2.1 dX0_free_8 (by decide) ?_
    exact x_zret C Wd (by decide) hf dX0_free_9
set_option maxHeartbeats 4000000 in
set_option maxRecDepth 100000 in
theorem cX_shorten (l : Launch) (D : va_G) (ad : XA) (v1 : Int32) (v2 : Int32) : x_Mv l D yX0_shorten cX0_shorten 3 none { frames := 3, cells := 0, slots := 0, locals := 68 } ad [.ref (x_h ad), .int v1, .int v2] (fun σ post => wX_shorten (x_n ad) (x_lim ad) σ v1 v2 post) := by
  refine x_ofv ⟨by decide, rfl, Nat.le_of_ble_eq_true rfl⟩ (fun {p e s m args below meth c σ A post ls} C Wd hf hl => ?_)
  replace hl : lv_has ls 3 [(0, .ref (x_h ad)), (1, .int v1), (2, .int v2)] := hl
  refine lv_aload_n C.1 C.2.1 dX0_shorten_0 rfl (lv_at hl 0 rfl) ?_
  refine x_get_z C Wd dX0_shorten_1 ?_
  refine lv_iload_n C.1 C.2.1 dX0_shorten_4 rfl (lv_at hl 1 rfl) ?_
  refine x_ald_z C Wd hf.1 dX0_shorten_5 ?_
  replace hf := hf.2
  refine lv_iload_n C.1 C.2.1 dX0_shorten_6 rfl (lv_at hl 2 rfl) ?_
  refine lv_isub C.1 C.2.1 dX0_shorten_7 ?_
  refine lv_iconst (v := 2) C.1 C.2.1 dX0_shorten_8 (by decide) ?_
  refine lv_icmp_lt (tgt := 27) C.1 C.2.1 dX0_shorten_9 (by decide) (fun hc => ?_) (fun hc => ?_)
  · replace hf := hf.1 hc
    exact x_vret C Wd hf dX0_shorten_27
  · replace hf := hf.2 hc
    refine lv_aload_n C.1 C.2.1 dX0_shorten_12 rfl (lv_at hl 0 rfl) ?_
    refine lv_iload_n C.1 C.2.1 dX0_shorten_13 rfl (lv_at hl 1 rfl) ?_
    refine lv_iload_n C.1 C.2.1 dX0_shorten_14 rfl (lv_at hl 2 rfl) ?_
    refine lv_iconst (v := 0) C.1 C.2.1 dX0_shorten_15 (by decide) ?_
    refine x_calliv (As := [.int v1, .int v2, .int 0]) (rest := []) C Wd (cX_cut l D ad v1 v2 0) sX_cut (by decide) rfl hl.1 rfl (Nat.le_of_ble_eq_true rfl) (by decide) dX0_shorten_16 hf (fun r16 σ16 H locs hf Wd => ?_)
    refine lv_pop C.1 C.2.1 dX0_shorten_19 rfl ?_
    refine lv_aload_n C.1 C.2.1 dX0_shorten_20 rfl (lv_at hl 0 rfl) ?_
    refine lv_iload_n C.1 C.2.1 dX0_shorten_21 rfl (lv_at hl 1 rfl) ?_
    refine lv_iload_n C.1 C.2.1 dX0_shorten_22 rfl (lv_at hl 2 rfl) ?_
    refine lv_iadd C.1 C.2.1 dX0_shorten_23 ?_
    refine x_callvv (As := [.int (v1 + v2)]) (rest := []) C Wd (cX_release l D ad (v1 + v2)) sX_release (by decide) rfl hl.1 rfl (Nat.le_of_ble_eq_true rfl) (by decide) dX0_shorten_24 hf (fun σ24 H locs hf Wd => ?_)
    exact x_vret C Wd hf dX0_shorten_27
set_option maxHeartbeats 4000000 in
set_option maxRecDepth 100000 in
theorem bX_lengthen_64 {p : Program} {l : Launch} {e : Env} {s : State} {m : MethodId} {args : Array Value} {below : List Frame} {meth : Method} {c : Code} {D : va_G} {ad : XA} {A : Nat → Prop} (C : x_C p s m args meth c cX0_lengthen 6 (some .boolean)) {post : Int32 → XS → Prop} {σ : XS} {H : Heap} {locs : List Loc} {ls : Array Slot} {v1 : Int32} {v2 : Int32} {v3 : Int32} {v4 : Int32} (Wd : x_W D ad σ A s H locs) (hf : wX_lengthen_64 (x_n ad) (x_lim ad) σ v1 v2 v3 v4 post) (hl : lv_has ls 6 [(0, .ref (x_h ad)), (1, .int v1), (2, .int v2), (3, .int v3), (4, .int v4)]) : W p l e { frames := 3, cells := 0, slots := 0, locals := 94 } s m args below meth c H locs 0 0 (x_Qi below D ad A args s post) (F0 m 64 ls []) := by
  refine lv_aload_n C.1 C.2.1 dX0_lengthen_64 rfl (lv_at hl 0 rfl) ?_
  refine lv_iload_n C.1 C.2.1 dX0_lengthen_65 rfl (lv_at hl 3 rfl) ?_
  refine x_calliv (As := [.int v3]) (rest := []) C Wd (cX_isFree l D ad v3) sX_isFree (by decide) rfl hl.1 rfl (Nat.le_of_ble_eq_true rfl) (by decide) dX0_lengthen_66 hf (fun r66 σ66 H locs hf Wd => ?_)
  refine lv_if_eq (tgt := 83) C.1 C.2.1 dX0_lengthen_69 (by decide) (fun hc => ?_) (fun hc => ?_)
  · replace hf := hf.1 hc
    refine lv_iconst (v := 0) C.1 C.2.1 dX0_lengthen_83 (by decide) ?_
    exact x_zret C Wd (by decide) hf dX0_lengthen_84
  · replace hf := hf.2 hc
    refine lv_aload_n C.1 C.2.1 dX0_lengthen_72 rfl (lv_at hl 0 rfl) ?_
    refine x_get_z C Wd dX0_lengthen_73 ?_
    refine lv_iload_n C.1 C.2.1 dX0_lengthen_76 rfl (lv_at hl 3 rfl) ?_
    refine x_ald_z C Wd hf.1 dX0_lengthen_77 ?_
    replace hf := hf.2
    refine lv_iload C.1 C.2.1 dX0_lengthen_78 (lv_at hl 4 rfl) ?_
    refine lv_icmp_ge (tgt := 85) C.1 C.2.1 dX0_lengthen_80 (by decide) (fun hc => ?_) (fun hc => ?_)
    · replace hf := hf.1 hc
      refine lv_aload_n C.1 C.2.1 dX0_lengthen_85 rfl (lv_at hl 0 rfl) ?_
      refine x_get_t C Wd dX0_lengthen_86 ?_
      refine lv_iload_n C.1 C.2.1 dX0_lengthen_89 rfl (lv_at hl 3 rfl) ?_
      refine x_ald_t C Wd hf.1 dX0_lengthen_90 ?_
      replace hf := hf.2
      refine lv_istore (lv' := [(5, .int (x_t σ66 v3.toNatClampNeg)), (0, .ref (x_h ad)), (1, .int v1), (2, .int v2), (3, .int v3), (4, .int v4)]) C.1 C.2.1 dX0_lengthen_91 hl (by decide) rfl (fun ls hl => ?_)
      refine lv_aload_n C.1 C.2.1 dX0_lengthen_93 rfl (lv_at hl 1 rfl) ?_
      refine x_get_z C Wd dX0_lengthen_94 ?_
      refine lv_iload_n C.1 C.2.1 dX0_lengthen_97 rfl (lv_at hl 2 rfl) ?_
      refine lv_dup2_11 C.1 C.2.1 dX0_lengthen_98 rfl rfl ?_
      refine x_ald_z C Wd hf.1 dX0_lengthen_99 ?_
      replace hf := hf.2
      refine lv_aload_n C.1 C.2.1 dX0_lengthen_100 rfl (lv_at hl 1 rfl) ?_
      refine lv_iload_n C.1 C.2.1 dX0_lengthen_101 rfl (lv_at hl 4 rfl) ?_
      refine x_calliv (As := [.int v3]) (rest := [.int (x_z σ66 v1.toNatClampNeg), .int v1, .ref (x_az ad)]) C Wd (cX_lift l D ad v3) sX_lift (by decide) rfl hl.1 rfl (Nat.le_of_ble_eq_true rfl) (by decide) dX0_lengthen_102 hf (fun r102 σ102 H locs hf Wd => ?_)
      refine lv_iadd C.1 C.2.1 dX0_lengthen_105 ?_
      refine x_ast_z C Wd hf.1 dX0_lengthen_106 (fun H locs Wd => ?_)
      replace hf := hf.2
      refine lv_aload_n C.1 C.2.1 dX0_lengthen_107 rfl (lv_at hl 1 rfl) ?_
      refine lv_iload_n C.1 C.2.1 dX0_lengthen_108 rfl (lv_at hl 2 rfl) ?_
      refine lv_iload_n C.1 C.2.1 dX0_lengthen_109 rfl (lv_at hl 3 rfl) ?_
      refine lv_iload C.1 C.2.1 dX0_lengthen_110 (lv_at hl 0 rfl) ?_
      refine x_calliv (As := [.int v1, .int v2, .int (x_t σ66 v3.toNatClampNeg)]) (rest := []) C Wd (cX_cut l D ad v1 v2 (x_t σ66 v3.toNatClampNeg)) sX_cut (by decide) rfl hl.1 rfl (Nat.le_of_ble_eq_true rfl) (by decide) dX0_lengthen_112 hf (fun r112 σ112 H locs hf Wd => ?_)
      refine lv_pop C.1 C.2.1 dX0_lengthen_115 rfl ?_
      refine lv_iconst (v := 1) C.1 C.2.1 dX0_lengthen_116 (by decide) ?_
      exact x_zret C Wd (by decide) hf dX0_lengthen_117
    · replace hf := hf.2 hc
      refine lv_iconst (v := 0) C.1 C.2.1 dX0_lengthen_83 (by decide) ?_
      exact x_zret C Wd (by decide) hf dX0_lengthen_84
set_option maxHeartbeats 4000000 in
set_option maxRecDepth 100000 in
theorem bX_lengthen_35 {p : Program} {l : Launch} {e : Env} {s : State} {m : MethodId} {args : Array Value} {below : List Frame} {meth : Method} {c : Code} {D : va_G} {ad : XA} {A : Nat → Prop} (C : x_C p s m args meth c cX0_lengthen 6 (some .boolean)) {post : Int32 → XS → Prop} {σ : XS} {H : Heap} {locs : List Loc} {ls : Array Slot} {v1 : Int32} {v2 : Int32} {v3 : Int32} {v4 : Int32} (Wd : x_W D ad σ A s H locs) (hf : wX_lengthen_35 (x_n ad) (x_lim ad) σ v1 v2 v3 v4 post) (hl : lv_has ls 6 [(0, .ref (x_h ad)), (1, .int v1), (2, .int v2), (3, .int v3), (4, .int v4)]) : W p l e { frames := 3, cells := 0, slots := 0, locals := 94 } s m args below meth c H locs 0 0 (x_Qi below D ad A args s post) (F0 m 35 ls []) := by
  refine lv_iload C.1 C.2.1 dX0_lengthen_35 (lv_at hl 4 rfl) ?_
  refine lv_aload_n C.1 C.2.1 dX0_lengthen_37 rfl (lv_at hl 0 rfl) ?_
  refine lv_aload_n C.1 C.2.1 dX0_lengthen_38 rfl (lv_at hl 0 rfl) ?_
  refine x_get_tp C Wd dX0_lengthen_39 ?_
  refine x_calliv (As := [.int (x_tp σ)]) (rest := [.int v4]) C Wd (cX_sizeAt l D ad (x_tp σ)) sX_sizeAt (by decide) rfl hl.1 rfl (Nat.le_of_ble_eq_true rfl) (by decide) dX0_lengthen_42 hf (fun r42 σ42 H locs hf Wd => ?_)
  refine lv_isub C.1 C.2.1 dX0_lengthen_45 ?_
  refine lv_istore (lv' := [(5, .int (v4 - r42)), (0, .ref (x_h ad)), (1, .int v1), (2, .int v2), (3, .int v3), (4, .int v4)]) C.1 C.2.1 dX0_lengthen_46 hl (by decide) rfl (fun ls hl => ?_)
  refine lv_iload C.1 C.2.1 dX0_lengthen_48 (lv_at hl 0 rfl) ?_
  refine lv_if_le (tgt := 64) C.1 C.2.1 dX0_lengthen_50 (by decide) (fun hc => ?_) (fun hc => ?_)
  · replace hf := hf.1 hc
    exact bX_lengthen_64 C Wd hf (lv_sub hl [1, 2, 3, 4, 5] rfl)
  · replace hf := hf.2 hc
    refine lv_aload_n C.1 C.2.1 dX0_lengthen_53 rfl (lv_at hl 1 rfl) ?_
    refine lv_iload C.1 C.2.1 dX0_lengthen_54 (lv_at hl 0 rfl) ?_
    refine x_calliv (As := [.int (v4 - r42)]) (rest := []) C Wd (cX_grow l D ad (v4 - r42)) sX_grow (by decide) rfl hl.1 rfl (Nat.le_of_ble_eq_true rfl) (by decide) dX0_lengthen_56 hf (fun r56 σ56 H locs hf Wd => ?_)
    refine lv_if_ne (tgt := 64) C.1 C.2.1 dX0_lengthen_59 (by decide) (fun hc => ?_) (fun hc => ?_)
    · replace hf := hf.1 hc
      exact bX_lengthen_64 C Wd hf (lv_sub hl [1, 2, 3, 4, 5] rfl)
    · replace hf := hf.2 hc
      refine lv_iconst (v := 0) C.1 C.2.1 dX0_lengthen_62 (by decide) ?_
      exact x_zret C Wd (by decide) hf dX0_lengthen_63
set_option maxHeartbeats 4000000 in
set_option maxRecDepth 100000 in
theorem cX_lengthen (l : Launch) (D : va_G) (ad : XA) (v1 : Int32) (v2 : Int32) : x_Mi l D yX0_lengthen cX0_lengthen 6 (some .boolean) { frames := 3, cells := 0, slots := 0, locals := 94 } ad [.ref (x_h ad), .int v1, .int v2] (fun σ post => wX_lengthen (x_n ad) (x_lim ad) σ v1 v2 post) := by
  refine x_ofi ⟨by decide, rfl, Nat.le_of_ble_eq_true rfl⟩ (fun {p e s m args below meth c σ A post ls} C Wd hf hl => ?_)
  replace hl : lv_has ls 6 [(0, .ref (x_h ad)), (1, .int v1), (2, .int v2)] := hl
  refine lv_iload_n C.1 C.2.1 dX0_lengthen_0 rfl (lv_at hl 1 rfl) ?_
  refine lv_aload_n C.1 C.2.1 dX0_lengthen_1 rfl (lv_at hl 0 rfl) ?_
  refine x_get_z C Wd dX0_lengthen_2 ?_
  refine lv_iload_n C.1 C.2.1 dX0_lengthen_5 rfl (lv_at hl 1 rfl) ?_
  refine x_ald_z C Wd hf.1 dX0_lengthen_6 ?_
  replace hf := hf.2
  refine lv_iadd C.1 C.2.1 dX0_lengthen_7 ?_
  refine lv_istore_n (lv' := [(3, .int (v1 + (x_z σ v1.toNatClampNeg))), (0, .ref (x_h ad)), (1, .int v1), (2, .int v2)]) C.1 C.2.1 dX0_lengthen_8 rfl hl (by decide) rfl (fun ls hl => ?_)
  refine lv_iload_n C.1 C.2.1 dX0_lengthen_9 rfl (lv_at hl 3 rfl) ?_
  refine lv_aload_n C.1 C.2.1 dX0_lengthen_10 rfl (lv_at hl 1 rfl) ?_
  refine x_get_z C Wd dX0_lengthen_11 ?_
  refine lv_iload_n C.1 C.2.1 dX0_lengthen_14 rfl (lv_at hl 2 rfl) ?_
  refine x_ald_z C Wd hf.1 dX0_lengthen_15 ?_
  replace hf := hf.2
  refine lv_isub C.1 C.2.1 dX0_lengthen_16 ?_
  refine lv_istore (lv' := [(4, .int (v2 - (x_z σ v1.toNatClampNeg))), (3, .int (v1 + (x_z σ v1.toNatClampNeg))), (0, .ref (x_h ad)), (1, .int v1), (2, .int v2)]) C.1 C.2.1 dX0_lengthen_17 hl (by decide) rfl (fun ls hl => ?_)
  refine lv_iload_n C.1 C.2.1 dX0_lengthen_19 rfl (lv_at hl 1 rfl) ?_
  refine lv_aload_n C.1 C.2.1 dX0_lengthen_20 rfl (lv_at hl 2 rfl) ?_
  refine x_get_en C Wd dX0_lengthen_21 ?_
  refine lv_icmp_eq (tgt := 35) C.1 C.2.1 dX0_lengthen_24 (by decide) (fun hc => ?_) (fun hc => ?_)
  · replace hf := hf.1 hc
    exact bX_lengthen_35 C Wd hf (lv_sub hl [2, 3, 4, 1, 0] rfl)
  · replace hf := hf.2 hc
    refine lv_iload_n C.1 C.2.1 dX0_lengthen_27 rfl (lv_at hl 1 rfl) ?_
    refine lv_aload_n C.1 C.2.1 dX0_lengthen_28 rfl (lv_at hl 2 rfl) ?_
    refine x_get_tp C Wd dX0_lengthen_29 ?_
    refine lv_icmp_ne (tgt := 64) C.1 C.2.1 dX0_lengthen_32 (by decide) (fun hc => ?_) (fun hc => ?_)
    · replace hf := hf.1 hc
      exact bX_lengthen_64 C Wd hf (lv_sub hl [2, 3, 4, 1, 0] rfl)
    · replace hf := hf.2 hc
      exact bX_lengthen_35 C Wd hf (lv_sub hl [2, 3, 4, 1, 0] rfl)
set_option maxHeartbeats 4000000 in
set_option maxRecDepth 100000 in
theorem cX_move (l : Launch) (D : va_G) (ad : XA) (v1 : Int32) (v2 : Int32) : x_Mi l D yX0_move cX0_move 4 (some .int) { frames := 5, cells := 0, slots := 0, locals := 138 } ad [.ref (x_h ad), .int v1, .int v2] (fun σ post => wX_move (x_n ad) (x_lim ad) σ v1 v2 post) := by
  refine x_ofi ⟨by decide, rfl, Nat.le_of_ble_eq_true rfl⟩ (fun {p e s m args below meth c σ A post ls} C Wd hf hl => ?_)
  replace hl : lv_has ls 4 [(0, .ref (x_h ad)), (1, .int v1), (2, .int v2)] := hl
  refine lv_aload_n C.1 C.2.1 dX0_move_0 rfl (lv_at hl 0 rfl) ?_
  refine lv_iload_n C.1 C.2.1 dX0_move_1 rfl (lv_at hl 2 rfl) ?_
  refine x_calliv (As := [.int v2]) (rest := []) C Wd (cX_take l D ad v2) sX_take (by decide) rfl hl.1 rfl (Nat.le_of_ble_eq_true rfl) (by decide) dX0_move_2 hf (fun r2 σ2 H locs hf Wd => ?_)
  refine lv_istore_n (lv' := [(3, .int r2), (0, .ref (x_h ad)), (1, .int v1), (2, .int v2)]) C.1 C.2.1 dX0_move_5 rfl hl (by decide) rfl (fun ls hl => ?_)
  refine lv_iload_n C.1 C.2.1 dX0_move_6 rfl (lv_at hl 0 rfl) ?_
  refine lv_iconst (v := (-1)) C.1 C.2.1 dX0_move_7 (by decide) ?_
  refine lv_icmp_eq (tgt := 41) C.1 C.2.1 dX0_move_8 (by decide) (fun hc => ?_) (fun hc => ?_)
  · replace hf := hf.1 hc
    refine lv_iload_n C.1 C.2.1 dX0_move_41 rfl (lv_at hl 0 rfl) ?_
    exact x_iret C Wd hf dX0_move_42
  · replace hf := hf.2 hc
    refine lv_aload_n C.1 C.2.1 dX0_move_11 rfl (lv_at hl 1 rfl) ?_
    refine x_get_u C Wd dX0_move_12 ?_
    refine lv_iload_n C.1 C.2.1 dX0_move_15 rfl (lv_at hl 2 rfl) ?_
    refine lv_iconst (v := 1) C.1 C.2.1 dX0_move_16 (by decide) ?_
    refine lv_iadd C.1 C.2.1 dX0_move_17 ?_
    refine lv_aload_n C.1 C.2.1 dX0_move_18 rfl (lv_at hl 1 rfl) ?_
    refine x_get_u C Wd dX0_move_19 ?_
    refine lv_iload_n C.1 C.2.1 dX0_move_22 rfl (lv_at hl 0 rfl) ?_
    refine lv_iconst (v := 1) C.1 C.2.1 dX0_move_23 (by decide) ?_
    refine lv_iadd C.1 C.2.1 dX0_move_24 ?_
    refine lv_aload_n C.1 C.2.1 dX0_move_25 rfl (lv_at hl 1 rfl) ?_
    refine x_get_z C Wd dX0_move_26 ?_
    refine lv_iload_n C.1 C.2.1 dX0_move_29 rfl (lv_at hl 2 rfl) ?_
    refine x_ald_z C Wd hf.1 dX0_move_30 ?_
    replace hf := hf.2
    refine lv_iconst (v := 1) C.1 C.2.1 dX0_move_31 (by decide) ?_
    refine lv_isub C.1 C.2.1 dX0_move_32 ?_
    refine x_copy_u C Wd hf.1 hl.1 (by decide) (by decide) dX0_move_33 (fun H locs Wd => ?_)
    replace hf := hf.2
    refine lv_aload_n C.1 C.2.1 dX0_move_36 rfl (lv_at hl 1 rfl) ?_
    refine lv_iload_n C.1 C.2.1 dX0_move_37 rfl (lv_at hl 2 rfl) ?_
    refine x_callvv (As := [.int v1]) (rest := []) C Wd (cX_release l D ad v1) sX_release (by decide) rfl hl.1 rfl (Nat.le_of_ble_eq_true rfl) (by decide) dX0_move_38 hf (fun σ38 H locs hf Wd => ?_)
    refine lv_iload_n C.1 C.2.1 dX0_move_41 rfl (lv_at hl 0 rfl) ?_
    exact x_iret C Wd hf dX0_move_42
end
section
set_option maxHeartbeats 4000000 in
set_option maxRecDepth 100000 in
theorem cX_realloc (l : Launch) (D : va_G) (ad : XA) (v1 : Int32) (v2 : Int32) : x_Mi l D yX0_realloc cX0_realloc 5 (some .int) { frames := 6, cells := 0, slots := 0, locals := 161 } ad [.ref (x_h ad), .int v1, .int v2] (fun σ post => wX_realloc (x_n ad) (x_lim ad) σ v1 v2 post) := by
  refine x_ofi ⟨by decide, rfl, Nat.le_of_ble_eq_true rfl⟩ (fun {p e s m args below meth c σ A post ls} C Wd hf hl => ?_)
  replace hl : lv_has ls 5 [(0, .ref (x_h ad)), (1, .int v1), (2, .int v2)] := hl
  refine lv_aload_n C.1 C.2.1 dX0_realloc_0 rfl (lv_at hl 0 rfl) ?_
  refine lv_iload_n C.1 C.2.1 dX0_realloc_1 rfl (lv_at hl 1 rfl) ?_
  refine x_calliv (As := [.int v1]) (rest := []) C Wd (cX_isPointer l D ad v1) sX_isPointer (by decide) rfl hl.1 rfl (Nat.le_of_ble_eq_true rfl) (by decide) dX0_realloc_2 hf (fun r2 σ2 H locs hf Wd => ?_)
  refine lv_if_eq (tgt := 15) C.1 C.2.1 dX0_realloc_5 (by decide) (fun hc => ?_) (fun hc => ?_)
  · replace hf := hf.1 hc
    refine lv_iconst (v := 0) C.1 C.2.1 dX0_realloc_15 (by decide) ?_
    exact x_iret C Wd hf dX0_realloc_16
  · replace hf := hf.2 hc
    refine lv_iload_n C.1 C.2.1 dX0_realloc_8 rfl (lv_at hl 2 rfl) ?_
    refine lv_sipush (v := 511) C.1 C.2.1 dX0_realloc_9 (by decide) ?_
    refine lv_icmp_le (tgt := 17) C.1 C.2.1 dX0_realloc_12 (by decide) (fun hc => ?_) (fun hc => ?_)
    · replace hf := hf.1 hc
      refine lv_iload_n C.1 C.2.1 dX0_realloc_17 rfl (lv_at hl 1 rfl) ?_
      refine lv_iconst (v := 1) C.1 C.2.1 dX0_realloc_18 (by decide) ?_
      refine lv_isub C.1 C.2.1 dX0_realloc_19 ?_
      refine lv_istore_n (lv' := [(3, .int (v1 - 1)), (0, .ref (x_h ad)), (1, .int v1), (2, .int v2)]) C.1 C.2.1 dX0_realloc_20 rfl hl (by decide) rfl (fun ls hl => ?_)
      refine lv_iload_n C.1 C.2.1 dX0_realloc_21 rfl (lv_at hl 3 rfl) ?_
      refine x_callis (As := [.int v2]) (rest := []) C Wd (cX_unitsFor l D ad v2) sX_unitsFor (by decide) rfl hl.1 rfl (Nat.le_of_ble_eq_true rfl) (by decide) dX0_realloc_22 hf (fun r22 σ22 H locs hf Wd => ?_)
      refine lv_istore (lv' := [(4, .int r22), (3, .int (v1 - 1)), (0, .ref (x_h ad)), (1, .int v1), (2, .int v2)]) C.1 C.2.1 dX0_realloc_25 hl (by decide) rfl (fun ls hl => ?_)
      refine lv_aload_n C.1 C.2.1 dX0_realloc_27 rfl (lv_at hl 2 rfl) ?_
      refine x_get_z C Wd dX0_realloc_28 ?_
      refine lv_iload_n C.1 C.2.1 dX0_realloc_31 rfl (lv_at hl 1 rfl) ?_
      refine x_ald_z C Wd hf.1 dX0_realloc_32 ?_
      replace hf := hf.2
      refine lv_iload C.1 C.2.1 dX0_realloc_33 (lv_at hl 0 rfl) ?_
      refine lv_icmp_lt (tgt := 47) C.1 C.2.1 dX0_realloc_35 (by decide) (fun hc => ?_) (fun hc => ?_)
      · replace hf := hf.1 hc
        refine lv_aload_n C.1 C.2.1 dX0_realloc_47 rfl (lv_at hl 2 rfl) ?_
        refine lv_iload_n C.1 C.2.1 dX0_realloc_48 rfl (lv_at hl 1 rfl) ?_
        refine lv_iload C.1 C.2.1 dX0_realloc_49 (lv_at hl 0 rfl) ?_
        refine x_calliv (As := [.int (v1 - 1), .int r22]) (rest := []) C Wd (cX_lengthen l D ad (v1 - 1) r22) sX_lengthen (by decide) rfl hl.1 rfl (Nat.le_of_ble_eq_true rfl) (by decide) dX0_realloc_51 hf (fun r51 σ51 H locs hf Wd => ?_)
        refine lv_if_eq (tgt := 61) C.1 C.2.1 dX0_realloc_54 (by decide) (fun hc => ?_) (fun hc => ?_)
        · replace hf := hf.1 hc
          refine lv_aload_n C.1 C.2.1 dX0_realloc_61 rfl (lv_at hl 2 rfl) ?_
          refine lv_iload_n C.1 C.2.1 dX0_realloc_62 rfl (lv_at hl 1 rfl) ?_
          refine lv_iload C.1 C.2.1 dX0_realloc_63 (lv_at hl 0 rfl) ?_
          refine x_calliv (As := [.int (v1 - 1), .int r22]) (rest := []) C Wd (cX_move l D ad (v1 - 1) r22) sX_move (by decide) rfl hl.1 rfl (Nat.le_of_ble_eq_true rfl) (by decide) dX0_realloc_65 hf (fun r65 σ65 H locs hf Wd => ?_)
          refine x_callis (As := [.int r65]) (rest := []) C Wd (cX_pointerTo l D ad r65) sX_pointerTo (by decide) rfl hl.1 rfl (Nat.le_of_ble_eq_true rfl) (by decide) dX0_realloc_68 hf (fun r68 σ68 H locs hf Wd => ?_)
          exact x_iret C Wd hf dX0_realloc_71
        · replace hf := hf.2 hc
          refine lv_iload_n C.1 C.2.1 dX0_realloc_57 rfl (lv_at hl 3 rfl) ?_
          refine lv_goto (tgt := 71) C.1 C.2.1 dX0_realloc_58 (by decide) ?_
          exact x_iret C Wd hf dX0_realloc_71
      · replace hf := hf.2 hc
        refine lv_aload_n C.1 C.2.1 dX0_realloc_38 rfl (lv_at hl 2 rfl) ?_
        refine lv_iload_n C.1 C.2.1 dX0_realloc_39 rfl (lv_at hl 1 rfl) ?_
        refine lv_iload C.1 C.2.1 dX0_realloc_40 (lv_at hl 0 rfl) ?_
        refine x_callvv (As := [.int (v1 - 1), .int r22]) (rest := []) C Wd (cX_shorten l D ad (v1 - 1) r22) sX_shorten (by decide) rfl hl.1 rfl (Nat.le_of_ble_eq_true rfl) (by decide) dX0_realloc_42 hf (fun σ42 H locs hf Wd => ?_)
        refine lv_iload_n C.1 C.2.1 dX0_realloc_45 rfl (lv_at hl 3 rfl) ?_
        exact x_iret C Wd hf dX0_realloc_46
    · replace hf := hf.2 hc
      refine lv_iconst (v := 0) C.1 C.2.1 dX0_realloc_15 (by decide) ?_
      exact x_iret C Wd hf dX0_realloc_16
set_option maxHeartbeats 4000000 in
set_option maxRecDepth 100000 in
theorem cX_isAlignment (l : Launch) (D : va_G) (ad : XA) (v0 : Int32) : x_Mi l D yX0_isAlignment cX0_isAlignment 1 (some .boolean) { frames := 0, cells := 0, slots := 0, locals := 0 } ad [.int v0] (fun σ post => wX_isAlignment (x_n ad) (x_lim ad) σ v0 post) := by
  refine x_ofi ⟨by decide, rfl, Nat.le_of_ble_eq_true rfl⟩ (fun {p e s m args below meth c σ A post ls} C Wd hf hl => ?_)
  replace hl : lv_has ls 1 [(0, .int v0)] := hl
  refine lv_iload_n C.1 C.2.1 dX0_isAlignment_0 rfl (lv_at hl 0 rfl) ?_
  refine lv_iconst (v := 2) C.1 C.2.1 dX0_isAlignment_1 (by decide) ?_
  refine lv_icmp_eq (tgt := 22) C.1 C.2.1 dX0_isAlignment_2 (by decide) (fun hc => ?_) (fun hc => ?_)
  · replace hf := hf.1 hc
    refine lv_iconst (v := 1) C.1 C.2.1 dX0_isAlignment_22 (by decide) ?_
    refine lv_goto (tgt := 27) C.1 C.2.1 dX0_isAlignment_23 (by decide) ?_
    exact x_zret C Wd (by decide) hf dX0_isAlignment_27
  · replace hf := hf.2 hc
    refine lv_iload_n C.1 C.2.1 dX0_isAlignment_5 rfl (lv_at hl 0 rfl) ?_
    refine lv_iconst (v := 4) C.1 C.2.1 dX0_isAlignment_6 (by decide) ?_
    refine lv_icmp_eq (tgt := 22) C.1 C.2.1 dX0_isAlignment_7 (by decide) (fun hc => ?_) (fun hc => ?_)
    · replace hf := hf.1 hc
      refine lv_iconst (v := 1) C.1 C.2.1 dX0_isAlignment_22 (by decide) ?_
      refine lv_goto (tgt := 27) C.1 C.2.1 dX0_isAlignment_23 (by decide) ?_
      exact x_zret C Wd (by decide) hf dX0_isAlignment_27
    · replace hf := hf.2 hc
      refine lv_iload_n C.1 C.2.1 dX0_isAlignment_10 rfl (lv_at hl 0 rfl) ?_
      refine lv_bipush (v := 8) C.1 C.2.1 dX0_isAlignment_11 (by decide) ?_
      refine lv_icmp_eq (tgt := 22) C.1 C.2.1 dX0_isAlignment_13 (by decide) (fun hc => ?_) (fun hc => ?_)
      · replace hf := hf.1 hc
        refine lv_iconst (v := 1) C.1 C.2.1 dX0_isAlignment_22 (by decide) ?_
        refine lv_goto (tgt := 27) C.1 C.2.1 dX0_isAlignment_23 (by decide) ?_
        exact x_zret C Wd (by decide) hf dX0_isAlignment_27
      · replace hf := hf.2 hc
        refine lv_iload_n C.1 C.2.1 dX0_isAlignment_16 rfl (lv_at hl 0 rfl) ?_
        refine lv_bipush (v := 16) C.1 C.2.1 dX0_isAlignment_17 (by decide) ?_
        refine lv_icmp_ne (tgt := 26) C.1 C.2.1 dX0_isAlignment_19 (by decide) (fun hc => ?_) (fun hc => ?_)
        · replace hf := hf.1 hc
          refine lv_iconst (v := 0) C.1 C.2.1 dX0_isAlignment_26 (by decide) ?_
          exact x_zret C Wd (by decide) hf dX0_isAlignment_27
        · replace hf := hf.2 hc
          refine lv_iconst (v := 1) C.1 C.2.1 dX0_isAlignment_22 (by decide) ?_
          refine lv_goto (tgt := 27) C.1 C.2.1 dX0_isAlignment_23 (by decide) ?_
          exact x_zret C Wd (by decide) hf dX0_isAlignment_27
set_option maxHeartbeats 4000000 in
set_option maxRecDepth 100000 in
theorem cX_unitsInFront (l : Launch) (D : va_G) (ad : XA) (v0 : Int32) (v1 : Int32) : x_Mi l D yX0_unitsInFront cX0_unitsInFront 4 (some .int) { frames := 0, cells := 0, slots := 0, locals := 0 } ad [.int v0, .int v1] (fun σ post => wX_unitsInFront (x_n ad) (x_lim ad) σ v0 v1 post) := by
  refine x_ofi ⟨by decide, rfl, Nat.le_of_ble_eq_true rfl⟩ (fun {p e s m args below meth c σ A post ls} C Wd hf hl => ?_)
  replace hl : lv_has ls 4 [(0, .int v0), (1, .int v1)] := hl
  refine lv_iload_n C.1 C.2.1 dX0_unitsInFront_0 rfl (lv_at hl 0 rfl) ?_
  refine lv_iload_n C.1 C.2.1 dX0_unitsInFront_1 rfl (lv_at hl 1 rfl) ?_
  refine lv_irem C.1 C.2.1 dX0_unitsInFront_2 hf.1 ?_
  replace hf := hf.2
  refine lv_istore_n (lv' := [(2, .int (v0 - v0 / v1 * v1)), (0, .int v0), (1, .int v1)]) C.1 C.2.1 dX0_unitsInFront_3 rfl hl (by decide) rfl (fun ls hl => ?_)
  refine lv_iload_n C.1 C.2.1 dX0_unitsInFront_4 rfl (lv_at hl 0 rfl) ?_
  refine lv_if_ne (tgt := 10) C.1 C.2.1 dX0_unitsInFront_5 (by decide) (fun hc => ?_) (fun hc => ?_)
  · replace hf := hf.1 hc
    refine lv_iload_n C.1 C.2.1 dX0_unitsInFront_10 rfl (lv_at hl 2 rfl) ?_
    refine lv_iload_n C.1 C.2.1 dX0_unitsInFront_11 rfl (lv_at hl 0 rfl) ?_
    refine lv_isub C.1 C.2.1 dX0_unitsInFront_12 ?_
    refine lv_istore_n (lv' := [(3, .int (v1 - (v0 - v0 / v1 * v1))), (2, .int (v0 - v0 / v1 * v1)), (0, .int v0), (1, .int v1)]) C.1 C.2.1 dX0_unitsInFront_13 rfl hl (by decide) rfl (fun ls hl => ?_)
    refine lv_iload_n C.1 C.2.1 dX0_unitsInFront_14 rfl (lv_at hl 0 rfl) ?_
    refine lv_iconst (v := 2) C.1 C.2.1 dX0_unitsInFront_15 (by decide) ?_
    refine lv_icmp_ge (tgt := 25) C.1 C.2.1 dX0_unitsInFront_16 (by decide) (fun hc => ?_) (fun hc => ?_)
    · replace hf := hf.1 hc
      refine lv_iload_n C.1 C.2.1 dX0_unitsInFront_25 rfl (lv_at hl 0 rfl) ?_
      exact x_iret C Wd hf dX0_unitsInFront_26
    · replace hf := hf.2 hc
      refine lv_iload_n C.1 C.2.1 dX0_unitsInFront_19 rfl (lv_at hl 0 rfl) ?_
      refine lv_iload_n C.1 C.2.1 dX0_unitsInFront_20 rfl (lv_at hl 3 rfl) ?_
      refine lv_iadd C.1 C.2.1 dX0_unitsInFront_21 ?_
      refine lv_goto (tgt := 26) C.1 C.2.1 dX0_unitsInFront_22 (by decide) ?_
      exact x_iret C Wd hf dX0_unitsInFront_26
  · replace hf := hf.2 hc
    refine lv_iconst (v := 0) C.1 C.2.1 dX0_unitsInFront_8 (by decide) ?_
    exact x_iret C Wd hf dX0_unitsInFront_9
set_option maxHeartbeats 4000000 in
set_option maxRecDepth 100000 in
theorem bX_align_71 {p : Program} {l : Launch} {e : Env} {s : State} {m : MethodId} {args : Array Value} {below : List Frame} {meth : Method} {c : Code} {D : va_G} {ad : XA} {A : Nat → Prop} (C : x_C p s m args meth c cX0_align 6 (some .int)) {post : Int32 → XS → Prop} {σ : XS} {H : Heap} {locs : List Loc} {ls : Array Slot} {v3 : Int32} {v4 : Int32} {v5 : Int32} (Wd : x_W D ad σ A s H locs) (hf : wX_align_71 (x_n ad) (x_lim ad) σ v3 v4 v5 post) (hl : lv_has ls 6 [(0, .ref (x_h ad)), (3, .int v3), (4, .int v4), (5, .int v5)]) : W p l e { frames := 5, cells := 0, slots := 0, locals := 138 } s m args below meth c H locs 0 0 (x_Qi below D ad A args s post) (F0 m 71 ls []) := by
  refine lv_aload_n C.1 C.2.1 dX0_align_71 rfl (lv_at hl 0 rfl) ?_
  refine lv_iload C.1 C.2.1 dX0_align_72 (lv_at hl 2 rfl) ?_
  refine lv_iload C.1 C.2.1 dX0_align_74 (lv_at hl 3 rfl) ?_
  refine lv_iadd C.1 C.2.1 dX0_align_76 ?_
  refine lv_iload_n C.1 C.2.1 dX0_align_77 rfl (lv_at hl 1 rfl) ?_
  refine x_callvv (As := [.int (v4 + v5), .int v3]) (rest := []) C Wd (cX_shorten l D ad (v4 + v5) v3) sX_shorten (by decide) rfl hl.1 rfl (Nat.le_of_ble_eq_true rfl) (by decide) dX0_align_78 hf (fun σ78 H locs hf Wd => ?_)
  refine lv_iload C.1 C.2.1 dX0_align_81 (lv_at hl 2 rfl) ?_
  refine lv_iload C.1 C.2.1 dX0_align_83 (lv_at hl 3 rfl) ?_
  refine lv_iadd C.1 C.2.1 dX0_align_85 ?_
  refine x_callis (As := [.int (v4 + v5)]) (rest := []) C Wd (cX_pointerTo l D ad (v4 + v5)) sX_pointerTo (by decide) rfl hl.1 rfl (Nat.le_of_ble_eq_true rfl) (by decide) dX0_align_86 hf (fun r86 σ86 H locs hf Wd => ?_)
  exact x_iret C Wd hf dX0_align_89
set_option maxHeartbeats 4000000 in
set_option maxRecDepth 100000 in
theorem cX_align (l : Launch) (D : va_G) (ad : XA) (v1 : Int32) (v2 : Int32) : x_Mi l D yX0_align cX0_align 6 (some .int) { frames := 5, cells := 0, slots := 0, locals := 138 } ad [.ref (x_h ad), .int v1, .int v2] (fun σ post => wX_align (x_n ad) (x_lim ad) σ v1 v2 post) := by
  refine x_ofi ⟨by decide, rfl, Nat.le_of_ble_eq_true rfl⟩ (fun {p e s m args below meth c σ A post ls} C Wd hf hl => ?_)
  replace hl : lv_has ls 6 [(0, .ref (x_h ad)), (1, .int v1), (2, .int v2)] := hl
  refine lv_iload_n C.1 C.2.1 dX0_align_0 rfl (lv_at hl 1 rfl) ?_
  refine lv_sipush (v := 511) C.1 C.2.1 dX0_align_1 (by decide) ?_
  refine lv_icmp_gt (tgt := 14) C.1 C.2.1 dX0_align_4 (by decide) (fun hc => ?_) (fun hc => ?_)
  · replace hf := hf.1 hc
    refine lv_iconst (v := 0) C.1 C.2.1 dX0_align_14 (by decide) ?_
    exact x_iret C Wd hf dX0_align_15
  · replace hf := hf.2 hc
    refine lv_iload_n C.1 C.2.1 dX0_align_7 rfl (lv_at hl 2 rfl) ?_
    refine x_callis (As := [.int v2]) (rest := []) C Wd (cX_isAlignment l D ad v2) sX_isAlignment (by decide) rfl hl.1 rfl (Nat.le_of_ble_eq_true rfl) (by decide) dX0_align_8 hf (fun r8 σ8 H locs hf Wd => ?_)
    refine lv_if_ne (tgt := 16) C.1 C.2.1 dX0_align_11 (by decide) (fun hc => ?_) (fun hc => ?_)
    · replace hf := hf.1 hc
      refine lv_iload_n C.1 C.2.1 dX0_align_16 rfl (lv_at hl 1 rfl) ?_
      refine x_callis (As := [.int v1]) (rest := []) C Wd (cX_unitsFor l D ad v1) sX_unitsFor (by decide) rfl hl.1 rfl (Nat.le_of_ble_eq_true rfl) (by decide) dX0_align_17 hf (fun r17 σ17 H locs hf Wd => ?_)
      refine lv_istore_n (lv' := [(3, .int r17), (0, .ref (x_h ad)), (1, .int v1), (2, .int v2)]) C.1 C.2.1 dX0_align_20 rfl hl (by decide) rfl (fun ls hl => ?_)
      refine lv_aload_n C.1 C.2.1 dX0_align_21 rfl (lv_at hl 1 rfl) ?_
      refine lv_iload_n C.1 C.2.1 dX0_align_22 rfl (lv_at hl 0 rfl) ?_
      refine lv_iload_n C.1 C.2.1 dX0_align_23 rfl (lv_at hl 3 rfl) ?_
      refine lv_iadd C.1 C.2.1 dX0_align_24 ?_
      refine lv_iconst (v := 2) C.1 C.2.1 dX0_align_25 (by decide) ?_
      refine lv_iadd C.1 C.2.1 dX0_align_26 ?_
      refine x_calliv (As := [.int ((r17 + v2) + 2)]) (rest := []) C Wd (cX_take l D ad ((r17 + v2) + 2)) sX_take (by decide) rfl hl.1 rfl (Nat.le_of_ble_eq_true rfl) (by decide) dX0_align_27 hf (fun r27 σ27 H locs hf Wd => ?_)
      refine lv_istore (lv' := [(4, .int r27), (3, .int r17), (0, .ref (x_h ad)), (1, .int v1), (2, .int v2)]) C.1 C.2.1 dX0_align_30 hl (by decide) rfl (fun ls hl => ?_)
      refine lv_iload C.1 C.2.1 dX0_align_32 (lv_at hl 0 rfl) ?_
      refine lv_iconst (v := (-1)) C.1 C.2.1 dX0_align_34 (by decide) ?_
      refine lv_icmp_ne (tgt := 40) C.1 C.2.1 dX0_align_35 (by decide) (fun hc => ?_) (fun hc => ?_)
      · replace hf := hf.1 hc
        refine lv_iload C.1 C.2.1 dX0_align_40 (lv_at hl 0 rfl) ?_
        refine lv_iconst (v := 1) C.1 C.2.1 dX0_align_42 (by decide) ?_
        refine lv_iadd C.1 C.2.1 dX0_align_43 ?_
        refine lv_iload_n C.1 C.2.1 dX0_align_44 rfl (lv_at hl 4 rfl) ?_
        refine x_callis (As := [.int (r27 + 1), .int v2]) (rest := []) C Wd (cX_unitsInFront l D ad (r27 + 1) v2) sX_unitsInFront (by decide) rfl hl.1 rfl (Nat.le_of_ble_eq_true rfl) (by decide) dX0_align_45 hf (fun r45 σ45 H locs hf Wd => ?_)
        refine lv_istore (lv' := [(5, .int r45), (4, .int r27), (3, .int r17), (0, .ref (x_h ad)), (1, .int v1), (2, .int v2)]) C.1 C.2.1 dX0_align_48 hl (by decide) rfl (fun ls hl => ?_)
        refine lv_iload C.1 C.2.1 dX0_align_50 (lv_at hl 0 rfl) ?_
        refine lv_if_le (tgt := 71) C.1 C.2.1 dX0_align_52 (by decide) (fun hc => ?_) (fun hc => ?_)
        · replace hf := hf.1 hc
          exact bX_align_71 C Wd hf (lv_sub hl [3, 2, 1, 0] rfl)
        · replace hf := hf.2 hc
          refine lv_aload_n C.1 C.2.1 dX0_align_55 rfl (lv_at hl 3 rfl) ?_
          refine lv_iload C.1 C.2.1 dX0_align_56 (lv_at hl 1 rfl) ?_
          refine lv_iload C.1 C.2.1 dX0_align_58 (lv_at hl 0 rfl) ?_
          refine lv_iconst (v := 0) C.1 C.2.1 dX0_align_60 (by decide) ?_
          refine x_calliv (As := [.int r27, .int r45, .int 0]) (rest := []) C Wd (cX_cut l D ad r27 r45 0) sX_cut (by decide) rfl hl.1 rfl (Nat.le_of_ble_eq_true rfl) (by decide) dX0_align_61 hf (fun r61 σ61 H locs hf Wd => ?_)
          refine lv_pop C.1 C.2.1 dX0_align_64 rfl ?_
          refine lv_aload_n C.1 C.2.1 dX0_align_65 rfl (lv_at hl 3 rfl) ?_
          refine lv_iload C.1 C.2.1 dX0_align_66 (lv_at hl 1 rfl) ?_
          refine x_callvv (As := [.int r27]) (rest := []) C Wd (cX_release l D ad r27) sX_release (by decide) rfl hl.1 rfl (Nat.le_of_ble_eq_true rfl) (by decide) dX0_align_68 hf (fun σ68 H locs hf Wd => ?_)
          exact bX_align_71 C Wd hf (lv_sub hl [3, 2, 1, 0] rfl)
      · replace hf := hf.2 hc
        refine lv_iconst (v := 0) C.1 C.2.1 dX0_align_38 (by decide) ?_
        exact x_iret C Wd hf dX0_align_39
    · replace hf := hf.2 hc
      refine lv_iconst (v := 0) C.1 C.2.1 dX0_align_14 (by decide) ?_
      exact x_iret C Wd hf dX0_align_15
set_option maxHeartbeats 4000000 in
set_option maxRecDepth 100000 in
theorem cX_shrinkTop (l : Launch) (D : va_G) (ad : XA) (v1 : Int32) : x_Mv l D yX0_shrinkTop cX0_shrinkTop 4 none { frames := 1, cells := 0, slots := 0, locals := 23 } ad [.ref (x_h ad), .int v1] (fun σ post => wX_shrinkTop (x_n ad) (x_lim ad) σ v1 post) := by
  refine x_ofv ⟨by decide, rfl, Nat.le_of_ble_eq_true rfl⟩ (fun {p e s m args below meth c σ A post ls} C Wd hf hl => ?_)
  replace hl : lv_has ls 4 [(0, .ref (x_h ad)), (1, .int v1)] := hl
  refine lv_aload_n C.1 C.2.1 dX0_shrinkTop_0 rfl (lv_at hl 0 rfl) ?_
  refine x_get_tp C Wd dX0_shrinkTop_1 ?_
  refine lv_istore_n (lv' := [(2, .int (x_tp σ)), (0, .ref (x_h ad)), (1, .int v1)]) C.1 C.2.1 dX0_shrinkTop_4 rfl hl (by decide) rfl (fun ls hl => ?_)
  refine lv_aload_n C.1 C.2.1 dX0_shrinkTop_5 rfl (lv_at hl 1 rfl) ?_
  refine lv_aload_n C.1 C.2.1 dX0_shrinkTop_6 rfl (lv_at hl 1 rfl) ?_
  refine x_get_tp C Wd dX0_shrinkTop_7 ?_
  refine x_calliv (As := [.int (x_tp σ)]) (rest := []) C Wd (cX_lift l D ad (x_tp σ)) sX_lift (by decide) rfl hl.1 rfl (Nat.le_of_ble_eq_true rfl) (by decide) dX0_shrinkTop_10 hf (fun r10 σ10 H locs hf Wd => ?_)
  refine lv_iload_n C.1 C.2.1 dX0_shrinkTop_13 rfl (lv_at hl 2 rfl) ?_
  refine lv_isub C.1 C.2.1 dX0_shrinkTop_14 ?_
  refine lv_istore_n (lv' := [(3, .int (r10 - v1)), (2, .int (x_tp σ)), (0, .ref (x_h ad)), (1, .int v1)]) C.1 C.2.1 dX0_shrinkTop_15 rfl hl (by decide) rfl (fun ls hl => ?_)
  refine lv_aload_n C.1 C.2.1 dX0_shrinkTop_16 rfl (lv_at hl 2 rfl) ?_
  refine lv_dup C.1 C.2.1 dX0_shrinkTop_17 rfl ?_
  refine x_get_en C Wd dX0_shrinkTop_18 ?_
  refine lv_iload_n C.1 C.2.1 dX0_shrinkTop_21 rfl (lv_at hl 3 rfl) ?_
  refine lv_isub C.1 C.2.1 dX0_shrinkTop_22 ?_
  refine x_put_en C Wd dX0_shrinkTop_23 (fun H locs Wd => ?_)
  refine lv_iload_n C.1 C.2.1 dX0_shrinkTop_26 rfl (lv_at hl 0 rfl) ?_
  refine lv_if_le (tgt := 37) C.1 C.2.1 dX0_shrinkTop_27 (by decide) (fun hc => ?_) (fun hc => ?_)
  · replace hf := hf.1 hc
    exact x_vret C Wd hf dX0_shrinkTop_37
  · replace hf := hf.2 hc
    refine lv_aload_n C.1 C.2.1 dX0_shrinkTop_30 rfl (lv_at hl 2 rfl) ?_
    refine lv_iload_n C.1 C.2.1 dX0_shrinkTop_31 rfl (lv_at hl 1 rfl) ?_
    refine lv_iload_n C.1 C.2.1 dX0_shrinkTop_32 rfl (lv_at hl 0 rfl) ?_
    refine lv_iconst (v := 4) C.1 C.2.1 dX0_shrinkTop_33 (by decide) ?_
    refine x_callvv (As := [.int (x_tp σ), .int (r10 - v1), .int 4]) (rest := []) C Wd (cX_lay l D ad (x_tp σ) (r10 - v1) 4) sX_lay (by decide) rfl hl.1 rfl (Nat.le_of_ble_eq_true rfl) (by decide) dX0_shrinkTop_34 hf (fun σ34 H locs hf Wd => ?_)
    exact x_vret C Wd hf dX0_shrinkTop_37
set_option maxHeartbeats 4000000 in
set_option maxRecDepth 100000 in
theorem bX_trim_44 {p : Program} {l : Launch} {e : Env} {s : State} {m : MethodId} {args : Array Value} {below : List Frame} {meth : Method} {c : Code} {D : va_G} {ad : XA} {A : Nat → Prop} (C : x_C p s m args meth c cX0_trim 5 (some .int)) {post : Int32 → XS → Prop} {σ : XS} {H : Heap} {locs : List Loc} {ls : Array Slot} {v4 : Int32} (Wd : x_W D ad σ A s H locs) (hf : wX_trim_44 (x_n ad) (x_lim ad) σ v4 post) (hl : lv_has ls 5 [(0, .ref (x_h ad)), (4, .int v4)]) : W p l e { frames := 2, cells := 0, slots := 0, locals := 46 } s m args below meth c H locs 0 0 (x_Qi below D ad A args s post) (F0 m 44 ls []) := by
  refine lv_aload_n C.1 C.2.1 dX0_trim_44 rfl (lv_at hl 0 rfl) ?_
  refine lv_iload C.1 C.2.1 dX0_trim_45 (lv_at hl 1 rfl) ?_
  refine x_callvv (As := [.int v4]) (rest := []) C Wd (cX_shrinkTop l D ad v4) sX_shrinkTop (by decide) rfl hl.1 rfl (Nat.le_of_ble_eq_true rfl) (by decide) dX0_trim_47 hf (fun σ47 H locs hf Wd => ?_)
  refine lv_iload C.1 C.2.1 dX0_trim_50 (lv_at hl 1 rfl) ?_
  exact x_iret C Wd hf dX0_trim_52
set_option maxHeartbeats 4000000 in
set_option maxRecDepth 100000 in
theorem cX_trim (l : Launch) (D : va_G) (ad : XA) (v1 : Int32) : x_Mi l D yX0_trim cX0_trim 5 (some .int) { frames := 2, cells := 0, slots := 0, locals := 46 } ad [.ref (x_h ad), .int v1] (fun σ post => wX_trim (x_n ad) (x_lim ad) σ v1 post) := by
  refine x_ofi ⟨by decide, rfl, Nat.le_of_ble_eq_true rfl⟩ (fun {p e s m args below meth c σ A post ls} C Wd hf hl => ?_)
  replace hl : lv_has ls 5 [(0, .ref (x_h ad)), (1, .int v1)] := hl
  refine lv_aload_n C.1 C.2.1 dX0_trim_0 rfl (lv_at hl 0 rfl) ?_
  refine lv_aload_n C.1 C.2.1 dX0_trim_1 rfl (lv_at hl 0 rfl) ?_
  refine x_get_tp C Wd dX0_trim_2 ?_
  refine x_calliv (As := [.int (x_tp σ)]) (rest := []) C Wd (cX_sizeAt l D ad (x_tp σ)) sX_sizeAt (by decide) rfl hl.1 rfl (Nat.le_of_ble_eq_true rfl) (by decide) dX0_trim_5 hf (fun r5 σ5 H locs hf Wd => ?_)
  refine lv_istore_n (lv' := [(2, .int r5), (0, .ref (x_h ad)), (1, .int v1)]) C.1 C.2.1 dX0_trim_8 rfl hl (by decide) rfl (fun ls hl => ?_)
  refine lv_iload_n C.1 C.2.1 dX0_trim_9 rfl (lv_at hl 0 rfl) ?_
  refine lv_iload_n C.1 C.2.1 dX0_trim_10 rfl (lv_at hl 2 rfl) ?_
  refine lv_iconst (v := 0) C.1 C.2.1 dX0_trim_11 (by decide) ?_
  refine x_mmax C hl.1 (Nat.le_of_ble_eq_true rfl) (Nat.le_of_ble_eq_true rfl) (by decide) dX0_trim_12 ?_
  refine lv_isub C.1 C.2.1 dX0_trim_15 ?_
  refine lv_istore_n (lv' := [(3, .int (r5 - (if v1 < 0 then 0 else v1))), (2, .int r5), (0, .ref (x_h ad)), (1, .int v1)]) C.1 C.2.1 dX0_trim_16 rfl hl (by decide) rfl (fun ls hl => ?_)
  refine lv_iload_n C.1 C.2.1 dX0_trim_17 rfl (lv_at hl 0 rfl) ?_
  refine lv_bipush (v := 16) C.1 C.2.1 dX0_trim_18 (by decide) ?_
  refine lv_icmp_ge (tgt := 25) C.1 C.2.1 dX0_trim_20 (by decide) (fun hc => ?_) (fun hc => ?_)
  · replace hf := hf.1 hc
    refine lv_iload_n C.1 C.2.1 dX0_trim_25 rfl (lv_at hl 0 rfl) ?_
    refine lv_iload_n C.1 C.2.1 dX0_trim_26 rfl (lv_at hl 0 rfl) ?_
    refine lv_bipush (v := 16) C.1 C.2.1 dX0_trim_27 (by decide) ?_
    refine lv_irem C.1 C.2.1 dX0_trim_29 (by decide) ?_
    refine lv_isub C.1 C.2.1 dX0_trim_30 ?_
    refine lv_istore (lv' := [(4, .int ((r5 - (if v1 < 0 then 0 else v1)) - ((r5 - (if v1 < 0 then 0 else v1)) - (r5 - (if v1 < 0 then 0 else v1)) / 16 * 16))), (3, .int (r5 - (if v1 < 0 then 0 else v1))), (2, .int r5), (0, .ref (x_h ad)), (1, .int v1)]) C.1 C.2.1 dX0_trim_31 hl (by decide) rfl (fun ls hl => ?_)
    refine lv_iload_n C.1 C.2.1 dX0_trim_33 rfl (lv_at hl 2 rfl) ?_
    refine lv_iload C.1 C.2.1 dX0_trim_34 (lv_at hl 0 rfl) ?_
    refine lv_isub C.1 C.2.1 dX0_trim_36 ?_
    refine lv_iconst (v := 1) C.1 C.2.1 dX0_trim_37 (by decide) ?_
    refine lv_icmp_ne (tgt := 44) C.1 C.2.1 dX0_trim_38 (by decide) (fun hc => ?_) (fun hc => ?_)
    · replace hf := hf.1 hc
      exact bX_trim_44 C Wd hf (lv_sub hl [3, 0] rfl)
    · replace hf := hf.2 hc
      refine lv_iinc (v := ((r5 - (if v1 < 0 then 0 else v1)) - ((r5 - (if v1 < 0 then 0 else v1)) - (r5 - (if v1 < 0 then 0 else v1)) / 16 * 16)) + (-16)) (lv' := [(4, .int (((r5 - (if v1 < 0 then 0 else v1)) - ((r5 - (if v1 < 0 then 0 else v1)) - (r5 - (if v1 < 0 then 0 else v1)) / 16 * 16)) + (-16))), (3, .int (r5 - (if v1 < 0 then 0 else v1))), (2, .int r5), (0, .ref (x_h ad)), (1, .int v1)]) C.1 C.2.1 dX0_trim_41 hl (k := 0) rfl rfl (by decide) rfl (fun ls hl => ?_)
      exact bX_trim_44 C Wd hf (lv_sub hl [3, 0] rfl)
  · replace hf := hf.2 hc
    refine lv_iconst (v := 0) C.1 C.2.1 dX0_trim_23 (by decide) ?_
    exact x_iret C Wd hf dX0_trim_24
set_option maxHeartbeats 4000000 in
set_option maxRecDepth 100000 in
theorem cX_hasData (l : Launch) (D : va_G) (ad : XA) (v1 : Int32) (v2 : Int32) : x_Mi l D yX0_hasData cX0_hasData 3 (some .boolean) { frames := 3, cells := 0, slots := 0, locals := 63 } ad [.ref (x_h ad), .int v1, .int v2] (fun σ post => wX_hasData (x_n ad) (x_lim ad) σ v1 v2 post) := by
  refine x_ofi ⟨by decide, rfl, Nat.le_of_ble_eq_true rfl⟩ (fun {p e s m args below meth c σ A post ls} C Wd hf hl => ?_)
  replace hl : lv_has ls 3 [(0, .ref (x_h ad)), (1, .int v1), (2, .int v2)] := hl
  refine lv_iload_n C.1 C.2.1 dX0_hasData_0 rfl (lv_at hl 2 rfl) ?_
  refine lv_if_lt (tgt := 17) C.1 C.2.1 dX0_hasData_1 (by decide) (fun hc => ?_) (fun hc => ?_)
  · replace hf := hf.1 hc
    refine lv_iconst (v := 0) C.1 C.2.1 dX0_hasData_17 (by decide) ?_
    exact x_zret C Wd (by decide) hf dX0_hasData_18
  · replace hf := hf.2 hc
    refine lv_iload_n C.1 C.2.1 dX0_hasData_4 rfl (lv_at hl 2 rfl) ?_
    refine lv_aload_n C.1 C.2.1 dX0_hasData_5 rfl (lv_at hl 0 rfl) ?_
    refine lv_iload_n C.1 C.2.1 dX0_hasData_6 rfl (lv_at hl 1 rfl) ?_
    refine x_calliv (As := [.int v1]) (rest := [.int v2]) C Wd (cX_usable l D ad v1) sX_usable (by decide) rfl hl.1 rfl (Nat.le_of_ble_eq_true rfl) (by decide) dX0_hasData_7 hf (fun r7 σ7 H locs hf Wd => ?_)
    refine lv_icmp_ge (tgt := 17) C.1 C.2.1 dX0_hasData_10 (by decide) (fun hc => ?_) (fun hc => ?_)
    · replace hf := hf.1 hc
      refine lv_iconst (v := 0) C.1 C.2.1 dX0_hasData_17 (by decide) ?_
      exact x_zret C Wd (by decide) hf dX0_hasData_18
    · replace hf := hf.2 hc
      refine lv_iconst (v := 1) C.1 C.2.1 dX0_hasData_13 (by decide) ?_
      refine lv_goto (tgt := 18) C.1 C.2.1 dX0_hasData_14 (by decide) ?_
      exact x_zret C Wd (by decide) hf dX0_hasData_18
set_option maxHeartbeats 4000000 in
set_option maxRecDepth 100000 in
theorem cX_read (l : Launch) (D : va_G) (ad : XA) (v1 : Int32) (v2 : Int32) : x_Mi l D yX0_read cX0_read 3 (some .int) { frames := 4, cells := 0, slots := 0, locals := 85 } ad [.ref (x_h ad), .int v1, .int v2] (fun σ post => wX_read (x_n ad) (x_lim ad) σ v1 v2 post) := by
  refine x_ofi ⟨by decide, rfl, Nat.le_of_ble_eq_true rfl⟩ (fun {p e s m args below meth c σ A post ls} C Wd hf hl => ?_)
  replace hl : lv_has ls 3 [(0, .ref (x_h ad)), (1, .int v1), (2, .int v2)] := hl
  refine lv_aload_n C.1 C.2.1 dX0_read_0 rfl (lv_at hl 0 rfl) ?_
  refine lv_iload_n C.1 C.2.1 dX0_read_1 rfl (lv_at hl 1 rfl) ?_
  refine lv_iload_n C.1 C.2.1 dX0_read_2 rfl (lv_at hl 2 rfl) ?_
  refine x_calliv (As := [.int v1, .int v2]) (rest := []) C Wd (cX_hasData l D ad v1 v2) sX_hasData (by decide) rfl hl.1 rfl (Nat.le_of_ble_eq_true rfl) (by decide) dX0_read_3 hf (fun r3 σ3 H locs hf Wd => ?_)
  refine lv_if_eq (tgt := 20) C.1 C.2.1 dX0_read_6 (by decide) (fun hc => ?_) (fun hc => ?_)
  · replace hf := hf.1 hc
    refine lv_iconst (v := 0) C.1 C.2.1 dX0_read_20 (by decide) ?_
    exact x_iret C Wd hf dX0_read_21
  · replace hf := hf.2 hc
    refine lv_aload_n C.1 C.2.1 dX0_read_9 rfl (lv_at hl 0 rfl) ?_
    refine x_get_u C Wd dX0_read_10 ?_
    refine lv_iload_n C.1 C.2.1 dX0_read_13 rfl (lv_at hl 1 rfl) ?_
    refine lv_iload_n C.1 C.2.1 dX0_read_14 rfl (lv_at hl 2 rfl) ?_
    refine lv_iadd C.1 C.2.1 dX0_read_15 ?_
    refine x_ald_u C Wd hf.1 dX0_read_16 ?_
    replace hf := hf.2
    refine lv_goto (tgt := 21) C.1 C.2.1 dX0_read_17 (by decide) ?_
    exact x_iret C Wd hf dX0_read_21
set_option maxHeartbeats 4000000 in
set_option maxRecDepth 100000 in
theorem cX_write (l : Launch) (D : va_G) (ad : XA) (v1 : Int32) (v2 : Int32) (v3 : Int32) : x_Mi l D yX0_write cX0_write 4 (some .boolean) { frames := 4, cells := 0, slots := 0, locals := 85 } ad [.ref (x_h ad), .int v1, .int v2, .int v3] (fun σ post => wX_write (x_n ad) (x_lim ad) σ v1 v2 v3 post) := by
  refine x_ofi ⟨by decide, rfl, Nat.le_of_ble_eq_true rfl⟩ (fun {p e s m args below meth c σ A post ls} C Wd hf hl => ?_)
  replace hl : lv_has ls 4 [(0, .ref (x_h ad)), (1, .int v1), (2, .int v2), (3, .int v3)] := hl
  refine lv_aload_n C.1 C.2.1 dX0_write_0 rfl (lv_at hl 0 rfl) ?_
  refine lv_iload_n C.1 C.2.1 dX0_write_1 rfl (lv_at hl 1 rfl) ?_
  refine lv_iload_n C.1 C.2.1 dX0_write_2 rfl (lv_at hl 2 rfl) ?_
  refine x_calliv (As := [.int v1, .int v2]) (rest := []) C Wd (cX_hasData l D ad v1 v2) sX_hasData (by decide) rfl hl.1 rfl (Nat.le_of_ble_eq_true rfl) (by decide) dX0_write_3 hf (fun r3 σ3 H locs hf Wd => ?_)
  refine lv_if_ne (tgt := 11) C.1 C.2.1 dX0_write_6 (by decide) (fun hc => ?_) (fun hc => ?_)
  · replace hf := hf.1 hc
    refine lv_aload_n C.1 C.2.1 dX0_write_11 rfl (lv_at hl 0 rfl) ?_
    refine x_get_u C Wd dX0_write_12 ?_
    refine lv_iload_n C.1 C.2.1 dX0_write_15 rfl (lv_at hl 1 rfl) ?_
    refine lv_iload_n C.1 C.2.1 dX0_write_16 rfl (lv_at hl 2 rfl) ?_
    refine lv_iadd C.1 C.2.1 dX0_write_17 ?_
    refine lv_iload_n C.1 C.2.1 dX0_write_18 rfl (lv_at hl 3 rfl) ?_
    refine x_ast_u C Wd hf.1 dX0_write_19 (fun H locs Wd => ?_)
    replace hf := hf.2
    refine lv_iconst (v := 1) C.1 C.2.1 dX0_write_20 (by decide) ?_
    exact x_zret C Wd (by decide) hf dX0_write_21
  · replace hf := hf.2 hc
    refine lv_iconst (v := 0) C.1 C.2.1 dX0_write_9 (by decide) ?_
    exact x_zret C Wd (by decide) hf dX0_write_10
set_option maxHeartbeats 4000000 in
set_option maxRecDepth 100000 in
theorem cX_size (l : Launch) (D : va_G) (ad : XA) (v1 : Int32) : x_Mi l D yX0_size cX0_size 2 (some .int) { frames := 1, cells := 0, slots := 0, locals := 21 } ad [.ref (x_h ad), .int v1] (fun σ post => wX_size (x_n ad) (x_lim ad) σ v1 post) := by
  refine x_ofi ⟨by decide, rfl, Nat.le_of_ble_eq_true rfl⟩ (fun {p e s m args below meth c σ A post ls} C Wd hf hl => ?_)
  replace hl : lv_has ls 2 [(0, .ref (x_h ad)), (1, .int v1)] := hl
  refine lv_aload_n C.1 C.2.1 dX0_size_0 rfl (lv_at hl 0 rfl) ?_
  refine lv_iload_n C.1 C.2.1 dX0_size_1 rfl (lv_at hl 1 rfl) ?_
  refine x_calliv (As := [.int v1]) (rest := []) C Wd (cX_isChunk l D ad v1) sX_isChunk (by decide) rfl hl.1 rfl (Nat.le_of_ble_eq_true rfl) (by decide) dX0_size_2 hf (fun r2 σ2 H locs hf Wd => ?_)
  refine lv_if_eq (tgt := 17) C.1 C.2.1 dX0_size_5 (by decide) (fun hc => ?_) (fun hc => ?_)
  · replace hf := hf.1 hc
    refine lv_iconst (v := (-1)) C.1 C.2.1 dX0_size_17 (by decide) ?_
    exact x_iret C Wd hf dX0_size_18
  · replace hf := hf.2 hc
    refine lv_aload_n C.1 C.2.1 dX0_size_8 rfl (lv_at hl 0 rfl) ?_
    refine x_get_z C Wd dX0_size_9 ?_
    refine lv_iload_n C.1 C.2.1 dX0_size_12 rfl (lv_at hl 1 rfl) ?_
    refine x_ald_z C Wd hf.1 dX0_size_13 ?_
    replace hf := hf.2
    refine lv_goto (tgt := 18) C.1 C.2.1 dX0_size_14 (by decide) ?_
    exact x_iret C Wd hf dX0_size_18
set_option maxHeartbeats 4000000 in
set_option maxRecDepth 100000 in
theorem cX_state (l : Launch) (D : va_G) (ad : XA) (v1 : Int32) : x_Mi l D yX0_state cX0_state 2 (some .int) { frames := 1, cells := 0, slots := 0, locals := 21 } ad [.ref (x_h ad), .int v1] (fun σ post => wX_state (x_n ad) (x_lim ad) σ v1 post) := by
  refine x_ofi ⟨by decide, rfl, Nat.le_of_ble_eq_true rfl⟩ (fun {p e s m args below meth c σ A post ls} C Wd hf hl => ?_)
  replace hl : lv_has ls 2 [(0, .ref (x_h ad)), (1, .int v1)] := hl
  refine lv_aload_n C.1 C.2.1 dX0_state_0 rfl (lv_at hl 0 rfl) ?_
  refine lv_iload_n C.1 C.2.1 dX0_state_1 rfl (lv_at hl 1 rfl) ?_
  refine x_calliv (As := [.int v1]) (rest := []) C Wd (cX_isChunk l D ad v1) sX_isChunk (by decide) rfl hl.1 rfl (Nat.le_of_ble_eq_true rfl) (by decide) dX0_state_2 hf (fun r2 σ2 H locs hf Wd => ?_)
  refine lv_if_eq (tgt := 17) C.1 C.2.1 dX0_state_5 (by decide) (fun hc => ?_) (fun hc => ?_)
  · replace hf := hf.1 hc
    refine lv_iconst (v := (-1)) C.1 C.2.1 dX0_state_17 (by decide) ?_
    exact x_iret C Wd hf dX0_state_18
  · replace hf := hf.2 hc
    refine lv_aload_n C.1 C.2.1 dX0_state_8 rfl (lv_at hl 0 rfl) ?_
    refine x_get_t C Wd dX0_state_9 ?_
    refine lv_iload_n C.1 C.2.1 dX0_state_12 rfl (lv_at hl 1 rfl) ?_
    refine x_ald_t C Wd hf.1 dX0_state_13 ?_
    replace hf := hf.2
    refine lv_goto (tgt := 18) C.1 C.2.1 dX0_state_14 (by decide) ?_
    exact x_iret C Wd hf dX0_state_18
end
section
set_option maxHeartbeats 4000000 in
set_option maxRecDepth 100000 in
theorem cX_isCountedBy (l : Launch) (D : va_G) (ad : XA) (v1 : Int32) (v2 : Int32) : x_Mi l D yX0_isCountedBy cX0_isCountedBy 3 (some .boolean) { frames := 0, cells := 0, slots := 0, locals := 0 } ad [.ref (x_h ad), .int v1, .int v2] (fun σ post => wX_isCountedBy (x_n ad) (x_lim ad) σ v1 v2 post) := by
  refine x_ofi ⟨by decide, rfl, Nat.le_of_ble_eq_true rfl⟩ (fun {p e s m args below meth c σ A post ls} C Wd hf hl => ?_)
  replace hl : lv_has ls 3 [(0, .ref (x_h ad)), (1, .int v1), (2, .int v2)] := hl
  refine lv_iload_n C.1 C.2.1 dX0_isCountedBy_0 rfl (lv_at hl 1 rfl) ?_
  by_cases hc0 : v1 = 0
  · replace hf := hf.1 hc0
    refine lv_lookup (off := 35) (tgt := 36) C.1 C.2.1 dX0_isCountedBy_1 (by decide) (by rw [hc0] <;> first | rfl | decide) (by decide) ?_
    refine lv_aload_n C.1 C.2.1 dX0_isCountedBy_36 rfl (lv_at hl 0 rfl) ?_
    refine x_get_t C Wd dX0_isCountedBy_37 ?_
    refine lv_iload_n C.1 C.2.1 dX0_isCountedBy_40 rfl (lv_at hl 2 rfl) ?_
    refine x_ald_t C Wd hf.1 dX0_isCountedBy_41 ?_
    replace hf := hf.2
    refine lv_if_ne (tgt := 49) C.1 C.2.1 dX0_isCountedBy_42 (by decide) (fun hc => ?_) (fun hc => ?_)
    · replace hf := hf.1 hc
      refine lv_iconst (v := 0) C.1 C.2.1 dX0_isCountedBy_49 (by decide) ?_
      exact x_zret C Wd (by decide) hf dX0_isCountedBy_50
    · replace hf := hf.2 hc
      refine lv_iconst (v := 1) C.1 C.2.1 dX0_isCountedBy_45 (by decide) ?_
      refine lv_goto (tgt := 50) C.1 C.2.1 dX0_isCountedBy_46 (by decide) ?_
      exact x_zret C Wd (by decide) hf dX0_isCountedBy_50
  · replace hf := hf.2 hc0
    by_cases hc1 : v1 = 1
    · replace hf := hf.1 hc1
      refine lv_lookup (off := 50) (tgt := 51) C.1 C.2.1 dX0_isCountedBy_1 (by decide) (by rw [lv_osw hc0 (k := 0) (by decide), hc1] <;> first | rfl | decide) (by decide) ?_
      refine lv_iconst (v := 1) C.1 C.2.1 dX0_isCountedBy_51 (by decide) ?_
      exact x_zret C Wd (by decide) hf dX0_isCountedBy_52
    · replace hf := hf.2 hc1
      by_cases hc2 : v1 = 16
      · replace hf := hf.1 hc2
        refine lv_lookup (off := 52) (tgt := 53) C.1 C.2.1 dX0_isCountedBy_1 (by decide) (by rw [lv_osw hc0 (k := 0) (by decide), lv_osw hc1 (k := 1) (by decide), hc2] <;> first | rfl | decide) (by decide) ?_
        refine lv_aload_n C.1 C.2.1 dX0_isCountedBy_53 rfl (lv_at hl 0 rfl) ?_
        refine x_get_t C Wd dX0_isCountedBy_54 ?_
        refine lv_iload_n C.1 C.2.1 dX0_isCountedBy_57 rfl (lv_at hl 2 rfl) ?_
        refine x_ald_t C Wd hf.1 dX0_isCountedBy_58 ?_
        replace hf := hf.2
        refine lv_iconst (v := 2) C.1 C.2.1 dX0_isCountedBy_59 (by decide) ?_
        refine lv_icmp_ne (tgt := 67) C.1 C.2.1 dX0_isCountedBy_60 (by decide) (fun hc => ?_) (fun hc => ?_)
        · replace hf := hf.1 hc
          refine lv_iconst (v := 0) C.1 C.2.1 dX0_isCountedBy_67 (by decide) ?_
          exact x_zret C Wd (by decide) hf dX0_isCountedBy_68
        · replace hf := hf.2 hc
          refine lv_iconst (v := 1) C.1 C.2.1 dX0_isCountedBy_63 (by decide) ?_
          refine lv_goto (tgt := 68) C.1 C.2.1 dX0_isCountedBy_64 (by decide) ?_
          exact x_zret C Wd (by decide) hf dX0_isCountedBy_68
      · replace hf := hf.2 hc2
        refine lv_lookup (off := 68) (tgt := 69) C.1 C.2.1 dX0_isCountedBy_1 (by decide) (by rw [lv_osw hc0 (k := 0) (by decide), lv_osw hc1 (k := 1) (by decide), lv_osw hc2 (k := 16) (by decide)] <;> first | rfl | decide) (by decide) ?_
        refine lv_aload_n C.1 C.2.1 dX0_isCountedBy_69 rfl (lv_at hl 0 rfl) ?_
        refine x_get_t C Wd dX0_isCountedBy_70 ?_
        refine lv_iload_n C.1 C.2.1 dX0_isCountedBy_73 rfl (lv_at hl 2 rfl) ?_
        refine x_ald_t C Wd hf.1 dX0_isCountedBy_74 ?_
        replace hf := hf.2
        refine lv_iconst (v := 1) C.1 C.2.1 dX0_isCountedBy_75 (by decide) ?_
        refine lv_icmp_ne (tgt := 93) C.1 C.2.1 dX0_isCountedBy_76 (by decide) (fun hc => ?_) (fun hc => ?_)
        · replace hf := hf.1 hc
          refine lv_iconst (v := 0) C.1 C.2.1 dX0_isCountedBy_93 (by decide) ?_
          exact x_zret C Wd (by decide) hf dX0_isCountedBy_94
        · replace hf := hf.2 hc
          refine lv_aload_n C.1 C.2.1 dX0_isCountedBy_79 rfl (lv_at hl 0 rfl) ?_
          refine x_get_z C Wd dX0_isCountedBy_80 ?_
          refine lv_iload_n C.1 C.2.1 dX0_isCountedBy_83 rfl (lv_at hl 2 rfl) ?_
          refine x_ald_z C Wd hf.1 dX0_isCountedBy_84 ?_
          replace hf := hf.2
          refine lv_iload_n C.1 C.2.1 dX0_isCountedBy_85 rfl (lv_at hl 1 rfl) ?_
          refine lv_icmp_ne (tgt := 93) C.1 C.2.1 dX0_isCountedBy_86 (by decide) (fun hc => ?_) (fun hc => ?_)
          · replace hf := hf.1 hc
            refine lv_iconst (v := 0) C.1 C.2.1 dX0_isCountedBy_93 (by decide) ?_
            exact x_zret C Wd (by decide) hf dX0_isCountedBy_94
          · replace hf := hf.2 hc
            refine lv_iconst (v := 1) C.1 C.2.1 dX0_isCountedBy_89 (by decide) ?_
            refine lv_goto (tgt := 94) C.1 C.2.1 dX0_isCountedBy_90 (by decide) ?_
            exact x_zret C Wd (by decide) hf dX0_isCountedBy_94
set_option maxHeartbeats 4000000 in
set_option maxRecDepth 100000 in
theorem bX_count_16_f {p : Program} {l : Launch} {e : Env} {s : State} {m : MethodId} {args : Array Value} {below : List Frame} {meth : Method} {c : Code} {D : va_G} {ad : XA} {A : Nat → Prop} (C : x_C p s m args meth c cX0_count 4 (some .int)) {post : Int32 → XS → Prop} : ∀ (f : Nat) (σ : XS) (H : Heap) (locs : List Loc) (ls : Array Slot) (v1 : Int32) (v2 : Int32) (v3 : Int32), x_W D ad σ A s H locs → wX_count_16 (x_n ad) (x_lim ad) post f σ v1 v2 v3 → lv_has ls 4 [(0, .ref (x_h ad)), (1, .int v1), (2, .int v2), (3, .int v3)] → W p l e { frames := 1, cells := 0, slots := 0, locals := 22 } s m args below meth c H locs 0 0 (x_Qi below D ad A args s post) (F0 m 16 ls []) := by
  intro f
  induction f with
  | zero => intro σ H locs ls v1 v2 v3 Wd hf hl; exact False.elim hf
  | succ f ih =>
    intro σ H locs ls v1 v2 v3 Wd hf hl
    replace hf : wX_count_16_s (x_n ad) (x_lim ad) post (wX_count_16 (x_n ad) (x_lim ad) post f) σ v1 v2 v3 := hf
    refine lv_iload_n C.1 C.2.1 dX0_count_16 rfl (lv_at hl 3 rfl) ?_
    refine lv_aload_n C.1 C.2.1 dX0_count_17 rfl (lv_at hl 0 rfl) ?_
    refine x_get_en C Wd dX0_count_18 ?_
    refine lv_icmp_ge (tgt := 52) C.1 C.2.1 dX0_count_21 (by decide) (fun hc => ?_) (fun hc => ?_)
    · replace hf := hf.1 hc
      refine lv_iload_n C.1 C.2.1 dX0_count_52 rfl (lv_at hl 2 rfl) ?_
      exact x_iret C Wd hf dX0_count_53
    · replace hf := hf.2 hc
      refine lv_aload_n C.1 C.2.1 dX0_count_24 rfl (lv_at hl 0 rfl) ?_
      refine x_get_t C Wd dX0_count_25 ?_
      refine lv_iload_n C.1 C.2.1 dX0_count_28 rfl (lv_at hl 3 rfl) ?_
      refine x_ald_t C Wd hf.1 dX0_count_29 ?_
      replace hf := hf.2
      refine lv_iconst (v := (-1)) C.1 C.2.1 dX0_count_30 (by decide) ?_
      refine lv_icmp_eq (tgt := 46) C.1 C.2.1 dX0_count_31 (by decide) (fun hc => ?_) (fun hc => ?_)
      · replace hf := hf.1 hc
        refine lv_iinc (v := v3 + 1) (lv' := [(3, .int (v3 + 1)), (0, .ref (x_h ad)), (1, .int v1), (2, .int v2)]) C.1 C.2.1 dX0_count_46 hl (k := 3) rfl rfl (by decide) rfl (fun ls hl => ?_)
        refine lv_goto (tgt := 16) C.1 C.2.1 dX0_count_49 (by decide) ?_
        exact ih _ _ _ _ _ _ _  Wd hf (lv_sub hl [1, 2, 3, 0] rfl)
      · replace hf := hf.2 hc
        refine lv_aload_n C.1 C.2.1 dX0_count_34 rfl (lv_at hl 0 rfl) ?_
        refine lv_iload_n C.1 C.2.1 dX0_count_35 rfl (lv_at hl 1 rfl) ?_
        refine lv_iload_n C.1 C.2.1 dX0_count_36 rfl (lv_at hl 3 rfl) ?_
        refine x_calliv (As := [.int v1, .int v3]) (rest := []) C Wd (cX_isCountedBy l D ad v1 v3) sX_isCountedBy (by decide) rfl hl.1 rfl (Nat.le_of_ble_eq_true rfl) (by decide) dX0_count_37 hf (fun r37 σ37 H locs hf Wd => ?_)
        refine lv_if_eq (tgt := 46) C.1 C.2.1 dX0_count_40 (by decide) (fun hc => ?_) (fun hc => ?_)
        · replace hf := hf.1 hc
          refine lv_iinc (v := v3 + 1) (lv' := [(3, .int (v3 + 1)), (0, .ref (x_h ad)), (1, .int v1), (2, .int v2)]) C.1 C.2.1 dX0_count_46 hl (k := 3) rfl rfl (by decide) rfl (fun ls hl => ?_)
          refine lv_goto (tgt := 16) C.1 C.2.1 dX0_count_49 (by decide) ?_
          exact ih _ _ _ _ _ _ _  Wd hf (lv_sub hl [1, 2, 3, 0] rfl)
        · replace hf := hf.2 hc
          refine lv_iinc (v := v2 + 1) (lv' := [(2, .int (v2 + 1)), (0, .ref (x_h ad)), (1, .int v1), (3, .int v3)]) C.1 C.2.1 dX0_count_43 hl (k := 2) rfl rfl (by decide) rfl (fun ls hl => ?_)
          refine lv_iinc (v := v3 + 1) (lv' := [(3, .int (v3 + 1)), (2, .int (v2 + 1)), (0, .ref (x_h ad)), (1, .int v1)]) C.1 C.2.1 dX0_count_46 hl (k := 3) rfl rfl (by decide) rfl (fun ls hl => ?_)
          refine lv_goto (tgt := 16) C.1 C.2.1 dX0_count_49 (by decide) ?_
          exact ih _ _ _ _ _ _ _  Wd hf (lv_sub hl [2, 3, 1, 0] rfl)
theorem bX_count_16 {p : Program} {l : Launch} {e : Env} {s : State} {m : MethodId} {args : Array Value} {below : List Frame} {meth : Method} {c : Code} {D : va_G} {ad : XA} {A : Nat → Prop} (C : x_C p s m args meth c cX0_count 4 (some .int)) {post : Int32 → XS → Prop} {σ : XS} {H : Heap} {locs : List Loc} {ls : Array Slot} {v1 : Int32} {v2 : Int32} {v3 : Int32} (Wd : x_W D ad σ A s H locs) (hf : ∃ f : Nat, wX_count_16 (x_n ad) (x_lim ad) post f σ v1 v2 v3) (hl : lv_has ls 4 [(0, .ref (x_h ad)), (1, .int v1), (2, .int v2), (3, .int v3)]) : W p l e { frames := 1, cells := 0, slots := 0, locals := 22 } s m args below meth c H locs 0 0 (x_Qi below D ad A args s post) (F0 m 16 ls []) := by
  obtain ⟨f, hf⟩ := hf
  exact bX_count_16_f C f σ H locs ls v1 v2 v3 Wd hf hl
set_option maxHeartbeats 4000000 in
set_option maxRecDepth 100000 in
theorem cX_count (l : Launch) (D : va_G) (ad : XA) (v1 : Int32) : x_Mi l D yX0_count cX0_count 4 (some .int) { frames := 1, cells := 0, slots := 0, locals := 22 } ad [.ref (x_h ad), .int v1] (fun σ post => wX_count (x_n ad) (x_lim ad) σ v1 post) := by
  refine x_ofi ⟨by decide, rfl, Nat.le_of_ble_eq_true rfl⟩ (fun {p e s m args below meth c σ A post ls} C Wd hf hl => ?_)
  replace hl : lv_has ls 4 [(0, .ref (x_h ad)), (1, .int v1)] := hl
  refine lv_iload_n C.1 C.2.1 dX0_count_0 rfl (lv_at hl 1 rfl) ?_
  refine lv_if_lt (tgt := 10) C.1 C.2.1 dX0_count_1 (by decide) (fun hc => ?_) (fun hc => ?_)
  · replace hf := hf.1 hc
    refine lv_iconst (v := (-1)) C.1 C.2.1 dX0_count_10 (by decide) ?_
    exact x_iret C Wd hf dX0_count_11
  · replace hf := hf.2 hc
    refine lv_iload_n C.1 C.2.1 dX0_count_4 rfl (lv_at hl 1 rfl) ?_
    refine lv_bipush (v := 16) C.1 C.2.1 dX0_count_5 (by decide) ?_
    refine lv_icmp_le (tgt := 12) C.1 C.2.1 dX0_count_7 (by decide) (fun hc => ?_) (fun hc => ?_)
    · replace hf := hf.1 hc
      refine lv_iconst (v := 0) C.1 C.2.1 dX0_count_12 (by decide) ?_
      refine lv_istore_n (lv' := [(2, .int 0), (0, .ref (x_h ad)), (1, .int v1)]) C.1 C.2.1 dX0_count_13 rfl hl (by decide) rfl (fun ls hl => ?_)
      refine lv_iconst (v := 0) C.1 C.2.1 dX0_count_14 (by decide) ?_
      refine lv_istore_n (lv' := [(3, .int 0), (2, .int 0), (0, .ref (x_h ad)), (1, .int v1)]) C.1 C.2.1 dX0_count_15 rfl hl (by decide) rfl (fun ls hl => ?_)
      exact bX_count_16 C Wd hf (lv_sub hl [2, 3, 1, 0] rfl)
    · replace hf := hf.2 hc
      refine lv_iconst (v := (-1)) C.1 C.2.1 dX0_count_10 (by decide) ?_
      exact x_iret C Wd hf dX0_count_11
set_option maxHeartbeats 4000000 in
set_option maxRecDepth 100000 in
theorem cX_end (l : Launch) (D : va_G) (ad : XA) : x_Mi l D yX0_end cX0_end 1 (some .int) { frames := 0, cells := 0, slots := 0, locals := 0 } ad [.ref (x_h ad)] (fun σ post => wX_end (x_n ad) (x_lim ad) σ  post) := by
  refine x_ofi ⟨by decide, rfl, Nat.le_of_ble_eq_true rfl⟩ (fun {p e s m args below meth c σ A post ls} C Wd hf hl => ?_)
  replace hl : lv_has ls 1 [(0, .ref (x_h ad))] := hl
  refine lv_aload_n C.1 C.2.1 dX0_end_0 rfl (lv_at hl 0 rfl) ?_
  refine x_get_en C Wd dX0_end_1 ?_
  exact x_iret C Wd hf dX0_end_4
set_option maxHeartbeats 4000000 in
set_option maxRecDepth 100000 in
theorem bX_total_15_f {p : Program} {l : Launch} {e : Env} {s : State} {m : MethodId} {args : Array Value} {below : List Frame} {meth : Method} {c : Code} {D : va_G} {ad : XA} {A : Nat → Prop} (C : x_C p s m args meth c cX0_total 4 (some .int)) {post : Int32 → XS → Prop} : ∀ (f : Nat) (σ : XS) (H : Heap) (locs : List Loc) (ls : Array Slot) (v1 : Int32) (v2 : Int32) (v3 : Int32), x_W D ad σ A s H locs → wX_total_15 (x_n ad) (x_lim ad) post f σ v1 v2 v3 → lv_has ls 4 [(0, .ref (x_h ad)), (1, .int v1), (2, .int v2), (3, .int v3)] → W p l e { frames := 0, cells := 0, slots := 0, locals := 0 } s m args below meth c H locs 0 0 (x_Qi below D ad A args s post) (F0 m 15 ls []) := by
  intro f
  induction f with
  | zero => intro σ H locs ls v1 v2 v3 Wd hf hl; exact False.elim hf
  | succ f ih =>
    intro σ H locs ls v1 v2 v3 Wd hf hl
    replace hf : wX_total_15_s (x_n ad) (x_lim ad) post (wX_total_15 (x_n ad) (x_lim ad) post f) σ v1 v2 v3 := hf
    refine lv_iload_n C.1 C.2.1 dX0_total_15 rfl (lv_at hl 3 rfl) ?_
    refine lv_aload_n C.1 C.2.1 dX0_total_16 rfl (lv_at hl 0 rfl) ?_
    refine x_get_en C Wd dX0_total_17 ?_
    refine lv_icmp_ge (tgt := 48) C.1 C.2.1 dX0_total_20 (by decide) (fun hc => ?_) (fun hc => ?_)
    · replace hf := hf.1 hc
      refine lv_iload_n C.1 C.2.1 dX0_total_48 rfl (lv_at hl 2 rfl) ?_
      exact x_iret C Wd hf dX0_total_49
    · replace hf := hf.2 hc
      refine lv_aload_n C.1 C.2.1 dX0_total_23 rfl (lv_at hl 0 rfl) ?_
      refine x_get_t C Wd dX0_total_24 ?_
      refine lv_iload_n C.1 C.2.1 dX0_total_27 rfl (lv_at hl 3 rfl) ?_
      refine x_ald_t C Wd hf.1 dX0_total_28 ?_
      replace hf := hf.2
      refine lv_iload_n C.1 C.2.1 dX0_total_29 rfl (lv_at hl 1 rfl) ?_
      refine lv_icmp_ne (tgt := 42) C.1 C.2.1 dX0_total_30 (by decide) (fun hc => ?_) (fun hc => ?_)
      · replace hf := hf.1 hc
        refine lv_iinc (v := v3 + 1) (lv' := [(3, .int (v3 + 1)), (0, .ref (x_h ad)), (1, .int v1), (2, .int v2)]) C.1 C.2.1 dX0_total_42 hl (k := 3) rfl rfl (by decide) rfl (fun ls hl => ?_)
        refine lv_goto (tgt := 15) C.1 C.2.1 dX0_total_45 (by decide) ?_
        exact ih _ _ _ _ _ _ _  Wd hf (lv_sub hl [1, 2, 3, 0] rfl)
      · replace hf := hf.2 hc
        refine lv_iload_n C.1 C.2.1 dX0_total_33 rfl (lv_at hl 2 rfl) ?_
        refine lv_aload_n C.1 C.2.1 dX0_total_34 rfl (lv_at hl 0 rfl) ?_
        refine x_get_z C Wd dX0_total_35 ?_
        refine lv_iload_n C.1 C.2.1 dX0_total_38 rfl (lv_at hl 3 rfl) ?_
        refine x_ald_z C Wd hf.1 dX0_total_39 ?_
        replace hf := hf.2
        refine lv_iadd C.1 C.2.1 dX0_total_40 ?_
        refine lv_istore_n (lv' := [(2, .int (v2 + (x_z σ v3.toNatClampNeg))), (0, .ref (x_h ad)), (1, .int v1), (3, .int v3)]) C.1 C.2.1 dX0_total_41 rfl hl (by decide) rfl (fun ls hl => ?_)
        refine lv_iinc (v := v3 + 1) (lv' := [(3, .int (v3 + 1)), (2, .int (v2 + (x_z σ v3.toNatClampNeg))), (0, .ref (x_h ad)), (1, .int v1)]) C.1 C.2.1 dX0_total_42 hl (k := 3) rfl rfl (by decide) rfl (fun ls hl => ?_)
        refine lv_goto (tgt := 15) C.1 C.2.1 dX0_total_45 (by decide) ?_
        exact ih _ _ _ _ _ _ _  Wd hf (lv_sub hl [2, 3, 1, 0] rfl)
theorem bX_total_15 {p : Program} {l : Launch} {e : Env} {s : State} {m : MethodId} {args : Array Value} {below : List Frame} {meth : Method} {c : Code} {D : va_G} {ad : XA} {A : Nat → Prop} (C : x_C p s m args meth c cX0_total 4 (some .int)) {post : Int32 → XS → Prop} {σ : XS} {H : Heap} {locs : List Loc} {ls : Array Slot} {v1 : Int32} {v2 : Int32} {v3 : Int32} (Wd : x_W D ad σ A s H locs) (hf : ∃ f : Nat, wX_total_15 (x_n ad) (x_lim ad) post f σ v1 v2 v3) (hl : lv_has ls 4 [(0, .ref (x_h ad)), (1, .int v1), (2, .int v2), (3, .int v3)]) : W p l e { frames := 0, cells := 0, slots := 0, locals := 0 } s m args below meth c H locs 0 0 (x_Qi below D ad A args s post) (F0 m 15 ls []) := by
  obtain ⟨f, hf⟩ := hf
  exact bX_total_15_f C f σ H locs ls v1 v2 v3 Wd hf hl
set_option maxHeartbeats 4000000 in
set_option maxRecDepth 100000 in
theorem cX_total (l : Launch) (D : va_G) (ad : XA) (v1 : Int32) : x_Mi l D yX0_total cX0_total 4 (some .int) { frames := 0, cells := 0, slots := 0, locals := 0 } ad [.ref (x_h ad), .int v1] (fun σ post => wX_total (x_n ad) (x_lim ad) σ v1 post) := by
  refine x_ofi ⟨by decide, rfl, Nat.le_of_ble_eq_true rfl⟩ (fun {p e s m args below meth c σ A post ls} C Wd hf hl => ?_)
  replace hl : lv_has ls 4 [(0, .ref (x_h ad)), (1, .int v1)] := hl
  refine lv_iload_n C.1 C.2.1 dX0_total_0 rfl (lv_at hl 1 rfl) ?_
  refine lv_if_lt (tgt := 9) C.1 C.2.1 dX0_total_1 (by decide) (fun hc => ?_) (fun hc => ?_)
  · replace hf := hf.1 hc
    refine lv_iconst (v := (-1)) C.1 C.2.1 dX0_total_9 (by decide) ?_
    exact x_iret C Wd hf dX0_total_10
  · replace hf := hf.2 hc
    refine lv_iload_n C.1 C.2.1 dX0_total_4 rfl (lv_at hl 1 rfl) ?_
    refine lv_iconst (v := 4) C.1 C.2.1 dX0_total_5 (by decide) ?_
    refine lv_icmp_le (tgt := 11) C.1 C.2.1 dX0_total_6 (by decide) (fun hc => ?_) (fun hc => ?_)
    · replace hf := hf.1 hc
      refine lv_iconst (v := 0) C.1 C.2.1 dX0_total_11 (by decide) ?_
      refine lv_istore_n (lv' := [(2, .int 0), (0, .ref (x_h ad)), (1, .int v1)]) C.1 C.2.1 dX0_total_12 rfl hl (by decide) rfl (fun ls hl => ?_)
      refine lv_iconst (v := 0) C.1 C.2.1 dX0_total_13 (by decide) ?_
      refine lv_istore_n (lv' := [(3, .int 0), (2, .int 0), (0, .ref (x_h ad)), (1, .int v1)]) C.1 C.2.1 dX0_total_14 rfl hl (by decide) rfl (fun ls hl => ?_)
      exact bX_total_15 C Wd hf (lv_sub hl [2, 3, 1, 0] rfl)
    · replace hf := hf.2 hc
      refine lv_iconst (v := (-1)) C.1 C.2.1 dX0_total_9 (by decide) ?_
      exact x_iret C Wd hf dX0_total_10
end
section
abbrev MS : Type := (Nat → Int32) × (Nat → Int32) × (Nat → Int32) × (Nat → Int32) × (Nat → Int32) × Int32 × Int32 × Int32 × Int32
def m_un (σ : MS) : Nat → Int32 := σ.1
def m_fi (σ : MS) : Nat → Int32 := σ.2.1
def m_sz (σ : MS) : Nat → Int32 := σ.2.2.1
def m_us (σ : MS) : Nat → Int32 := σ.2.2.2.1
def m_ca (σ : MS) : Nat → Int32 := σ.2.2.2.2.1
def m_en (σ : MS) : Int32 := σ.2.2.2.2.2.1
def m_ch (σ : MS) : Int32 := σ.2.2.2.2.2.2.1
def m_cl (σ : MS) : Int32 := σ.2.2.2.2.2.2.2.1
def m_vi (σ : MS) : Int32 := σ.2.2.2.2.2.2.2.2
def m_sun (σ : MS) (v : Nat → Int32) : MS := (v, σ.2)
def m_sfi (σ : MS) (v : Nat → Int32) : MS := (σ.1, v, σ.2.2)
def m_ssz (σ : MS) (v : Nat → Int32) : MS := (σ.1, σ.2.1, v, σ.2.2.2)
def m_sus (σ : MS) (v : Nat → Int32) : MS := (σ.1, σ.2.1, σ.2.2.1, v, σ.2.2.2.2)
def m_sca (σ : MS) (v : Nat → Int32) : MS := (σ.1, σ.2.1, σ.2.2.1, σ.2.2.2.1, v, σ.2.2.2.2.2)
def m_sen (σ : MS) (v : Int32) : MS := (σ.1, σ.2.1, σ.2.2.1, σ.2.2.2.1, σ.2.2.2.2.1, v, σ.2.2.2.2.2.2)
def m_sch (σ : MS) (v : Int32) : MS := (σ.1, σ.2.1, σ.2.2.1, σ.2.2.2.1, σ.2.2.2.2.1, σ.2.2.2.2.2.1, v, σ.2.2.2.2.2.2.2)
def m_scl (σ : MS) (v : Int32) : MS := (σ.1, σ.2.1, σ.2.2.1, σ.2.2.2.1, σ.2.2.2.2.1, σ.2.2.2.2.2.1, σ.2.2.2.2.2.2.1, v, σ.2.2.2.2.2.2.2.2)
def m_svi (σ : MS) (v : Int32) : MS := (σ.1, σ.2.1, σ.2.2.1, σ.2.2.2.1, σ.2.2.2.2.1, σ.2.2.2.2.2.1, σ.2.2.2.2.2.2.1, σ.2.2.2.2.2.2.2.1, v)
theorem m_un_sun (σ : MS) (v : Nat → Int32) : m_un (m_sun σ v) = v := rfl
theorem m_un_sfi (σ : MS) (v : Nat → Int32) : m_un (m_sfi σ v) = m_un σ := rfl
theorem m_un_ssz (σ : MS) (v : Nat → Int32) : m_un (m_ssz σ v) = m_un σ := rfl
theorem m_un_sus (σ : MS) (v : Nat → Int32) : m_un (m_sus σ v) = m_un σ := rfl
theorem m_un_sca (σ : MS) (v : Nat → Int32) : m_un (m_sca σ v) = m_un σ := rfl
theorem m_un_sen (σ : MS) (v : Int32) : m_un (m_sen σ v) = m_un σ := rfl
theorem m_un_sch (σ : MS) (v : Int32) : m_un (m_sch σ v) = m_un σ := rfl
theorem m_un_scl (σ : MS) (v : Int32) : m_un (m_scl σ v) = m_un σ := rfl
theorem m_un_svi (σ : MS) (v : Int32) : m_un (m_svi σ v) = m_un σ := rfl
theorem m_fi_sun (σ : MS) (v : Nat → Int32) : m_fi (m_sun σ v) = m_fi σ := rfl
theorem m_fi_sfi (σ : MS) (v : Nat → Int32) : m_fi (m_sfi σ v) = v := rfl
theorem m_fi_ssz (σ : MS) (v : Nat → Int32) : m_fi (m_ssz σ v) = m_fi σ := rfl
theorem m_fi_sus (σ : MS) (v : Nat → Int32) : m_fi (m_sus σ v) = m_fi σ := rfl
theorem m_fi_sca (σ : MS) (v : Nat → Int32) : m_fi (m_sca σ v) = m_fi σ := rfl
theorem m_fi_sen (σ : MS) (v : Int32) : m_fi (m_sen σ v) = m_fi σ := rfl
theorem m_fi_sch (σ : MS) (v : Int32) : m_fi (m_sch σ v) = m_fi σ := rfl
theorem m_fi_scl (σ : MS) (v : Int32) : m_fi (m_scl σ v) = m_fi σ := rfl
theorem m_fi_svi (σ : MS) (v : Int32) : m_fi (m_svi σ v) = m_fi σ := rfl
theorem m_sz_sun (σ : MS) (v : Nat → Int32) : m_sz (m_sun σ v) = m_sz σ := rfl
theorem m_sz_sfi (σ : MS) (v : Nat → Int32) : m_sz (m_sfi σ v) = m_sz σ := rfl
theorem m_sz_ssz (σ : MS) (v : Nat → Int32) : m_sz (m_ssz σ v) = v := rfl
theorem m_sz_sus (σ : MS) (v : Nat → Int32) : m_sz (m_sus σ v) = m_sz σ := rfl
theorem m_sz_sca (σ : MS) (v : Nat → Int32) : m_sz (m_sca σ v) = m_sz σ := rfl
theorem m_sz_sen (σ : MS) (v : Int32) : m_sz (m_sen σ v) = m_sz σ := rfl
theorem m_sz_sch (σ : MS) (v : Int32) : m_sz (m_sch σ v) = m_sz σ := rfl
theorem m_sz_scl (σ : MS) (v : Int32) : m_sz (m_scl σ v) = m_sz σ := rfl
theorem m_sz_svi (σ : MS) (v : Int32) : m_sz (m_svi σ v) = m_sz σ := rfl
theorem m_us_sun (σ : MS) (v : Nat → Int32) : m_us (m_sun σ v) = m_us σ := rfl
theorem m_us_sfi (σ : MS) (v : Nat → Int32) : m_us (m_sfi σ v) = m_us σ := rfl
theorem m_us_ssz (σ : MS) (v : Nat → Int32) : m_us (m_ssz σ v) = m_us σ := rfl
theorem m_us_sus (σ : MS) (v : Nat → Int32) : m_us (m_sus σ v) = v := rfl
theorem m_us_sca (σ : MS) (v : Nat → Int32) : m_us (m_sca σ v) = m_us σ := rfl
theorem m_us_sen (σ : MS) (v : Int32) : m_us (m_sen σ v) = m_us σ := rfl
theorem m_us_sch (σ : MS) (v : Int32) : m_us (m_sch σ v) = m_us σ := rfl
theorem m_us_scl (σ : MS) (v : Int32) : m_us (m_scl σ v) = m_us σ := rfl
theorem m_us_svi (σ : MS) (v : Int32) : m_us (m_svi σ v) = m_us σ := rfl
theorem m_ca_sun (σ : MS) (v : Nat → Int32) : m_ca (m_sun σ v) = m_ca σ := rfl
theorem m_ca_sfi (σ : MS) (v : Nat → Int32) : m_ca (m_sfi σ v) = m_ca σ := rfl
theorem m_ca_ssz (σ : MS) (v : Nat → Int32) : m_ca (m_ssz σ v) = m_ca σ := rfl
theorem m_ca_sus (σ : MS) (v : Nat → Int32) : m_ca (m_sus σ v) = m_ca σ := rfl
theorem m_ca_sca (σ : MS) (v : Nat → Int32) : m_ca (m_sca σ v) = v := rfl
theorem m_ca_sen (σ : MS) (v : Int32) : m_ca (m_sen σ v) = m_ca σ := rfl
theorem m_ca_sch (σ : MS) (v : Int32) : m_ca (m_sch σ v) = m_ca σ := rfl
theorem m_ca_scl (σ : MS) (v : Int32) : m_ca (m_scl σ v) = m_ca σ := rfl
theorem m_ca_svi (σ : MS) (v : Int32) : m_ca (m_svi σ v) = m_ca σ := rfl
theorem m_en_sun (σ : MS) (v : Nat → Int32) : m_en (m_sun σ v) = m_en σ := rfl
theorem m_en_sfi (σ : MS) (v : Nat → Int32) : m_en (m_sfi σ v) = m_en σ := rfl
theorem m_en_ssz (σ : MS) (v : Nat → Int32) : m_en (m_ssz σ v) = m_en σ := rfl
theorem m_en_sus (σ : MS) (v : Nat → Int32) : m_en (m_sus σ v) = m_en σ := rfl
theorem m_en_sca (σ : MS) (v : Nat → Int32) : m_en (m_sca σ v) = m_en σ := rfl
theorem m_en_sen (σ : MS) (v : Int32) : m_en (m_sen σ v) = v := rfl
theorem m_en_sch (σ : MS) (v : Int32) : m_en (m_sch σ v) = m_en σ := rfl
theorem m_en_scl (σ : MS) (v : Int32) : m_en (m_scl σ v) = m_en σ := rfl
theorem m_en_svi (σ : MS) (v : Int32) : m_en (m_svi σ v) = m_en σ := rfl
theorem m_ch_sun (σ : MS) (v : Nat → Int32) : m_ch (m_sun σ v) = m_ch σ := rfl
theorem m_ch_sfi (σ : MS) (v : Nat → Int32) : m_ch (m_sfi σ v) = m_ch σ := rfl
theorem m_ch_ssz (σ : MS) (v : Nat → Int32) : m_ch (m_ssz σ v) = m_ch σ := rfl
theorem m_ch_sus (σ : MS) (v : Nat → Int32) : m_ch (m_sus σ v) = m_ch σ := rfl
theorem m_ch_sca (σ : MS) (v : Nat → Int32) : m_ch (m_sca σ v) = m_ch σ := rfl
theorem m_ch_sen (σ : MS) (v : Int32) : m_ch (m_sen σ v) = m_ch σ := rfl
theorem m_ch_sch (σ : MS) (v : Int32) : m_ch (m_sch σ v) = v := rfl
theorem m_ch_scl (σ : MS) (v : Int32) : m_ch (m_scl σ v) = m_ch σ := rfl
theorem m_ch_svi (σ : MS) (v : Int32) : m_ch (m_svi σ v) = m_ch σ := rfl
theorem m_cl_sun (σ : MS) (v : Nat → Int32) : m_cl (m_sun σ v) = m_cl σ := rfl
theorem m_cl_sfi (σ : MS) (v : Nat → Int32) : m_cl (m_sfi σ v) = m_cl σ := rfl
theorem m_cl_ssz (σ : MS) (v : Nat → Int32) : m_cl (m_ssz σ v) = m_cl σ := rfl
theorem m_cl_sus (σ : MS) (v : Nat → Int32) : m_cl (m_sus σ v) = m_cl σ := rfl
theorem m_cl_sca (σ : MS) (v : Nat → Int32) : m_cl (m_sca σ v) = m_cl σ := rfl
theorem m_cl_sen (σ : MS) (v : Int32) : m_cl (m_sen σ v) = m_cl σ := rfl
theorem m_cl_sch (σ : MS) (v : Int32) : m_cl (m_sch σ v) = m_cl σ := rfl
theorem m_cl_scl (σ : MS) (v : Int32) : m_cl (m_scl σ v) = v := rfl
theorem m_cl_svi (σ : MS) (v : Int32) : m_cl (m_svi σ v) = m_cl σ := rfl
theorem m_vi_sun (σ : MS) (v : Nat → Int32) : m_vi (m_sun σ v) = m_vi σ := rfl
theorem m_vi_sfi (σ : MS) (v : Nat → Int32) : m_vi (m_sfi σ v) = m_vi σ := rfl
theorem m_vi_ssz (σ : MS) (v : Nat → Int32) : m_vi (m_ssz σ v) = m_vi σ := rfl
theorem m_vi_sus (σ : MS) (v : Nat → Int32) : m_vi (m_sus σ v) = m_vi σ := rfl
theorem m_vi_sca (σ : MS) (v : Nat → Int32) : m_vi (m_sca σ v) = m_vi σ := rfl
theorem m_vi_sen (σ : MS) (v : Int32) : m_vi (m_sen σ v) = m_vi σ := rfl
theorem m_vi_sch (σ : MS) (v : Int32) : m_vi (m_sch σ v) = m_vi σ := rfl
theorem m_vi_scl (σ : MS) (v : Int32) : m_vi (m_scl σ v) = m_vi σ := rfl
theorem m_vi_svi (σ : MS) (v : Int32) : m_vi (m_svi σ v) = v := rfl
abbrev MA : Type := Nat × Nat × Nat × Nat × Nat × Nat × ClassId × ClassId × Int32
def m_h (ad : MA) : Nat := ad.1
def m_aun (ad : MA) : Nat := ad.2.1
def m_afi (ad : MA) : Nat := ad.2.2.1
def m_asz (ad : MA) : Nat := ad.2.2.2.1
def m_aus (ad : MA) : Nat := ad.2.2.2.2.1
def m_aca (ad : MA) : Nat := ad.2.2.2.2.2.1
def m_c (ad : MA) : ClassId := ad.2.2.2.2.2.2.1
def m_cz (ad : MA) : ClassId := ad.2.2.2.2.2.2.2.1
def m_lim (ad : MA) : Int32 := ad.2.2.2.2.2.2.2.2
def m_w (ad : MA) (σ : MS) : va_W := [(m_h ad, .inr (1, [.int (m_lim ad), .int (m_en σ), .ref (m_aun ad), .int (m_ch σ), .ref (m_afi ad), .ref (m_asz ad), .ref (m_aus ad), .ref (m_aca ad), .int (m_cl σ), .int (m_vi σ)])), (m_aun ad, .inl (m_c ad, 512, .inl (m_un σ))), (m_afi ad, .inl (m_c ad, 258, .inl (m_fi σ))), (m_asz ad, .inl (m_c ad, 258, .inl (m_sz σ))), (m_aus ad, .inl (m_cz ad, 258, .inl (m_us σ))), (m_aca ad, .inl (m_c ad, 258, .inl (m_ca σ)))]

theorem m_in : ∀ w ∈ u_ws RX1 TX1 10, w ∈ lw_g := by
  intro w hw
  obtain ⟨k, hk, rfl⟩ := List.mem_map.mp hw
  have hk := List.mem_range.mp hk
  match k, hk with
  | 0, _ => exact gm 289 rfl rfl
  | 1, _ => exact gm 291 rfl rfl
  | 2, _ => exact gm 293 rfl rfl
  | 3, _ => exact gm 295 rfl rfl
  | 4, _ => exact gm 297 rfl rfl
  | 5, _ => exact gm 299 rfl rfl
  | 6, _ => exact gm 301 rfl rfl
  | 7, _ => exact gm 303 rfl rfl
  | 8, _ => exact gm 305 rfl rfl
  | 9, _ => exact gm 307 rfl rfl
  | k + 10, hk => omega

def m_C (p : Program) (s : State) (m : MethodId) (args : Array Value) (meth : Method) (c : Code) (cc : ByteArray) (nL : Nat) (ret : Option FieldType) : Prop := p.tables.exec = Jvm.exec ∧ c.code = cc ∧ c.maxLocals = nL ∧ s.vm.findClass RX1 = some m.cls ∧ (∀ w ∈ lw_g, w.before args s = true) ∧ meth.sig.returnType = ret ∧ meth.locks = false
def m_W (D : va_G) (ad : MA) (σ : MS) (A : Nat → Prop) (s : State) (H : Heap) (locs : List Loc) : Prop := va_P D vcl (m_w ad σ) H ∧ va_D A (m_w ad σ) ∧ va_S A s.heap H locs ∧ va_K D vcl [(m_c ad, .int), (m_cz ad, .boolean)] s ∧ ∀ q : Nat, s.heap.size ≤ q → A q
def m_Pc (D : va_G) (ad : MA) (σ : MS) (sz : Nat) (As : List Value) : Array Value → State → Prop := va_Pc As (fun U => U.heap.size = sz ∧ va_P D vcl (m_w ad σ) U.heap ∧ va_K D vcl [(m_c ad, .int), (m_cz ad, .boolean)] U ∧ va_D (fun _ => True) (m_w ad σ))
def m_B (D : va_G) (ad : MA) (A : Nat → Prop) (σ : MS) (t : State) : Prop := va_P D vcl (m_w ad σ) t.heap ∧ va_K D vcl [(m_c ad, .int), (m_cz ad, .boolean)] t ∧ va_D A (m_w ad σ)
def m_A (ad : MA) (σ : MS) (sz : Nat) : Nat → Prop := va_A (m_w ad σ) sz
def m_Qi (below : List Frame) (D : va_G) (ad : MA) (A : Nat → Prop) (args : Array Value) (s : State) (post : Int32 → MS → Prop) : State → Prop := MQ below (va_Qi post (m_B D ad A) A) args s 0 0 A
def m_Qv (below : List Frame) (D : va_G) (ad : MA) (A : Nat → Prop) (args : Array Value) (s : State) (post : MS → Prop) : State → Prop := MQ below (va_Qv post (m_B D ad A) A) args s 0 0 A
def m_Mi (l : Launch) (D : va_G) (y : MethodName) (cc : ByteArray) (nL : Nat) (ret : Option FieldType) (rm : Room) (ad : MA) (As : List Value) (wp : MS → (Int32 → MS → Prop) → Prop) : Prop := ∀ (σ : MS) (sz : Nat) (post : Int32 → MS → Prop), wp σ post → Met l y (.code y cc nL ret :: lw_g) rm (m_Pc D ad σ sz As) (va_Qi post (m_B D ad (m_A ad σ sz)) (m_A ad σ sz)) 0 0 (m_A ad σ sz)
def m_Mv (l : Launch) (D : va_G) (y : MethodName) (cc : ByteArray) (nL : Nat) (ret : Option FieldType) (rm : Room) (ad : MA) (As : List Value) (wp : MS → (MS → Prop) → Prop) : Prop := ∀ (σ : MS) (sz : Nat) (post : MS → Prop), wp σ post → Met l y (.code y cc nL ret :: lw_g) rm (m_Pc D ad σ sz As) (va_Qv post (m_B D ad (m_A ad σ sz)) (m_A ad σ sz)) 0 0 (m_A ad σ sz)
theorem m_ofi {l : Launch} {D : va_G} {y : MethodName} {cc : ByteArray} {nL : Nat} {ret : Option FieldType} {rm : Room} {ad : MA} {As : List Value} {wp : MS → (Int32 → MS → Prop) → Prop} (hy : plainName y.cls = true ∧ y.cls = RX1 ∧ (lg_sl As).length ≤ nL)
    (body : ∀ {p : Program} {e : Env} {s : State} {m : MethodId} {args : Array Value} {below : List Frame} {meth : Method} {c : Code} {σ : MS} {A : Nat → Prop} {post : Int32 → MS → Prop} {ls : Array Slot}, m_C p s m args meth c cc nL ret → m_W D ad σ A s s.heap [] → wp σ post → lv_has ls nL (lv_args 0 As) → W p l e rm s m args below meth c s.heap [] 0 0 (m_Qi below D ad A args s post) (F0 m 0 ls [])) : m_Mi l D y cc nL ret rm ad As wp := by
  intro σ sz post hw
  refine Met.ofW (cc := cc) (maxL := nL) (ret := ret) hy.1 rfl ?_
  intro p e s m args below meth c s₁ B hml hv
  obtain ⟨rfl, hsz, hP, hK, hD0⟩ := hv
  have hts := atoms_spec (ws := .code y cc nL ret :: lw_g) B.pre
  have hown : s.vm.findClass y.cls = some m.cls := findClass_of_methodNamed B.named
  rw [hy.2.1] at hown
  subst hsz
  have hD := hD0.self (sz := s.heap.size)
  have hA : ∀ q : Nat, s.heap.size ≤ q → m_A ad σ s.heap.size q := fun q h => Or.inr h
  rw [lg_entry_eq]
  exact body (post := post) ⟨B.exec, B.bytes, hml, hown, fun w h => hts w (List.mem_cons_of_mem _ h), B.returns, B.notSynchronized⟩ ⟨hP, hD, va_S.rf, hK, hA⟩ hw (lv_entry As hy.2.2)
theorem m_ofv {l : Launch} {D : va_G} {y : MethodName} {cc : ByteArray} {nL : Nat} {ret : Option FieldType} {rm : Room} {ad : MA} {As : List Value} {wp : MS → (MS → Prop) → Prop} (hy : plainName y.cls = true ∧ y.cls = RX1 ∧ (lg_sl As).length ≤ nL)
    (body : ∀ {p : Program} {e : Env} {s : State} {m : MethodId} {args : Array Value} {below : List Frame} {meth : Method} {c : Code} {σ : MS} {A : Nat → Prop} {post : MS → Prop} {ls : Array Slot}, m_C p s m args meth c cc nL ret → m_W D ad σ A s s.heap [] → wp σ post → lv_has ls nL (lv_args 0 As) → W p l e rm s m args below meth c s.heap [] 0 0 (m_Qv below D ad A args s post) (F0 m 0 ls [])) : m_Mv l D y cc nL ret rm ad As wp := by
  intro σ sz post hw
  refine Met.ofW (cc := cc) (maxL := nL) (ret := ret) hy.1 rfl ?_
  intro p e s m args below meth c s₁ B hml hv
  obtain ⟨rfl, hsz, hP, hK, hD0⟩ := hv
  have hts := atoms_spec (ws := .code y cc nL ret :: lw_g) B.pre
  have hown : s.vm.findClass y.cls = some m.cls := findClass_of_methodNamed B.named
  rw [hy.2.1] at hown
  subst hsz
  have hD := hD0.self (sz := s.heap.size)
  have hA : ∀ q : Nat, s.heap.size ≤ q → m_A ad σ s.heap.size q := fun q h => Or.inr h
  rw [lg_entry_eq]
  exact body (post := post) ⟨B.exec, B.bytes, hml, hown, fun w h => hts w (List.mem_cons_of_mem _ h), B.returns, B.notSynchronized⟩ ⟨hP, hD, va_S.rf, hK, hA⟩ hw (lv_entry As hy.2.2)
/-- what the tables say of a callee of this class: its words, its descriptor -/
def m_Sv (own : String) (index : Nat) (y : MethodName) (bytes : ByteArray) (maxL : Nat) (rt : Option FieldType) (n : Nat) : Prop := GoodIn lw_g (wsV own index RX1 y (.code y bytes maxL rt :: lw_g)) ∧ (y.cls = RX1 ∧ y.cls ≠ "java/lang/invoke/MethodHandle" ∧ y.cls ≠ "java/lang/invoke/VarHandle" ∧ (parseMethodDescriptor y.desc).map (fun d => d.parameters.length) = some n)
def m_Ss (index : Nat) (y : MethodName) (bytes : ByteArray) (maxL : Nat) (rt : Option FieldType) (n : Nat) : Prop := GoodIn lw_g (wsS RX1 index y (.code y bytes maxL rt :: lw_g)) ∧ (y.cls = RX1 ∧ y.cls ≠ "java/lang/invoke/MethodHandle" ∧ y.cls ≠ "java/lang/invoke/VarHandle" ∧ (parseMethodDescriptor y.desc).map (fun d => d.parameters.length) = some n)
section mK
variable {p : Program} {l : Launch} {e : Env} {R : Room} {s : State} {m : MethodId} {args : Array Value} {below : List Frame} {meth : Method} {c : Code} {H : Heap} {locs : List Loc} {cells slots : Nat} {Q : State → Prop} {cc : ByteArray} {nL : Nat} {ret : Option FieldType} {D : va_G} {ad : MA} {σ : MS} {A : Nat → Prop} {pc : Nat} {ls : Array Slot} {rest : List Value}
theorem m_l_lim : Cond.fieldLink RX1 30 "VictimHeapModel" "limit" "I" ∈ lw_g := gm 279 rfl rfl
theorem m_l_en : Cond.fieldLink RX1 40 "VictimHeapModel" "end" "I" ∈ lw_g := gm 280 rfl rfl
theorem m_l_un : Cond.fieldLink RX1 7 "VictimHeapModel" "unit" "[I" ∈ lw_g := gm 281 rfl rfl
theorem m_l_ch : Cond.fieldLink RX1 33 "VictimHeapModel" "chunks" "I" ∈ lw_g := gm 282 rfl rfl
theorem m_l_fi : Cond.fieldLink RX1 13 "VictimHeapModel" "first" "[I" ∈ lw_g := gm 283 rfl rfl
theorem m_l_sz : Cond.fieldLink RX1 16 "VictimHeapModel" "size" "[I" ∈ lw_g := gm 284 rfl rfl
theorem m_l_us : Cond.fieldLink RX1 19 "VictimHeapModel" "used" "[Z" ∈ lw_g := gm 285 rfl rfl
theorem m_l_ca : Cond.fieldLink RX1 23 "VictimHeapModel" "came" "[I" ∈ lw_g := gm 286 rfl rfl
theorem m_l_cl : Cond.fieldLink RX1 43 "VictimHeapModel" "clock" "I" ∈ lw_g := gm 287 rfl rfl
theorem m_l_vi : Cond.fieldLink RX1 26 "VictimHeapModel" "victim" "I" ∈ lw_g := gm 288 rfl rfl
theorem m_get_lim (C : m_C p s m args meth c cc nL ret) (Wd : m_W D ad σ A s H locs) (hdg : decode cc pc = .ok (.getfield 30, 3)) (kk : W p l e R s m args below meth c H locs cells slots Q (F0 m (pc + 3) ls (.int (m_lim ad) :: rest))) : W p l e R s m args below meth c H locs cells slots Q (F0 m pc ls (.ref (m_h ad) :: rest)) :=
  va_get (D := D) (ci := 1) (v := .int (m_lim ad)) (C := RX1) (T := TX1) (N := 10) C.1 C.2.1 C.2.2.2.2.1 m_in C.2.2.2.1 Wd.2.2.2.1 Wd.1 0 rfl rfl 0 (by decide) (C.2.2.2.2.1 _ m_l_lim) (fun _ h9 => h9) rfl hdg kk
theorem m_get_en (C : m_C p s m args meth c cc nL ret) (Wd : m_W D ad σ A s H locs) (hdg : decode cc pc = .ok (.getfield 40, 3)) (kk : W p l e R s m args below meth c H locs cells slots Q (F0 m (pc + 3) ls (.int (m_en σ) :: rest))) : W p l e R s m args below meth c H locs cells slots Q (F0 m pc ls (.ref (m_h ad) :: rest)) :=
  va_get (D := D) (ci := 1) (v := .int (m_en σ)) (C := RX1) (T := TX1) (N := 10) C.1 C.2.1 C.2.2.2.2.1 m_in C.2.2.2.1 Wd.2.2.2.1 Wd.1 0 rfl rfl 1 (by decide) (C.2.2.2.2.1 _ m_l_en) (fun _ h9 => h9) rfl hdg kk
theorem m_put_en (C : m_C p s m args meth c cc nL ret) (Wd : m_W D ad σ A s H locs) {v : Int32} (hdg : decode cc pc = .ok (.putfield 40, 3)) (kk : ∀ (H : Heap) (locs : List Loc), m_W D ad (m_sen σ v) A s H locs → W p l e R s m args below meth c H locs cells slots Q (F0 m (pc + 3) ls rest)) : W p l e R s m args below meth c H locs cells slots Q (F0 m pc ls (.int v :: .ref (m_h ad) :: rest)) :=
  va_put (D := D) (ci := 1) (v := .int v) (ty := .int) (C := RX1) (T := TX1) (N := 10) C.1 C.2.1 C.2.2.2.2.1 m_in tyX1 tyX1_ok nmX1 C.2.2.2.1 Wd.2.2.2.1 Wd.1 Wd.2.1 Wd.2.2.1 0 rfl rfl 1 (by decide) (C.2.2.2.2.1 _ m_l_en) (fun _ h9 => h9) rfl (by decide +kernel) rfl rfl (Nat.le_of_ble_eq_true rfl) hdg (fun H locs hP hD hS => kk H locs ⟨hP, hD, hS, Wd.2.2.2.1, Wd.2.2.2.2⟩)
theorem m_get_un (C : m_C p s m args meth c cc nL ret) (Wd : m_W D ad σ A s H locs) (hdg : decode cc pc = .ok (.getfield 7, 3)) (kk : W p l e R s m args below meth c H locs cells slots Q (F0 m (pc + 3) ls (.ref (m_aun ad) :: rest))) : W p l e R s m args below meth c H locs cells slots Q (F0 m pc ls (.ref (m_h ad) :: rest)) :=
  va_get (D := D) (ci := 1) (v := .ref (m_aun ad)) (C := RX1) (T := TX1) (N := 10) C.1 C.2.1 C.2.2.2.2.1 m_in C.2.2.2.1 Wd.2.2.2.1 Wd.1 0 rfl rfl 2 (by decide) (C.2.2.2.2.1 _ m_l_un) (fun _ h9 => h9) rfl hdg kk
theorem m_get_ch (C : m_C p s m args meth c cc nL ret) (Wd : m_W D ad σ A s H locs) (hdg : decode cc pc = .ok (.getfield 33, 3)) (kk : W p l e R s m args below meth c H locs cells slots Q (F0 m (pc + 3) ls (.int (m_ch σ) :: rest))) : W p l e R s m args below meth c H locs cells slots Q (F0 m pc ls (.ref (m_h ad) :: rest)) :=
  va_get (D := D) (ci := 1) (v := .int (m_ch σ)) (C := RX1) (T := TX1) (N := 10) C.1 C.2.1 C.2.2.2.2.1 m_in C.2.2.2.1 Wd.2.2.2.1 Wd.1 0 rfl rfl 3 (by decide) (C.2.2.2.2.1 _ m_l_ch) (fun _ h9 => h9) rfl hdg kk
theorem m_put_ch (C : m_C p s m args meth c cc nL ret) (Wd : m_W D ad σ A s H locs) {v : Int32} (hdg : decode cc pc = .ok (.putfield 33, 3)) (kk : ∀ (H : Heap) (locs : List Loc), m_W D ad (m_sch σ v) A s H locs → W p l e R s m args below meth c H locs cells slots Q (F0 m (pc + 3) ls rest)) : W p l e R s m args below meth c H locs cells slots Q (F0 m pc ls (.int v :: .ref (m_h ad) :: rest)) :=
  va_put (D := D) (ci := 1) (v := .int v) (ty := .int) (C := RX1) (T := TX1) (N := 10) C.1 C.2.1 C.2.2.2.2.1 m_in tyX1 tyX1_ok nmX1 C.2.2.2.1 Wd.2.2.2.1 Wd.1 Wd.2.1 Wd.2.2.1 0 rfl rfl 3 (by decide) (C.2.2.2.2.1 _ m_l_ch) (fun _ h9 => h9) rfl (by decide +kernel) rfl rfl (Nat.le_of_ble_eq_true rfl) hdg (fun H locs hP hD hS => kk H locs ⟨hP, hD, hS, Wd.2.2.2.1, Wd.2.2.2.2⟩)
theorem m_get_fi (C : m_C p s m args meth c cc nL ret) (Wd : m_W D ad σ A s H locs) (hdg : decode cc pc = .ok (.getfield 13, 3)) (kk : W p l e R s m args below meth c H locs cells slots Q (F0 m (pc + 3) ls (.ref (m_afi ad) :: rest))) : W p l e R s m args below meth c H locs cells slots Q (F0 m pc ls (.ref (m_h ad) :: rest)) :=
  va_get (D := D) (ci := 1) (v := .ref (m_afi ad)) (C := RX1) (T := TX1) (N := 10) C.1 C.2.1 C.2.2.2.2.1 m_in C.2.2.2.1 Wd.2.2.2.1 Wd.1 0 rfl rfl 4 (by decide) (C.2.2.2.2.1 _ m_l_fi) (fun _ h9 => h9) rfl hdg kk
theorem m_get_sz (C : m_C p s m args meth c cc nL ret) (Wd : m_W D ad σ A s H locs) (hdg : decode cc pc = .ok (.getfield 16, 3)) (kk : W p l e R s m args below meth c H locs cells slots Q (F0 m (pc + 3) ls (.ref (m_asz ad) :: rest))) : W p l e R s m args below meth c H locs cells slots Q (F0 m pc ls (.ref (m_h ad) :: rest)) :=
  va_get (D := D) (ci := 1) (v := .ref (m_asz ad)) (C := RX1) (T := TX1) (N := 10) C.1 C.2.1 C.2.2.2.2.1 m_in C.2.2.2.1 Wd.2.2.2.1 Wd.1 0 rfl rfl 5 (by decide) (C.2.2.2.2.1 _ m_l_sz) (fun _ h9 => h9) rfl hdg kk
theorem m_get_us (C : m_C p s m args meth c cc nL ret) (Wd : m_W D ad σ A s H locs) (hdg : decode cc pc = .ok (.getfield 19, 3)) (kk : W p l e R s m args below meth c H locs cells slots Q (F0 m (pc + 3) ls (.ref (m_aus ad) :: rest))) : W p l e R s m args below meth c H locs cells slots Q (F0 m pc ls (.ref (m_h ad) :: rest)) :=
  va_get (D := D) (ci := 1) (v := .ref (m_aus ad)) (C := RX1) (T := TX1) (N := 10) C.1 C.2.1 C.2.2.2.2.1 m_in C.2.2.2.1 Wd.2.2.2.1 Wd.1 0 rfl rfl 6 (by decide) (C.2.2.2.2.1 _ m_l_us) (fun _ h9 => h9) rfl hdg kk
theorem m_get_ca (C : m_C p s m args meth c cc nL ret) (Wd : m_W D ad σ A s H locs) (hdg : decode cc pc = .ok (.getfield 23, 3)) (kk : W p l e R s m args below meth c H locs cells slots Q (F0 m (pc + 3) ls (.ref (m_aca ad) :: rest))) : W p l e R s m args below meth c H locs cells slots Q (F0 m pc ls (.ref (m_h ad) :: rest)) :=
  va_get (D := D) (ci := 1) (v := .ref (m_aca ad)) (C := RX1) (T := TX1) (N := 10) C.1 C.2.1 C.2.2.2.2.1 m_in C.2.2.2.1 Wd.2.2.2.1 Wd.1 0 rfl rfl 7 (by decide) (C.2.2.2.2.1 _ m_l_ca) (fun _ h9 => h9) rfl hdg kk
theorem m_get_cl (C : m_C p s m args meth c cc nL ret) (Wd : m_W D ad σ A s H locs) (hdg : decode cc pc = .ok (.getfield 43, 3)) (kk : W p l e R s m args below meth c H locs cells slots Q (F0 m (pc + 3) ls (.int (m_cl σ) :: rest))) : W p l e R s m args below meth c H locs cells slots Q (F0 m pc ls (.ref (m_h ad) :: rest)) :=
  va_get (D := D) (ci := 1) (v := .int (m_cl σ)) (C := RX1) (T := TX1) (N := 10) C.1 C.2.1 C.2.2.2.2.1 m_in C.2.2.2.1 Wd.2.2.2.1 Wd.1 0 rfl rfl 8 (by decide) (C.2.2.2.2.1 _ m_l_cl) (fun _ h9 => h9) rfl hdg kk
theorem m_put_cl (C : m_C p s m args meth c cc nL ret) (Wd : m_W D ad σ A s H locs) {v : Int32} (hdg : decode cc pc = .ok (.putfield 43, 3)) (kk : ∀ (H : Heap) (locs : List Loc), m_W D ad (m_scl σ v) A s H locs → W p l e R s m args below meth c H locs cells slots Q (F0 m (pc + 3) ls rest)) : W p l e R s m args below meth c H locs cells slots Q (F0 m pc ls (.int v :: .ref (m_h ad) :: rest)) :=
  va_put (D := D) (ci := 1) (v := .int v) (ty := .int) (C := RX1) (T := TX1) (N := 10) C.1 C.2.1 C.2.2.2.2.1 m_in tyX1 tyX1_ok nmX1 C.2.2.2.1 Wd.2.2.2.1 Wd.1 Wd.2.1 Wd.2.2.1 0 rfl rfl 8 (by decide) (C.2.2.2.2.1 _ m_l_cl) (fun _ h9 => h9) rfl (by decide +kernel) rfl rfl (Nat.le_of_ble_eq_true rfl) hdg (fun H locs hP hD hS => kk H locs ⟨hP, hD, hS, Wd.2.2.2.1, Wd.2.2.2.2⟩)
theorem m_get_vi (C : m_C p s m args meth c cc nL ret) (Wd : m_W D ad σ A s H locs) (hdg : decode cc pc = .ok (.getfield 26, 3)) (kk : W p l e R s m args below meth c H locs cells slots Q (F0 m (pc + 3) ls (.int (m_vi σ) :: rest))) : W p l e R s m args below meth c H locs cells slots Q (F0 m pc ls (.ref (m_h ad) :: rest)) :=
  va_get (D := D) (ci := 1) (v := .int (m_vi σ)) (C := RX1) (T := TX1) (N := 10) C.1 C.2.1 C.2.2.2.2.1 m_in C.2.2.2.1 Wd.2.2.2.1 Wd.1 0 rfl rfl 9 (by decide) (C.2.2.2.2.1 _ m_l_vi) (fun _ h9 => h9) rfl hdg kk
theorem m_put_vi (C : m_C p s m args meth c cc nL ret) (Wd : m_W D ad σ A s H locs) {v : Int32} (hdg : decode cc pc = .ok (.putfield 26, 3)) (kk : ∀ (H : Heap) (locs : List Loc), m_W D ad (m_svi σ v) A s H locs → W p l e R s m args below meth c H locs cells slots Q (F0 m (pc + 3) ls rest)) : W p l e R s m args below meth c H locs cells slots Q (F0 m pc ls (.int v :: .ref (m_h ad) :: rest)) :=
  va_put (D := D) (ci := 1) (v := .int v) (ty := .int) (C := RX1) (T := TX1) (N := 10) C.1 C.2.1 C.2.2.2.2.1 m_in tyX1 tyX1_ok nmX1 C.2.2.2.1 Wd.2.2.2.1 Wd.1 Wd.2.1 Wd.2.2.1 0 rfl rfl 9 (by decide) (C.2.2.2.2.1 _ m_l_vi) (fun _ h9 => h9) rfl (by decide +kernel) rfl rfl (Nat.le_of_ble_eq_true rfl) hdg (fun H locs hP hD hS => kk H locs ⟨hP, hD, hS, Wd.2.2.2.1, Wd.2.2.2.2⟩)
theorem m_ald_un (C : m_C p s m args meth c cc nL ret) (Wd : m_W D ad σ A s H locs) {i : Int32} (hin : vp_in i 512) (hdg : decode cc pc = .ok (.iaload, 1)) (kk : W p l e R s m args below meth c H locs cells slots Q (F0 m (pc + 1) ls (.int (m_un σ i.toNatClampNeg) :: rest))) : W p l e R s m args below meth c H locs cells slots Q (F0 m pc ls (.int i :: .ref (m_aun ad) :: rest)) :=
  va_iald C.1 C.2.1 Wd.2.2.2.1 Wd.1 1 0 rfl rfl hin hdg kk
theorem m_ast_un (C : m_C p s m args meth c cc nL ret) (Wd : m_W D ad σ A s H locs) {i x : Int32} (hin : vp_in i 512) (hdg : decode cc pc = .ok (.iastore, 1)) (kk : ∀ (H : Heap) (locs : List Loc), m_W D ad (m_sun σ (upd (m_un σ) i.toNatClampNeg x)) A s H locs → W p l e R s m args below meth c H locs cells slots Q (F0 m (pc + 1) ls rest)) : W p l e R s m args below meth c H locs cells slots Q (F0 m pc ls (.int x :: .int i :: .ref (m_aun ad) :: rest)) :=
  va_iast C.1 C.2.1 Wd.2.2.2.1 Wd.1 Wd.2.1 Wd.2.2.1 1 0 rfl rfl hin hdg (fun H locs hP hD hS => kk H locs ⟨hP, hD, hS, Wd.2.2.2.1, Wd.2.2.2.2⟩)
theorem m_ald_fi (C : m_C p s m args meth c cc nL ret) (Wd : m_W D ad σ A s H locs) {i : Int32} (hin : vp_in i 258) (hdg : decode cc pc = .ok (.iaload, 1)) (kk : W p l e R s m args below meth c H locs cells slots Q (F0 m (pc + 1) ls (.int (m_fi σ i.toNatClampNeg) :: rest))) : W p l e R s m args below meth c H locs cells slots Q (F0 m pc ls (.int i :: .ref (m_afi ad) :: rest)) :=
  va_iald C.1 C.2.1 Wd.2.2.2.1 Wd.1 2 0 rfl rfl hin hdg kk
theorem m_ast_fi (C : m_C p s m args meth c cc nL ret) (Wd : m_W D ad σ A s H locs) {i x : Int32} (hin : vp_in i 258) (hdg : decode cc pc = .ok (.iastore, 1)) (kk : ∀ (H : Heap) (locs : List Loc), m_W D ad (m_sfi σ (upd (m_fi σ) i.toNatClampNeg x)) A s H locs → W p l e R s m args below meth c H locs cells slots Q (F0 m (pc + 1) ls rest)) : W p l e R s m args below meth c H locs cells slots Q (F0 m pc ls (.int x :: .int i :: .ref (m_afi ad) :: rest)) :=
  va_iast C.1 C.2.1 Wd.2.2.2.1 Wd.1 Wd.2.1 Wd.2.2.1 2 0 rfl rfl hin hdg (fun H locs hP hD hS => kk H locs ⟨hP, hD, hS, Wd.2.2.2.1, Wd.2.2.2.2⟩)
theorem m_ald_sz (C : m_C p s m args meth c cc nL ret) (Wd : m_W D ad σ A s H locs) {i : Int32} (hin : vp_in i 258) (hdg : decode cc pc = .ok (.iaload, 1)) (kk : W p l e R s m args below meth c H locs cells slots Q (F0 m (pc + 1) ls (.int (m_sz σ i.toNatClampNeg) :: rest))) : W p l e R s m args below meth c H locs cells slots Q (F0 m pc ls (.int i :: .ref (m_asz ad) :: rest)) :=
  va_iald C.1 C.2.1 Wd.2.2.2.1 Wd.1 3 0 rfl rfl hin hdg kk
theorem m_ast_sz (C : m_C p s m args meth c cc nL ret) (Wd : m_W D ad σ A s H locs) {i x : Int32} (hin : vp_in i 258) (hdg : decode cc pc = .ok (.iastore, 1)) (kk : ∀ (H : Heap) (locs : List Loc), m_W D ad (m_ssz σ (upd (m_sz σ) i.toNatClampNeg x)) A s H locs → W p l e R s m args below meth c H locs cells slots Q (F0 m (pc + 1) ls rest)) : W p l e R s m args below meth c H locs cells slots Q (F0 m pc ls (.int x :: .int i :: .ref (m_asz ad) :: rest)) :=
  va_iast C.1 C.2.1 Wd.2.2.2.1 Wd.1 Wd.2.1 Wd.2.2.1 3 0 rfl rfl hin hdg (fun H locs hP hD hS => kk H locs ⟨hP, hD, hS, Wd.2.2.2.1, Wd.2.2.2.2⟩)
theorem m_ald_us (C : m_C p s m args meth c cc nL ret) (Wd : m_W D ad σ A s H locs) {i : Int32} (hin : vp_in i 258) (hdg : decode cc pc = .ok (.baload, 1)) (kk : W p l e R s m args below meth c H locs cells slots Q (F0 m (pc + 1) ls (.int (m_us σ i.toNatClampNeg) :: rest))) : W p l e R s m args below meth c H locs cells slots Q (F0 m pc ls (.int i :: .ref (m_aus ad) :: rest)) :=
  va_zald C.1 C.2.1 Wd.2.2.2.1 Wd.1 4 1 rfl rfl hin hdg kk
theorem m_ast_us (C : m_C p s m args meth c cc nL ret) (Wd : m_W D ad σ A s H locs) {i x y : Int32} (hin : vp_in i 258) (hy : vp_nar .boolean x = y) (hdg : decode cc pc = .ok (.bastore, 1)) (kk : ∀ (H : Heap) (locs : List Loc), m_W D ad (m_sus σ (upd (m_us σ) i.toNatClampNeg y)) A s H locs → W p l e R s m args below meth c H locs cells slots Q (F0 m (pc + 1) ls rest)) : W p l e R s m args below meth c H locs cells slots Q (F0 m pc ls (.int x :: .int i :: .ref (m_aus ad) :: rest)) := by
  subst hy
  exact va_zast C.1 C.2.1 Wd.2.2.2.1 Wd.1 Wd.2.1 Wd.2.2.1 4 1 rfl rfl hin hdg (fun H locs hP hD hS => kk H locs ⟨hP, hD, hS, Wd.2.2.2.1, Wd.2.2.2.2⟩)
theorem m_ald_ca (C : m_C p s m args meth c cc nL ret) (Wd : m_W D ad σ A s H locs) {i : Int32} (hin : vp_in i 258) (hdg : decode cc pc = .ok (.iaload, 1)) (kk : W p l e R s m args below meth c H locs cells slots Q (F0 m (pc + 1) ls (.int (m_ca σ i.toNatClampNeg) :: rest))) : W p l e R s m args below meth c H locs cells slots Q (F0 m pc ls (.int i :: .ref (m_aca ad) :: rest)) :=
  va_iald C.1 C.2.1 Wd.2.2.2.1 Wd.1 5 0 rfl rfl hin hdg kk
theorem m_ast_ca (C : m_C p s m args meth c cc nL ret) (Wd : m_W D ad σ A s H locs) {i x : Int32} (hin : vp_in i 258) (hdg : decode cc pc = .ok (.iastore, 1)) (kk : ∀ (H : Heap) (locs : List Loc), m_W D ad (m_sca σ (upd (m_ca σ) i.toNatClampNeg x)) A s H locs → W p l e R s m args below meth c H locs cells slots Q (F0 m (pc + 1) ls rest)) : W p l e R s m args below meth c H locs cells slots Q (F0 m pc ls (.int x :: .int i :: .ref (m_aca ad) :: rest)) :=
  va_iast C.1 C.2.1 Wd.2.2.2.1 Wd.1 Wd.2.1 Wd.2.2.1 5 0 rfl rfl hin hdg (fun H locs hP hD hS => kk H locs ⟨hP, hD, hS, Wd.2.2.2.1, Wd.2.2.2.2⟩)
theorem m_iret {post : Int32 → MS → Prop} (C : m_C p s m args meth c cc nL (some .int)) (Wd : m_W D ad σ A s H locs) {v : Int32} (hf : post v σ) (hdg : decode cc pc = .ok (.ireturn, 1)) : W p l e R s m args below meth c H locs 0 0 (m_Qi below D ad A args s post) (F0 m pc ls [.int v]) :=
  W.iret (v := v) C.1 C.2.1 C.2.2.2.2.2.1 (fun t ht hW => ⟨⟨v, σ, rfl, hf, by rw [ht]; exact Wd.1, va_K.moved hW.alike Wd.2.2.2.1, Wd.2.1⟩, Wd.2.2.1.F ht⟩) Wd.2.2.1.2.2 hdg C.2.2.2.2.2.2
theorem m_zret {post : Int32 → MS → Prop} (C : m_C p s m args meth c cc nL (some .boolean)) (Wd : m_W D ad σ A s H locs) {v : Int32} (hz : v = 0 ∨ v = 1) (hf : post v σ) (hdg : decode cc pc = .ok (.ireturn, 1)) : W p l e R s m args below meth c H locs 0 0 (m_Qi below D ad A args s post) (F0 m pc ls [.int v]) :=
  W.zret (v := v) C.1 C.2.1 C.2.2.2.2.2.1 (by rcases hz with rfl | rfl <;> rfl) (fun t ht hW => ⟨⟨v, σ, rfl, hf, by rw [ht]; exact Wd.1, va_K.moved hW.alike Wd.2.2.2.1, Wd.2.1⟩, Wd.2.2.1.F ht⟩) Wd.2.2.1.2.2 hdg C.2.2.2.2.2.2
theorem m_vret {post : MS → Prop} (C : m_C p s m args meth c cc nL none) (Wd : m_W D ad σ A s H locs) (hf : post σ) (hdg : decode cc pc = .ok (.return_, 1)) : W p l e R s m args below meth c H locs 0 0 (m_Qv below D ad A args s post) (F0 m pc ls []) :=
  W.vret C.1 C.2.1 C.2.2.2.2.2.1 (fun t ht hW => ⟨⟨σ, rfl, hf, by rw [ht]; exact Wd.1, va_K.moved hW.alike Wd.2.2.2.1, Wd.2.1⟩, Wd.2.2.1.F ht⟩) Wd.2.2.1.2.2 hdg C.2.2.2.2.2.2
theorem m_calliv {y : MethodName} {bytes : ByteArray} {maxL n index : Nat} {rt : Option FieldType} {rm : Room} {As st : List Value} {wp : MS → (Int32 → MS → Prop) → Prop} {post : Int32 → MS → Prop} (C : m_C p s m args meth c cc nL ret) (Wd : m_W D ad σ A s H locs) (hM : m_Mi l D y bytes maxL rt rm ad (.ref (m_h ad) :: As) wp) (hS : m_Sv RX1 index y bytes maxL rt n) (hR : rm.cells = 0 ∧ rm.slots = 0 ∧ rm.frames + 1 ≤ R.frames ∧ 8 + (maxL + 11) + rm.locals ≤ R.locals) (hn : As.length = n) (hls : ls.size = nL) (hst : st = As.reverse ++ .ref (m_h ad) :: rest) (hsm : (rest.map fun v => v.category).sum ≤ 8) (hcs : cells ≤ R.cells ∧ slots ≤ R.slots) (hdg : decode cc pc = .ok (.invokevirtual index, 3)) (hw : wp σ post) (kk : ∀ (r : Int32) (σ : MS) (H : Heap) (locs : List Loc), post r σ → m_W D ad σ A s H locs → W p l e R s m args below meth c H locs cells slots Q (F0 m (pc + 3) ls (.int r :: rest))) : W p l e R s m args below meth c H locs cells slots Q (F0 m pc ls st) := by
  obtain ⟨hP, hD, hS0, hK, hA⟩ := Wd
  subst hst
  have hFc := va_free (wc := m_w ad σ) hD hS0 hA [0, 1, 2, 3, 4, 5] rfl
  have hc0 : cells + 0 ≤ R.cells ∧ slots + 0 ≤ R.slots := hcs
  refine va_calli (va_runV (As := As) (rest := rest) (b := m_h ad) ⟨C.1, C.2.1, C.2.2.1, C.2.2.2.1, C.2.2.2.2.1⟩ (hM σ H.size post hw) (cwV n C.2.2.2.2.1 hS.1 rfl hR.1 hR.2.1 hS.2 hR.2.2) ⟨fun a U g mk q => by obtain ⟨q0, q1, qP, qK, qD⟩ := q; exact ⟨q0, q1, qP, va_K.moved (u := U) (U := U.calling g mk a) (Vm.Alike.refl U.vm) qK, qD⟩, va_recv hK hP (ci := 1) (q0 := 0) rfl rfl, fun U hU hW => ⟨rfl, by rw [hU], by rw [hU]; exact hP, va_K.moved hW.alike hK, hD.weaken (fun _ _ _ _ => trivial)⟩⟩ rfl hn hls rfl (lv_room hsm) hdg hc0) hS0 (fun q _ h => hFc q h) hFc (fun r u t H1 locs ht hvm hw hB hz1 hk1 hS => ?_)
  obtain ⟨hP1, hK1, hD1⟩ := hB
  rw [ht] at hP1
  exact kk r u H1 locs hw ⟨hP1, hD1.weaken (fun k q _ h => hFc q.1 h), hS, hK, hA⟩
theorem m_callis {y : MethodName} {bytes : ByteArray} {maxL n index : Nat} {rt : Option FieldType} {rm : Room} {As st : List Value} {wp : MS → (Int32 → MS → Prop) → Prop} {post : Int32 → MS → Prop} (C : m_C p s m args meth c cc nL ret) (Wd : m_W D ad σ A s H locs) (hM : m_Mi l D y bytes maxL rt rm ad As wp) (hS : m_Ss index y bytes maxL rt n) (hR : rm.cells = 0 ∧ rm.slots = 0 ∧ rm.frames + 1 ≤ R.frames ∧ 8 + (maxL + 11) + rm.locals ≤ R.locals) (hn : As.length = n) (hls : ls.size = nL) (hst : st = As.reverse ++ rest) (hsm : (rest.map fun v => v.category).sum ≤ 8) (hcs : cells ≤ R.cells ∧ slots ≤ R.slots) (hdg : decode cc pc = .ok (.invokestatic index, 3)) (hw : wp σ post) (kk : ∀ (r : Int32) (σ : MS) (H : Heap) (locs : List Loc), post r σ → m_W D ad σ A s H locs → W p l e R s m args below meth c H locs cells slots Q (F0 m (pc + 3) ls (.int r :: rest))) : W p l e R s m args below meth c H locs cells slots Q (F0 m pc ls st) := by
  obtain ⟨hP, hD, hS0, hK, hA⟩ := Wd
  subst hst
  have hFc := va_free (wc := m_w ad σ) hD hS0 hA [0, 1, 2, 3, 4, 5] rfl
  have hc0 : cells + 0 ≤ R.cells ∧ slots + 0 ≤ R.slots := hcs
  refine va_calli (va_runS (As := As) (rest := rest) ⟨C.1, C.2.1, C.2.2.1, C.2.2.2.1, C.2.2.2.2.1⟩ (hM σ H.size post hw) (cwS n C.2.2.2.2.1 hS.1 rfl hR.1 hR.2.1 hS.2 hR.2.2) ⟨fun a U g mk q => by obtain ⟨q0, q1, qP, qK, qD⟩ := q; exact ⟨q0, q1, qP, va_K.moved (u := U) (U := U.calling g mk a) (Vm.Alike.refl U.vm) qK, qD⟩, fun U hU hW => ⟨rfl, by rw [hU], by rw [hU]; exact hP, va_K.moved hW.alike hK, hD.weaken (fun _ _ _ _ => trivial)⟩⟩ rfl hn hls rfl (lv_room hsm) hdg hc0) hS0 (fun q _ h => hFc q h) hFc (fun r u t H1 locs ht hvm hw hB hz1 hk1 hS => ?_)
  obtain ⟨hP1, hK1, hD1⟩ := hB
  rw [ht] at hP1
  exact kk r u H1 locs hw ⟨hP1, hD1.weaken (fun k q _ h => hFc q.1 h), hS, hK, hA⟩
theorem m_callvv {y : MethodName} {bytes : ByteArray} {maxL n index : Nat} {rt : Option FieldType} {rm : Room} {As st : List Value} {wp : MS → (MS → Prop) → Prop} {post : MS → Prop} (C : m_C p s m args meth c cc nL ret) (Wd : m_W D ad σ A s H locs) (hM : m_Mv l D y bytes maxL rt rm ad (.ref (m_h ad) :: As) wp) (hS : m_Sv RX1 index y bytes maxL rt n) (hR : rm.cells = 0 ∧ rm.slots = 0 ∧ rm.frames + 1 ≤ R.frames ∧ 8 + (maxL + 11) + rm.locals ≤ R.locals) (hn : As.length = n) (hls : ls.size = nL) (hst : st = As.reverse ++ .ref (m_h ad) :: rest) (hsm : (rest.map fun v => v.category).sum ≤ 8) (hcs : cells ≤ R.cells ∧ slots ≤ R.slots) (hdg : decode cc pc = .ok (.invokevirtual index, 3)) (hw : wp σ post) (kk : ∀ (σ : MS) (H : Heap) (locs : List Loc), post σ → m_W D ad σ A s H locs → W p l e R s m args below meth c H locs cells slots Q (F0 m (pc + 3) ls (rest))) : W p l e R s m args below meth c H locs cells slots Q (F0 m pc ls st) := by
  obtain ⟨hP, hD, hS0, hK, hA⟩ := Wd
  subst hst
  have hFc := va_free (wc := m_w ad σ) hD hS0 hA [0, 1, 2, 3, 4, 5] rfl
  have hc0 : cells + 0 ≤ R.cells ∧ slots + 0 ≤ R.slots := hcs
  refine va_callv (va_runV (As := As) (rest := rest) (b := m_h ad) ⟨C.1, C.2.1, C.2.2.1, C.2.2.2.1, C.2.2.2.2.1⟩ (hM σ H.size post hw) (cwV n C.2.2.2.2.1 hS.1 rfl hR.1 hR.2.1 hS.2 hR.2.2) ⟨fun a U g mk q => by obtain ⟨q0, q1, qP, qK, qD⟩ := q; exact ⟨q0, q1, qP, va_K.moved (u := U) (U := U.calling g mk a) (Vm.Alike.refl U.vm) qK, qD⟩, va_recv hK hP (ci := 1) (q0 := 0) rfl rfl, fun U hU hW => ⟨rfl, by rw [hU], by rw [hU]; exact hP, va_K.moved hW.alike hK, hD.weaken (fun _ _ _ _ => trivial)⟩⟩ rfl hn hls rfl (lv_room hsm) hdg hc0) hS0 (fun q _ h => hFc q h) hFc (fun u t H1 locs ht hvm hw hB hz1 hk1 hS => ?_)
  obtain ⟨hP1, hK1, hD1⟩ := hB
  rw [ht] at hP1
  exact kk u H1 locs hw ⟨hP1, hD1.weaken (fun k q _ h => hFc q.1 h), hS, hK, hA⟩
theorem m_callvs {y : MethodName} {bytes : ByteArray} {maxL n index : Nat} {rt : Option FieldType} {rm : Room} {As st : List Value} {wp : MS → (MS → Prop) → Prop} {post : MS → Prop} (C : m_C p s m args meth c cc nL ret) (Wd : m_W D ad σ A s H locs) (hM : m_Mv l D y bytes maxL rt rm ad As wp) (hS : m_Ss index y bytes maxL rt n) (hR : rm.cells = 0 ∧ rm.slots = 0 ∧ rm.frames + 1 ≤ R.frames ∧ 8 + (maxL + 11) + rm.locals ≤ R.locals) (hn : As.length = n) (hls : ls.size = nL) (hst : st = As.reverse ++ rest) (hsm : (rest.map fun v => v.category).sum ≤ 8) (hcs : cells ≤ R.cells ∧ slots ≤ R.slots) (hdg : decode cc pc = .ok (.invokestatic index, 3)) (hw : wp σ post) (kk : ∀ (σ : MS) (H : Heap) (locs : List Loc), post σ → m_W D ad σ A s H locs → W p l e R s m args below meth c H locs cells slots Q (F0 m (pc + 3) ls (rest))) : W p l e R s m args below meth c H locs cells slots Q (F0 m pc ls st) := by
  obtain ⟨hP, hD, hS0, hK, hA⟩ := Wd
  subst hst
  have hFc := va_free (wc := m_w ad σ) hD hS0 hA [0, 1, 2, 3, 4, 5] rfl
  have hc0 : cells + 0 ≤ R.cells ∧ slots + 0 ≤ R.slots := hcs
  refine va_callv (va_runS (As := As) (rest := rest) ⟨C.1, C.2.1, C.2.2.1, C.2.2.2.1, C.2.2.2.2.1⟩ (hM σ H.size post hw) (cwS n C.2.2.2.2.1 hS.1 rfl hR.1 hR.2.1 hS.2 hR.2.2) ⟨fun a U g mk q => by obtain ⟨q0, q1, qP, qK, qD⟩ := q; exact ⟨q0, q1, qP, va_K.moved (u := U) (U := U.calling g mk a) (Vm.Alike.refl U.vm) qK, qD⟩, fun U hU hW => ⟨rfl, by rw [hU], by rw [hU]; exact hP, va_K.moved hW.alike hK, hD.weaken (fun _ _ _ _ => trivial)⟩⟩ rfl hn hls rfl (lv_room hsm) hdg hc0) hS0 (fun q _ h => hFc q h) hFc (fun u t H1 locs ht hvm hw hB hz1 hk1 hS => ?_)
  obtain ⟨hP1, hK1, hD1⟩ := hB
  rw [ht] at hP1
  exact kk u H1 locs hw ⟨hP1, hD1.weaken (fun k q _ h => hFc q.1 h), hS, hK, hA⟩
end mK


theorem sM_at : m_Sv RX1 36 yX1_at cX1_at 3 (some .int) 1 := ⟨gw_v (gm 335 rfl rfl) (gm 337 rfl rfl) (gm 29 rfl rfl) (gm 47 rfl rfl) (gm 338 rfl rfl), by decide +kernel⟩
theorem sM_part : m_Sv RX1 46 yX1_part cX1_part 4 none 2 := ⟨gw_v (gm 343 rfl rfl) (gm 345 rfl rfl) (gm 31 rfl rfl) (gm 47 rfl rfl) (gm 346 rfl rfl), by decide +kernel⟩
theorem sM_stateOf : m_Sv RX1 50 yX1_stateOf cX1_stateOf 2 (some .int) 1 := ⟨gw_v (gm 327 rfl rfl) (gm 329 rfl rfl) (gm 27 rfl rfl) (gm 47 rfl rfl) (gm 330 rfl rfl), by decide +kernel⟩
theorem sM_cut : m_Sv RX1 53 yX1_cut cX1_cut 3 (some .boolean) 2 := ⟨gw_v (gm 339 rfl rfl) (gm 341 rfl rfl) (gm 30 rfl rfl) (gm 47 rfl rfl) (gm 342 rfl rfl), by decide +kernel⟩
theorem sM_best : m_Sv RX1 57 yX1_best cX1_best 7 (some .int) 2 := ⟨gw_v (gm 323 rfl rfl) (gm 325 rfl rfl) (gm 26 rfl rfl) (gm 47 rfl rfl) (gm 326 rfl rfl), by decide +kernel⟩
theorem sM_fromVictim : m_Sv RX1 61 yX1_fromVictim cX1_fromVictim 3 (some .int) 1 := ⟨gw_v (gm 331 rfl rfl) (gm 333 rfl rfl) (gm 28 rfl rfl) (gm 47 rfl rfl) (gm 334 rfl rfl), by decide +kernel⟩
theorem sM_store : m_Sv RX1 64 yX1_store cX1_store 2 none 1 := ⟨gw_v (gm 347 rfl rfl) (gm 349 rfl rfl) (gm 32 rfl rfl) (gm 47 rfl rfl) (gm 350 rfl rfl), by decide +kernel⟩
theorem sM_top : m_Sv RX1 68 yX1_top cX1_top 1 (some .int) 0 := ⟨gw_v (gm 355 rfl rfl) (gm 357 rfl rfl) (gm 34 rfl rfl) (gm 47 rfl rfl) (gm 358 rfl rfl), by decide +kernel⟩
theorem sM_takeSmall : m_Sv RX1 72 yX1_takeSmall cX1_takeSmall 4 (some .int) 1 := ⟨gw_v (gm 319 rfl rfl) (gm 321 rfl rfl) (gm 25 rfl rfl) (gm 47 rfl rfl) (gm 322 rfl rfl), by decide +kernel⟩
theorem sM_takeLarge : m_Sv RX1 75 yX1_takeLarge cX1_takeLarge 4 (some .int) 1 := ⟨gw_v (gm 351 rfl rfl) (gm 353 rfl rfl) (gm 33 rfl rfl) (gm 47 rfl rfl) (gm 354 rfl rfl), by decide +kernel⟩
theorem sM_grow : m_Sv RX1 78 yX1_grow cX1_grow 5 (some .boolean) 1 := ⟨gw_v (gm 359 rfl rfl) (gm 361 rfl rfl) (gm 35 rfl rfl) (gm 47 rfl rfl) (gm 362 rfl rfl), by decide +kernel⟩
theorem sM_join : m_Sv RX1 82 yX1_join cX1_join 3 none 1 := ⟨gw_v (gm 380 rfl rfl) (gm 382 rfl rfl) (gm 38 rfl rfl) (gm 47 rfl rfl) (gm 383 rfl rfl), by decide +kernel⟩
theorem sM_take : m_Sv RX1 85 yX1_take cX1_take 6 (some .int) 1 := ⟨gw_v (gm 315 rfl rfl) (gm 317 rfl rfl) (gm 24 rfl rfl) (gm 47 rfl rfl) (gm 318 rfl rfl), by decide +kernel⟩
theorem sM_malloc : m_Sv RX1 88 yX1_malloc cX1_malloc 3 (some .int) 1 := ⟨gw_v (gm 367 rfl rfl) (gm 312 rfl rfl) (gm 313 rfl rfl) (gm 47 rfl rfl) (gm 314 rfl rfl), by decide +kernel⟩
theorem sM_holder : m_Sv RX1 91 yX1_holder cX1_holder 3 (some .int) 1 := ⟨gw_v (gm 368 rfl rfl) (gm 370 rfl rfl) (gm 36 rfl rfl) (gm 47 rfl rfl) (gm 371 rfl rfl), by decide +kernel⟩
theorem sM_give : m_Sv RX1 94 yX1_give cX1_give 4 none 1 := ⟨gw_v (gm 376 rfl rfl) (gm 378 rfl rfl) (gm 37 rfl rfl) (gm 47 rfl rfl) (gm 379 rfl rfl), by decide +kernel⟩
theorem sM_shorten : m_Sv RX1 97 yX1_shorten cX1_shorten 3 none 2 := ⟨gw_v (gm 388 rfl rfl) (gm 390 rfl rfl) (gm 39 rfl rfl) (gm 47 rfl rfl) (gm 391 rfl rfl), by decide +kernel⟩
theorem sM_lengthen : m_Sv RX1 100 yX1_lengthen cX1_lengthen 7 (some .boolean) 2 := ⟨gw_v (gm 392 rfl rfl) (gm 394 rfl rfl) (gm 40 rfl rfl) (gm 47 rfl rfl) (gm 395 rfl rfl), by decide +kernel⟩
theorem sM_moveTo : m_Sv RX1 103 yX1_moveTo cX1_moveTo 7 (some .int) 2 := ⟨gw_v (gm 396 rfl rfl) (gm 398 rfl rfl) (gm 41 rfl rfl) (gm 47 rfl rfl) (gm 399 rfl rfl), by decide +kernel⟩
theorem sM_usable : m_Sv RX1 106 yX1_usable cX1_usable 3 (some .int) 1 := ⟨gw_v (gm 420 rfl rfl) (gm 409 rfl rfl) (gm 410 rfl rfl) (gm 47 rfl rfl) (gm 411 rfl rfl), by decide +kernel⟩
theorem sM_isData : m_Sv RX1 109 yX1_isData cX1_isData 3 (some .boolean) 2 := ⟨gw_v (gm 416 rfl rfl) (gm 418 rfl rfl) (gm 42 rfl rfl) (gm 47 rfl rfl) (gm 419 rfl rfl), by decide +kernel⟩
end
section
def wM_at_2_s (lim : Int32) (post : Int32 → MS → Prop) (rc : MS → Int32 → Int32 → Prop) (σ : MS) (v1 : Int32) (v2 : Int32) : Prop := (((m_ch σ) ≤ v2 → post (-1) σ) ∧ (¬ (m_ch σ) ≤ v2 → (vp_in v2 258 ∧ ((¬ (m_fi σ v2.toNatClampNeg) = v1 → rc σ v1 (v2 + 1)) ∧ ((m_fi σ v2.toNatClampNeg) = v1 → post v2 σ)))))
def wM_at_2 (lim : Int32) (post : Int32 → MS → Prop) : Nat → MS → Int32 → Int32 → Prop
  | 0 => fun _ _ _  => False
  | f + 1 => wM_at_2_s lim post (wM_at_2 lim post f)
def wM_at (lim : Int32) (σ : MS) (v1 : Int32) (post : Int32 → MS → Prop) : Prop := (∃ f : Nat, wM_at_2 lim post f σ v1 0)
def wM_holder_16 (lim : Int32) (σ : MS) (k0 : Int32) (post : Int32 → MS → Prop) : Prop := ((k0 < 0 → post (-1) σ) ∧ (¬ k0 < 0 → (vp_in k0 258 ∧ (((m_us σ k0.toNatClampNeg) = 0 → post (-1) σ) ∧ (¬ (m_us σ k0.toNatClampNeg) = 0 → post k0 σ)))))
def wM_holder (lim : Int32) (σ : MS) (v1 : Int32) (post : Int32 → MS → Prop) : Prop := ((1 ≤ v1 → wM_at lim σ (v1 - 1) (fun r13 σ13 => wM_holder_16 lim σ13  r13 post)) ∧ (¬ 1 ≤ v1 → wM_holder_16 lim σ  (-1) post))
def wM_stateOf (lim : Int32) (σ : MS) (v1 : Int32) (post : Int32 → MS → Prop) : Prop := (vp_in v1 258 ∧ (((m_us σ v1.toNatClampNeg) = 0 → (vp_in v1 258 ∧ (vp_in v1 258 ∧ ((¬ ((m_fi σ v1.toNatClampNeg) + (m_sz σ v1.toNatClampNeg)) = (m_en σ) → (vp_in v1 258 ∧ ((¬ (m_fi σ v1.toNatClampNeg) = (m_vi σ) → (vp_in v1 258 ∧ ((16 ≤ (m_sz σ v1.toNatClampNeg) → post 2 σ) ∧ (¬ 16 ≤ (m_sz σ v1.toNatClampNeg) → post 1 σ)))) ∧ ((m_fi σ v1.toNatClampNeg) = (m_vi σ) → post 3 σ)))) ∧ (((m_fi σ v1.toNatClampNeg) + (m_sz σ v1.toNatClampNeg)) = (m_en σ) → post 4 σ))))) ∧ (¬ (m_us σ v1.toNatClampNeg) = 0 → post 0 σ)))
def wM_top (lim : Int32) (σ : MS) (post : Int32 → MS → Prop) : Prop := (((m_ch σ) ≤ 0 → post (-1) σ) ∧ (¬ (m_ch σ) ≤ 0 → (vp_in ((m_ch σ) - 1) 258 ∧ ((¬ (m_us σ ((m_ch σ) - 1).toNatClampNeg) = 0 → post (-1) σ) ∧ ((m_us σ ((m_ch σ) - 1).toNatClampNeg) = 0 → post ((m_ch σ) - 1) σ)))))
def wM_part_74 (lim : Int32) (σ : MS) (v1 : Int32) (v2 : Int32) (post : MS → Prop) : Prop := (vp_in v1 258 ∧ (vp_in (v1 + 1) 258 ∧ (vp_in v1 258 ∧ (vp_in (v1 + 1) 258 ∧ (vp_in (v1 + 1) 258 ∧ (vp_in (v1 + 1) 258 ∧ (vp_in v1 258 ∧ post (m_ssz (m_sca (m_sus (m_ssz (m_sfi (m_sch σ ((m_ch σ) + 1)) (upd (m_fi (m_sch σ ((m_ch σ) + 1))) (v1 + 1).toNatClampNeg ((m_fi (m_sch σ ((m_ch σ) + 1)) v1.toNatClampNeg) + v2))) (upd (m_sz (m_sfi (m_sch σ ((m_ch σ) + 1)) (upd (m_fi (m_sch σ ((m_ch σ) + 1))) (v1 + 1).toNatClampNeg ((m_fi (m_sch σ ((m_ch σ) + 1)) v1.toNatClampNeg) + v2)))) (v1 + 1).toNatClampNeg ((m_sz (m_sfi (m_sch σ ((m_ch σ) + 1)) (upd (m_fi (m_sch σ ((m_ch σ) + 1))) (v1 + 1).toNatClampNeg ((m_fi (m_sch σ ((m_ch σ) + 1)) v1.toNatClampNeg) + v2))) v1.toNatClampNeg) - v2))) (upd (m_us (m_ssz (m_sfi (m_sch σ ((m_ch σ) + 1)) (upd (m_fi (m_sch σ ((m_ch σ) + 1))) (v1 + 1).toNatClampNeg ((m_fi (m_sch σ ((m_ch σ) + 1)) v1.toNatClampNeg) + v2))) (upd (m_sz (m_sfi (m_sch σ ((m_ch σ) + 1)) (upd (m_fi (m_sch σ ((m_ch σ) + 1))) (v1 + 1).toNatClampNeg ((m_fi (m_sch σ ((m_ch σ) + 1)) v1.toNatClampNeg) + v2)))) (v1 + 1).toNatClampNeg ((m_sz (m_sfi (m_sch σ ((m_ch σ) + 1)) (upd (m_fi (m_sch σ ((m_ch σ) + 1))) (v1 + 1).toNatClampNeg ((m_fi (m_sch σ ((m_ch σ) + 1)) v1.toNatClampNeg) + v2))) v1.toNatClampNeg) - v2)))) (v1 + 1).toNatClampNeg 0)) (upd (m_ca (m_sus (m_ssz (m_sfi (m_sch σ ((m_ch σ) + 1)) (upd (m_fi (m_sch σ ((m_ch σ) + 1))) (v1 + 1).toNatClampNeg ((m_fi (m_sch σ ((m_ch σ) + 1)) v1.toNatClampNeg) + v2))) (upd (m_sz (m_sfi (m_sch σ ((m_ch σ) + 1)) (upd (m_fi (m_sch σ ((m_ch σ) + 1))) (v1 + 1).toNatClampNeg ((m_fi (m_sch σ ((m_ch σ) + 1)) v1.toNatClampNeg) + v2)))) (v1 + 1).toNatClampNeg ((m_sz (m_sfi (m_sch σ ((m_ch σ) + 1)) (upd (m_fi (m_sch σ ((m_ch σ) + 1))) (v1 + 1).toNatClampNeg ((m_fi (m_sch σ ((m_ch σ) + 1)) v1.toNatClampNeg) + v2))) v1.toNatClampNeg) - v2))) (upd (m_us (m_ssz (m_sfi (m_sch σ ((m_ch σ) + 1)) (upd (m_fi (m_sch σ ((m_ch σ) + 1))) (v1 + 1).toNatClampNeg ((m_fi (m_sch σ ((m_ch σ) + 1)) v1.toNatClampNeg) + v2))) (upd (m_sz (m_sfi (m_sch σ ((m_ch σ) + 1)) (upd (m_fi (m_sch σ ((m_ch σ) + 1))) (v1 + 1).toNatClampNeg ((m_fi (m_sch σ ((m_ch σ) + 1)) v1.toNatClampNeg) + v2)))) (v1 + 1).toNatClampNeg ((m_sz (m_sfi (m_sch σ ((m_ch σ) + 1)) (upd (m_fi (m_sch σ ((m_ch σ) + 1))) (v1 + 1).toNatClampNeg ((m_fi (m_sch σ ((m_ch σ) + 1)) v1.toNatClampNeg) + v2))) v1.toNatClampNeg) - v2)))) (v1 + 1).toNatClampNeg 0))) (v1 + 1).toNatClampNeg 0)) (upd (m_sz (m_sca (m_sus (m_ssz (m_sfi (m_sch σ ((m_ch σ) + 1)) (upd (m_fi (m_sch σ ((m_ch σ) + 1))) (v1 + 1).toNatClampNeg ((m_fi (m_sch σ ((m_ch σ) + 1)) v1.toNatClampNeg) + v2))) (upd (m_sz (m_sfi (m_sch σ ((m_ch σ) + 1)) (upd (m_fi (m_sch σ ((m_ch σ) + 1))) (v1 + 1).toNatClampNeg ((m_fi (m_sch σ ((m_ch σ) + 1)) v1.toNatClampNeg) + v2)))) (v1 + 1).toNatClampNeg ((m_sz (m_sfi (m_sch σ ((m_ch σ) + 1)) (upd (m_fi (m_sch σ ((m_ch σ) + 1))) (v1 + 1).toNatClampNeg ((m_fi (m_sch σ ((m_ch σ) + 1)) v1.toNatClampNeg) + v2))) v1.toNatClampNeg) - v2))) (upd (m_us (m_ssz (m_sfi (m_sch σ ((m_ch σ) + 1)) (upd (m_fi (m_sch σ ((m_ch σ) + 1))) (v1 + 1).toNatClampNeg ((m_fi (m_sch σ ((m_ch σ) + 1)) v1.toNatClampNeg) + v2))) (upd (m_sz (m_sfi (m_sch σ ((m_ch σ) + 1)) (upd (m_fi (m_sch σ ((m_ch σ) + 1))) (v1 + 1).toNatClampNeg ((m_fi (m_sch σ ((m_ch σ) + 1)) v1.toNatClampNeg) + v2)))) (v1 + 1).toNatClampNeg ((m_sz (m_sfi (m_sch σ ((m_ch σ) + 1)) (upd (m_fi (m_sch σ ((m_ch σ) + 1))) (v1 + 1).toNatClampNeg ((m_fi (m_sch σ ((m_ch σ) + 1)) v1.toNatClampNeg) + v2))) v1.toNatClampNeg) - v2)))) (v1 + 1).toNatClampNeg 0)) (upd (m_ca (m_sus (m_ssz (m_sfi (m_sch σ ((m_ch σ) + 1)) (upd (m_fi (m_sch σ ((m_ch σ) + 1))) (v1 + 1).toNatClampNeg ((m_fi (m_sch σ ((m_ch σ) + 1)) v1.toNatClampNeg) + v2))) (upd (m_sz (m_sfi (m_sch σ ((m_ch σ) + 1)) (upd (m_fi (m_sch σ ((m_ch σ) + 1))) (v1 + 1).toNatClampNeg ((m_fi (m_sch σ ((m_ch σ) + 1)) v1.toNatClampNeg) + v2)))) (v1 + 1).toNatClampNeg ((m_sz (m_sfi (m_sch σ ((m_ch σ) + 1)) (upd (m_fi (m_sch σ ((m_ch σ) + 1))) (v1 + 1).toNatClampNeg ((m_fi (m_sch σ ((m_ch σ) + 1)) v1.toNatClampNeg) + v2))) v1.toNatClampNeg) - v2))) (upd (m_us (m_ssz (m_sfi (m_sch σ ((m_ch σ) + 1)) (upd (m_fi (m_sch σ ((m_ch σ) + 1))) (v1 + 1).toNatClampNeg ((m_fi (m_sch σ ((m_ch σ) + 1)) v1.toNatClampNeg) + v2))) (upd (m_sz (m_sfi (m_sch σ ((m_ch σ) + 1)) (upd (m_fi (m_sch σ ((m_ch σ) + 1))) (v1 + 1).toNatClampNeg ((m_fi (m_sch σ ((m_ch σ) + 1)) v1.toNatClampNeg) + v2)))) (v1 + 1).toNatClampNeg ((m_sz (m_sfi (m_sch σ ((m_ch σ) + 1)) (upd (m_fi (m_sch σ ((m_ch σ) + 1))) (v1 + 1).toNatClampNeg ((m_fi (m_sch σ ((m_ch σ) + 1)) v1.toNatClampNeg) + v2))) v1.toNatClampNeg) - v2)))) (v1 + 1).toNatClampNeg 0))) (v1 + 1).toNatClampNeg 0))) v1.toNatClampNeg v2)))))))))
def wM_part_5_s (lim : Int32) (post : MS → Prop) (rc : MS → Int32 → Int32 → Int32 → Prop) (σ : MS) (v1 : Int32) (v2 : Int32) (v3 : Int32) : Prop := ((v3 ≤ (v1 + 1) → wM_part_74 lim σ v1 v2 post) ∧ (¬ v3 ≤ (v1 + 1) → (vp_in (v3 - 1) 258 ∧ (vp_in v3 258 ∧ (vp_in (v3 - 1) 258 ∧ (vp_in v3 258 ∧ (vp_in (v3 - 1) 258 ∧ (vp_in v3 258 ∧ (vp_in (v3 - 1) 258 ∧ (vp_in v3 258 ∧ rc (m_sca (m_sus (m_ssz (m_sfi σ (upd (m_fi σ) v3.toNatClampNeg (m_fi σ (v3 - 1).toNatClampNeg))) (upd (m_sz (m_sfi σ (upd (m_fi σ) v3.toNatClampNeg (m_fi σ (v3 - 1).toNatClampNeg)))) v3.toNatClampNeg (m_sz (m_sfi σ (upd (m_fi σ) v3.toNatClampNeg (m_fi σ (v3 - 1).toNatClampNeg))) (v3 - 1).toNatClampNeg))) (upd (m_us (m_ssz (m_sfi σ (upd (m_fi σ) v3.toNatClampNeg (m_fi σ (v3 - 1).toNatClampNeg))) (upd (m_sz (m_sfi σ (upd (m_fi σ) v3.toNatClampNeg (m_fi σ (v3 - 1).toNatClampNeg)))) v3.toNatClampNeg (m_sz (m_sfi σ (upd (m_fi σ) v3.toNatClampNeg (m_fi σ (v3 - 1).toNatClampNeg))) (v3 - 1).toNatClampNeg)))) v3.toNatClampNeg (vp_nar .boolean (m_us (m_ssz (m_sfi σ (upd (m_fi σ) v3.toNatClampNeg (m_fi σ (v3 - 1).toNatClampNeg))) (upd (m_sz (m_sfi σ (upd (m_fi σ) v3.toNatClampNeg (m_fi σ (v3 - 1).toNatClampNeg)))) v3.toNatClampNeg (m_sz (m_sfi σ (upd (m_fi σ) v3.toNatClampNeg (m_fi σ (v3 - 1).toNatClampNeg))) (v3 - 1).toNatClampNeg))) (v3 - 1).toNatClampNeg)))) (upd (m_ca (m_sus (m_ssz (m_sfi σ (upd (m_fi σ) v3.toNatClampNeg (m_fi σ (v3 - 1).toNatClampNeg))) (upd (m_sz (m_sfi σ (upd (m_fi σ) v3.toNatClampNeg (m_fi σ (v3 - 1).toNatClampNeg)))) v3.toNatClampNeg (m_sz (m_sfi σ (upd (m_fi σ) v3.toNatClampNeg (m_fi σ (v3 - 1).toNatClampNeg))) (v3 - 1).toNatClampNeg))) (upd (m_us (m_ssz (m_sfi σ (upd (m_fi σ) v3.toNatClampNeg (m_fi σ (v3 - 1).toNatClampNeg))) (upd (m_sz (m_sfi σ (upd (m_fi σ) v3.toNatClampNeg (m_fi σ (v3 - 1).toNatClampNeg)))) v3.toNatClampNeg (m_sz (m_sfi σ (upd (m_fi σ) v3.toNatClampNeg (m_fi σ (v3 - 1).toNatClampNeg))) (v3 - 1).toNatClampNeg)))) v3.toNatClampNeg (vp_nar .boolean (m_us (m_ssz (m_sfi σ (upd (m_fi σ) v3.toNatClampNeg (m_fi σ (v3 - 1).toNatClampNeg))) (upd (m_sz (m_sfi σ (upd (m_fi σ) v3.toNatClampNeg (m_fi σ (v3 - 1).toNatClampNeg)))) v3.toNatClampNeg (m_sz (m_sfi σ (upd (m_fi σ) v3.toNatClampNeg (m_fi σ (v3 - 1).toNatClampNeg))) (v3 - 1).toNatClampNeg))) (v3 - 1).toNatClampNeg))))) v3.toNatClampNeg (m_ca (m_sus (m_ssz (m_sfi σ (upd (m_fi σ) v3.toNatClampNeg (m_fi σ (v3 - 1).toNatClampNeg))) (upd (m_sz (m_sfi σ (upd (m_fi σ) v3.toNatClampNeg (m_fi σ (v3 - 1).toNatClampNeg)))) v3.toNatClampNeg (m_sz (m_sfi σ (upd (m_fi σ) v3.toNatClampNeg (m_fi σ (v3 - 1).toNatClampNeg))) (v3 - 1).toNatClampNeg))) (upd (m_us (m_ssz (m_sfi σ (upd (m_fi σ) v3.toNatClampNeg (m_fi σ (v3 - 1).toNatClampNeg))) (upd (m_sz (m_sfi σ (upd (m_fi σ) v3.toNatClampNeg (m_fi σ (v3 - 1).toNatClampNeg)))) v3.toNatClampNeg (m_sz (m_sfi σ (upd (m_fi σ) v3.toNatClampNeg (m_fi σ (v3 - 1).toNatClampNeg))) (v3 - 1).toNatClampNeg)))) v3.toNatClampNeg (vp_nar .boolean (m_us (m_ssz (m_sfi σ (upd (m_fi σ) v3.toNatClampNeg (m_fi σ (v3 - 1).toNatClampNeg))) (upd (m_sz (m_sfi σ (upd (m_fi σ) v3.toNatClampNeg (m_fi σ (v3 - 1).toNatClampNeg)))) v3.toNatClampNeg (m_sz (m_sfi σ (upd (m_fi σ) v3.toNatClampNeg (m_fi σ (v3 - 1).toNatClampNeg))) (v3 - 1).toNatClampNeg))) (v3 - 1).toNatClampNeg)))) (v3 - 1).toNatClampNeg))) v1 v2 (v3 + (-1))))))))))))
def wM_part_5 (lim : Int32) (post : MS → Prop) : Nat → MS → Int32 → Int32 → Int32 → Prop
  | 0 => fun _ _ _ _  => False
  | f + 1 => wM_part_5_s lim post (wM_part_5 lim post f)
def wM_part (lim : Int32) (σ : MS) (v1 : Int32) (v2 : Int32) (post : MS → Prop) : Prop := (∃ f : Nat, wM_part_5 lim post f σ v1 v2 (m_ch σ))
def wM_join_97 (lim : Int32) (σ : MS) (post : MS → Prop) : Prop := post (m_sch σ ((m_ch σ) - 1))
def wM_join_25_s (lim : Int32) (post : MS → Prop) (rc : MS → Int32 → Prop) (σ : MS) (v2 : Int32) : Prop := (((m_ch σ) ≤ (v2 + 1) → wM_join_97 lim σ  post) ∧ (¬ (m_ch σ) ≤ (v2 + 1) → (vp_in (v2 + 1) 258 ∧ (vp_in v2 258 ∧ (vp_in (v2 + 1) 258 ∧ (vp_in v2 258 ∧ (vp_in (v2 + 1) 258 ∧ (vp_in v2 258 ∧ (vp_in (v2 + 1) 258 ∧ (vp_in v2 258 ∧ rc (m_sca (m_sus (m_ssz (m_sfi σ (upd (m_fi σ) v2.toNatClampNeg (m_fi σ (v2 + 1).toNatClampNeg))) (upd (m_sz (m_sfi σ (upd (m_fi σ) v2.toNatClampNeg (m_fi σ (v2 + 1).toNatClampNeg)))) v2.toNatClampNeg (m_sz (m_sfi σ (upd (m_fi σ) v2.toNatClampNeg (m_fi σ (v2 + 1).toNatClampNeg))) (v2 + 1).toNatClampNeg))) (upd (m_us (m_ssz (m_sfi σ (upd (m_fi σ) v2.toNatClampNeg (m_fi σ (v2 + 1).toNatClampNeg))) (upd (m_sz (m_sfi σ (upd (m_fi σ) v2.toNatClampNeg (m_fi σ (v2 + 1).toNatClampNeg)))) v2.toNatClampNeg (m_sz (m_sfi σ (upd (m_fi σ) v2.toNatClampNeg (m_fi σ (v2 + 1).toNatClampNeg))) (v2 + 1).toNatClampNeg)))) v2.toNatClampNeg (vp_nar .boolean (m_us (m_ssz (m_sfi σ (upd (m_fi σ) v2.toNatClampNeg (m_fi σ (v2 + 1).toNatClampNeg))) (upd (m_sz (m_sfi σ (upd (m_fi σ) v2.toNatClampNeg (m_fi σ (v2 + 1).toNatClampNeg)))) v2.toNatClampNeg (m_sz (m_sfi σ (upd (m_fi σ) v2.toNatClampNeg (m_fi σ (v2 + 1).toNatClampNeg))) (v2 + 1).toNatClampNeg))) (v2 + 1).toNatClampNeg)))) (upd (m_ca (m_sus (m_ssz (m_sfi σ (upd (m_fi σ) v2.toNatClampNeg (m_fi σ (v2 + 1).toNatClampNeg))) (upd (m_sz (m_sfi σ (upd (m_fi σ) v2.toNatClampNeg (m_fi σ (v2 + 1).toNatClampNeg)))) v2.toNatClampNeg (m_sz (m_sfi σ (upd (m_fi σ) v2.toNatClampNeg (m_fi σ (v2 + 1).toNatClampNeg))) (v2 + 1).toNatClampNeg))) (upd (m_us (m_ssz (m_sfi σ (upd (m_fi σ) v2.toNatClampNeg (m_fi σ (v2 + 1).toNatClampNeg))) (upd (m_sz (m_sfi σ (upd (m_fi σ) v2.toNatClampNeg (m_fi σ (v2 + 1).toNatClampNeg)))) v2.toNatClampNeg (m_sz (m_sfi σ (upd (m_fi σ) v2.toNatClampNeg (m_fi σ (v2 + 1).toNatClampNeg))) (v2 + 1).toNatClampNeg)))) v2.toNatClampNeg (vp_nar .boolean (m_us (m_ssz (m_sfi σ (upd (m_fi σ) v2.toNatClampNeg (m_fi σ (v2 + 1).toNatClampNeg))) (upd (m_sz (m_sfi σ (upd (m_fi σ) v2.toNatClampNeg (m_fi σ (v2 + 1).toNatClampNeg)))) v2.toNatClampNeg (m_sz (m_sfi σ (upd (m_fi σ) v2.toNatClampNeg (m_fi σ (v2 + 1).toNatClampNeg))) (v2 + 1).toNatClampNeg))) (v2 + 1).toNatClampNeg))))) v2.toNatClampNeg (m_ca (m_sus (m_ssz (m_sfi σ (upd (m_fi σ) v2.toNatClampNeg (m_fi σ (v2 + 1).toNatClampNeg))) (upd (m_sz (m_sfi σ (upd (m_fi σ) v2.toNatClampNeg (m_fi σ (v2 + 1).toNatClampNeg)))) v2.toNatClampNeg (m_sz (m_sfi σ (upd (m_fi σ) v2.toNatClampNeg (m_fi σ (v2 + 1).toNatClampNeg))) (v2 + 1).toNatClampNeg))) (upd (m_us (m_ssz (m_sfi σ (upd (m_fi σ) v2.toNatClampNeg (m_fi σ (v2 + 1).toNatClampNeg))) (upd (m_sz (m_sfi σ (upd (m_fi σ) v2.toNatClampNeg (m_fi σ (v2 + 1).toNatClampNeg)))) v2.toNatClampNeg (m_sz (m_sfi σ (upd (m_fi σ) v2.toNatClampNeg (m_fi σ (v2 + 1).toNatClampNeg))) (v2 + 1).toNatClampNeg)))) v2.toNatClampNeg (vp_nar .boolean (m_us (m_ssz (m_sfi σ (upd (m_fi σ) v2.toNatClampNeg (m_fi σ (v2 + 1).toNatClampNeg))) (upd (m_sz (m_sfi σ (upd (m_fi σ) v2.toNatClampNeg (m_fi σ (v2 + 1).toNatClampNeg)))) v2.toNatClampNeg (m_sz (m_sfi σ (upd (m_fi σ) v2.toNatClampNeg (m_fi σ (v2 + 1).toNatClampNeg))) (v2 + 1).toNatClampNeg))) (v2 + 1).toNatClampNeg)))) (v2 + 1).toNatClampNeg))) (v2 + 1)))))))))))
def wM_join_25 (lim : Int32) (post : MS → Prop) : Nat → MS → Int32 → Prop
  | 0 => fun _ _  => False
  | f + 1 => wM_join_25_s lim post (wM_join_25 lim post f)
def wM_join (lim : Int32) (σ : MS) (v1 : Int32) (post : MS → Prop) : Prop := (vp_in v1 258 ∧ (vp_in (v1 + 1) 258 ∧ (vp_in v1 258 ∧ (∃ f : Nat, wM_join_25 lim post f (m_ssz σ (upd (m_sz σ) v1.toNatClampNeg ((m_sz σ v1.toNatClampNeg) + (m_sz σ (v1 + 1).toNatClampNeg)))) (v1 + 1)))))
def wM_store (lim : Int32) (σ : MS) (v1 : Int32) (post : MS → Prop) : Prop := (vp_in v1 258 ∧ post (m_sca (m_scl σ ((m_cl σ) + 1)) (upd (m_ca (m_scl σ ((m_cl σ) + 1))) v1.toNatClampNeg (m_cl (m_scl σ ((m_cl σ) + 1))))))
def wM_cut (lim : Int32) (σ : MS) (v1 : Int32) (v2 : Int32) (post : Int32 → MS → Prop) : Prop := (vp_in v1 258 ∧ (vp_in v1 258 ∧ ((2 ≤ ((m_sz (m_sus σ (upd (m_us σ) v1.toNatClampNeg 1)) v1.toNatClampNeg) - v2) → wM_part lim (m_sus σ (upd (m_us σ) v1.toNatClampNeg 1)) v1 v2 (fun σ24 => post 1 σ24)) ∧ (¬ 2 ≤ ((m_sz (m_sus σ (upd (m_us σ) v1.toNatClampNeg 1)) v1.toNatClampNeg) - v2) → post 0 (m_sus σ (upd (m_us σ) v1.toNatClampNeg 1))))))
def wM_best_5_s (lim : Int32) (post : Int32 → MS → Prop) (rc : MS → Int32 → Int32 → Int32 → Int32 → Prop) (σ : MS) (v1 : Int32) (v2 : Int32) (v3 : Int32) (v4 : Int32) : Prop := (((m_ch σ) ≤ v4 → post v3 σ) ∧ (¬ (m_ch σ) ≤ v4 → wM_stateOf lim σ v4 (fun r17 σ17 => ((r17 = 1 → (vp_in v4 258 ∧ (((m_sz σ17 v4.toNatClampNeg) < v1 → rc σ17 v1 v2 v3 (v4 + 1)) ∧ (¬ (m_sz σ17 v4.toNatClampNeg) < v1 → (vp_in v4 258 ∧ ((v2 < (m_sz σ17 v4.toNatClampNeg) → rc σ17 v1 v2 v3 (v4 + 1)) ∧ (¬ v2 < (m_sz σ17 v4.toNatClampNeg) → ((v3 < 0 → rc σ17 v1 v2 v4 (v4 + 1)) ∧ (¬ v3 < 0 → (vp_in v4 258 ∧ (vp_in v3 258 ∧ (((m_sz σ17 v4.toNatClampNeg) < (m_sz σ17 v3.toNatClampNeg) → rc σ17 v1 v2 v4 (v4 + 1)) ∧ (¬ (m_sz σ17 v4.toNatClampNeg) < (m_sz σ17 v3.toNatClampNeg) → (vp_in v4 258 ∧ (vp_in v3 258 ∧ ((¬ (m_sz σ17 v4.toNatClampNeg) = (m_sz σ17 v3.toNatClampNeg) → rc σ17 v1 v2 v3 (v4 + 1)) ∧ ((m_sz σ17 v4.toNatClampNeg) = (m_sz σ17 v3.toNatClampNeg) → (vp_in v4 258 ∧ (vp_in v3 258 ∧ (((m_ca σ17 v4.toNatClampNeg) ≤ (m_ca σ17 v3.toNatClampNeg) → rc σ17 v1 v2 v3 (v4 + 1)) ∧ (¬ (m_ca σ17 v4.toNatClampNeg) ≤ (m_ca σ17 v3.toNatClampNeg) → rc σ17 v1 v2 v4 (v4 + 1)))))))))))))))))))))) ∧ (¬ r17 = 1 → ((¬ r17 = 2 → rc σ17 v1 v2 v3 (v4 + 1)) ∧ (r17 = 2 → (vp_in v4 258 ∧ (((m_sz σ17 v4.toNatClampNeg) < v1 → rc σ17 v1 v2 v3 (v4 + 1)) ∧ (¬ (m_sz σ17 v4.toNatClampNeg) < v1 → (vp_in v4 258 ∧ ((v2 < (m_sz σ17 v4.toNatClampNeg) → rc σ17 v1 v2 v3 (v4 + 1)) ∧ (¬ v2 < (m_sz σ17 v4.toNatClampNeg) → ((v3 < 0 → rc σ17 v1 v2 v4 (v4 + 1)) ∧ (¬ v3 < 0 → (vp_in v4 258 ∧ (vp_in v3 258 ∧ (((m_sz σ17 v4.toNatClampNeg) < (m_sz σ17 v3.toNatClampNeg) → rc σ17 v1 v2 v4 (v4 + 1)) ∧ (¬ (m_sz σ17 v4.toNatClampNeg) < (m_sz σ17 v3.toNatClampNeg) → (vp_in v4 258 ∧ (vp_in v3 258 ∧ ((¬ (m_sz σ17 v4.toNatClampNeg) = (m_sz σ17 v3.toNatClampNeg) → rc σ17 v1 v2 v3 (v4 + 1)) ∧ ((m_sz σ17 v4.toNatClampNeg) = (m_sz σ17 v3.toNatClampNeg) → (vp_in v4 258 ∧ (vp_in v3 258 ∧ (((m_ca σ17 v4.toNatClampNeg) ≤ (m_ca σ17 v3.toNatClampNeg) → rc σ17 v1 v2 v3 (v4 + 1)) ∧ (¬ (m_ca σ17 v4.toNatClampNeg) ≤ (m_ca σ17 v3.toNatClampNeg) → rc σ17 v1 v2 v4 (v4 + 1))))))))))))))))))))))))))))
def wM_best_5 (lim : Int32) (post : Int32 → MS → Prop) : Nat → MS → Int32 → Int32 → Int32 → Int32 → Prop
  | 0 => fun _ _ _ _ _  => False
  | f + 1 => wM_best_5_s lim post (wM_best_5 lim post f)
def wM_best (lim : Int32) (σ : MS) (v1 : Int32) (v2 : Int32) (post : Int32 → MS → Prop) : Prop := (∃ f : Nat, wM_best_5 lim post f σ v1 v2 (-1) 0)
def wM_fromVictim_19 (lim : Int32) (σ : MS) (v1 : Int32) (k0 : Int32) (post : Int32 → MS → Prop) : Prop := ((k0 < 0 → post (-1) σ) ∧ (¬ k0 < 0 → (vp_in k0 258 ∧ ((v1 ≤ (m_sz σ k0.toNatClampNeg) → wM_cut lim σ k0 v1 (fun r40 σ40 => ((r40 = 0 → post k0 (m_svi σ40 (-1))) ∧ (¬ r40 = 0 → (vp_in (k0 + 1) 258 ∧ post k0 (m_svi σ40 (m_fi σ40 (k0 + 1).toNatClampNeg))))))) ∧ (¬ v1 ≤ (m_sz σ k0.toNatClampNeg) → post (-1) σ)))))
def wM_fromVictim (lim : Int32) (σ : MS) (v1 : Int32) (post : Int32 → MS → Prop) : Prop := ((0 ≤ (m_vi σ) → wM_at lim σ (m_vi σ) (fun r16 σ16 => wM_fromVictim_19 lim σ16 v1 r16 post)) ∧ (¬ 0 ≤ (m_vi σ) → wM_fromVictim_19 lim σ v1 (-1) post))
def wM_takeSmall_99 (lim : Int32) (σ : MS) (v2 : Int32) (post : Int32 → MS → Prop) : Prop := (vp_in (v2 + 1) 258 ∧ post v2 (m_svi σ (m_fi σ (v2 + 1).toNatClampNeg)))
def wM_takeSmall_89 (lim : Int32) (σ : MS) (v2 : Int32) (k0 : Int32) (post : Int32 → MS → Prop) : Prop := ((k0 < 0 → wM_takeSmall_99 lim σ v2 post) ∧ (¬ k0 < 0 → wM_store lim σ k0 (fun σ96 => wM_takeSmall_99 lim σ96 v2 post)))
def wM_takeSmall_15 (lim : Int32) (σ : MS) (v1 : Int32) (k1 : Int32) (k0 : Int32) (post : Int32 → MS → Prop) : Prop := wM_best lim σ k1 k0 (fun r15 σ15 => ((r15 < 0 → wM_fromVictim lim σ15 v1 (fun r34 σ34 => ((r34 < 0 → wM_best lim σ34 (v1 + 1) 1000 (fun r51 σ51 => ((0 ≤ r51 → wM_cut lim σ51 r51 v1 (fun r64 σ64 => ((r64 = 0 → post r51 σ64) ∧ (¬ r64 = 0 → ((0 ≤ (m_vi σ64) → wM_at lim σ64 (m_vi σ64) (fun r86 σ86 => wM_takeSmall_89 lim σ86 r51 r86 post)) ∧ (¬ 0 ≤ (m_vi σ64) → wM_takeSmall_89 lim σ64 r51 (-1) post)))))) ∧ (¬ 0 ≤ r51 → post (-1) σ51)))) ∧ (¬ r34 < 0 → post r34 σ34)))) ∧ (¬ r15 < 0 → (vp_in r15 258 ∧ post r15 (m_sus σ15 (upd (m_us σ15) r15.toNatClampNeg 1))))))
def wM_takeSmall (lim : Int32) (σ : MS) (v1 : Int32) (post : Int32 → MS → Prop) : Prop := ((15 ≤ v1 → wM_takeSmall_15 lim σ v1 v1 v1 post) ∧ (¬ 15 ≤ v1 → wM_takeSmall_15 lim σ v1 v1 (v1 + 1) post))
def wM_takeLarge_80 (lim : Int32) (σ : MS) (v1 : Int32) (post : Int32 → MS → Prop) : Prop := wM_fromVictim lim σ v1 (fun r82 σ82 => post r82 σ82)
def wM_takeLarge_62 (lim : Int32) (σ : MS) (v1 : Int32) (v2 : Int32) (post : Int32 → MS → Prop) : Prop := wM_cut lim σ v2 v1 (fun r65 σ65 => ((r65 = 0 → post v2 σ65) ∧ (¬ r65 = 0 → wM_store lim σ65 (v2 + 1) (fun σ75 => post v2 σ75))))
def wM_takeLarge_28 (lim : Int32) (σ : MS) (v1 : Int32) (v2 : Int32) (k0 : Int32) (post : Int32 → MS → Prop) : Prop := ((v2 < 0 → wM_takeLarge_80 lim σ v1 post) ∧ (¬ v2 < 0 → ((k0 < 0 → wM_takeLarge_62 lim σ v1 v2 post) ∧ (¬ k0 < 0 → (vp_in k0 258 ∧ (((m_sz σ k0.toNatClampNeg) < v1 → wM_takeLarge_62 lim σ v1 v2 post) ∧ (¬ (m_sz σ k0.toNatClampNeg) < v1 → (vp_in v2 258 ∧ (vp_in k0 258 ∧ (((m_sz σ k0.toNatClampNeg) ≤ (m_sz σ v2.toNatClampNeg) → wM_takeLarge_80 lim σ v1 post) ∧ (¬ (m_sz σ k0.toNatClampNeg) ≤ (m_sz σ v2.toNatClampNeg) → wM_takeLarge_62 lim σ v1 v2 post)))))))))))
def wM_takeLarge (lim : Int32) (σ : MS) (v1 : Int32) (post : Int32 → MS → Prop) : Prop := wM_best lim σ v1 1000 (fun r5 σ5 => ((0 ≤ (m_vi σ5) → wM_at lim σ5 (m_vi σ5) (fun r25 σ25 => wM_takeLarge_28 lim σ25 v1 r5 r25 post)) ∧ (¬ 0 ≤ (m_vi σ5) → wM_takeLarge_28 lim σ5 v1 r5 (-1) post)))
def wM_grow_128 (lim : Int32) (σ : MS) (v2 : Int32) (post : Int32 → MS → Prop) : Prop := post 1 (m_sen σ ((m_en σ) + v2))
def wM_grow_103_s (lim : Int32) (post : Int32 → MS → Prop) (rc : MS → Int32 → Int32 → Prop) (σ : MS) (v2 : Int32) (v4 : Int32) : Prop := ((((m_en σ) + v2) ≤ v4 → wM_grow_128 lim σ v2 post) ∧ (¬ ((m_en σ) + v2) ≤ v4 → (vp_in v4 512 ∧ rc (m_sun σ (upd (m_un σ) v4.toNatClampNeg 0)) v2 (v4 + 1))))
def wM_grow_103 (lim : Int32) (post : Int32 → MS → Prop) : Nat → MS → Int32 → Int32 → Prop
  | 0 => fun _ _ _  => False
  | f + 1 => wM_grow_103_s lim post (wM_grow_103 lim post f)
def wM_grow_83 (lim : Int32) (σ : MS) (v2 : Int32) (v3 : Int32) (post : Int32 → MS → Prop) : Prop := (vp_in v3 258 ∧ (vp_in v3 258 ∧ (∃ f : Nat, wM_grow_103 lim post f (m_ssz σ (upd (m_sz σ) v3.toNatClampNeg ((m_sz σ v3.toNatClampNeg) + v2))) v2 (m_en (m_ssz σ (upd (m_sz σ) v3.toNatClampNeg ((m_sz σ v3.toNatClampNeg) + v2)))))))
def wM_grow (lim : Int32) (σ : MS) (v1 : Int32) (post : Int32 → MS → Prop) : Prop := ((((m_en σ) + (((v1 + 15) / 16) * 16)) ≤ lim → wM_top lim σ  (fun r27 σ27 => ((0 ≤ r27 → wM_grow_83 lim σ27 (((v1 + 15) / 16) * 16) r27 post) ∧ (¬ 0 ≤ r27 → (vp_in (m_ch σ27) 258 ∧ (vp_in (m_ch (m_sfi σ27 (upd (m_fi σ27) (m_ch σ27).toNatClampNeg (m_en σ27)))) 258 ∧ (vp_in (m_ch (m_ssz (m_sfi σ27 (upd (m_fi σ27) (m_ch σ27).toNatClampNeg (m_en σ27))) (upd (m_sz (m_sfi σ27 (upd (m_fi σ27) (m_ch σ27).toNatClampNeg (m_en σ27)))) (m_ch (m_sfi σ27 (upd (m_fi σ27) (m_ch σ27).toNatClampNeg (m_en σ27)))).toNatClampNeg 0))) 258 ∧ wM_grow_83 lim (m_sch (m_sus (m_ssz (m_sfi σ27 (upd (m_fi σ27) (m_ch σ27).toNatClampNeg (m_en σ27))) (upd (m_sz (m_sfi σ27 (upd (m_fi σ27) (m_ch σ27).toNatClampNeg (m_en σ27)))) (m_ch (m_sfi σ27 (upd (m_fi σ27) (m_ch σ27).toNatClampNeg (m_en σ27)))).toNatClampNeg 0)) (upd (m_us (m_ssz (m_sfi σ27 (upd (m_fi σ27) (m_ch σ27).toNatClampNeg (m_en σ27))) (upd (m_sz (m_sfi σ27 (upd (m_fi σ27) (m_ch σ27).toNatClampNeg (m_en σ27)))) (m_ch (m_sfi σ27 (upd (m_fi σ27) (m_ch σ27).toNatClampNeg (m_en σ27)))).toNatClampNeg 0))) (m_ch (m_ssz (m_sfi σ27 (upd (m_fi σ27) (m_ch σ27).toNatClampNeg (m_en σ27))) (upd (m_sz (m_sfi σ27 (upd (m_fi σ27) (m_ch σ27).toNatClampNeg (m_en σ27)))) (m_ch (m_sfi σ27 (upd (m_fi σ27) (m_ch σ27).toNatClampNeg (m_en σ27)))).toNatClampNeg 0))).toNatClampNeg 0)) ((m_ch (m_sus (m_ssz (m_sfi σ27 (upd (m_fi σ27) (m_ch σ27).toNatClampNeg (m_en σ27))) (upd (m_sz (m_sfi σ27 (upd (m_fi σ27) (m_ch σ27).toNatClampNeg (m_en σ27)))) (m_ch (m_sfi σ27 (upd (m_fi σ27) (m_ch σ27).toNatClampNeg (m_en σ27)))).toNatClampNeg 0)) (upd (m_us (m_ssz (m_sfi σ27 (upd (m_fi σ27) (m_ch σ27).toNatClampNeg (m_en σ27))) (upd (m_sz (m_sfi σ27 (upd (m_fi σ27) (m_ch σ27).toNatClampNeg (m_en σ27)))) (m_ch (m_sfi σ27 (upd (m_fi σ27) (m_ch σ27).toNatClampNeg (m_en σ27)))).toNatClampNeg 0))) (m_ch (m_ssz (m_sfi σ27 (upd (m_fi σ27) (m_ch σ27).toNatClampNeg (m_en σ27))) (upd (m_sz (m_sfi σ27 (upd (m_fi σ27) (m_ch σ27).toNatClampNeg (m_en σ27)))) (m_ch (m_sfi σ27 (upd (m_fi σ27) (m_ch σ27).toNatClampNeg (m_en σ27)))).toNatClampNeg 0))).toNatClampNeg 0))) + 1)) (((v1 + 15) / 16) * 16) (m_ch (m_sus (m_ssz (m_sfi σ27 (upd (m_fi σ27) (m_ch σ27).toNatClampNeg (m_en σ27))) (upd (m_sz (m_sfi σ27 (upd (m_fi σ27) (m_ch σ27).toNatClampNeg (m_en σ27)))) (m_ch (m_sfi σ27 (upd (m_fi σ27) (m_ch σ27).toNatClampNeg (m_en σ27)))).toNatClampNeg 0)) (upd (m_us (m_ssz (m_sfi σ27 (upd (m_fi σ27) (m_ch σ27).toNatClampNeg (m_en σ27))) (upd (m_sz (m_sfi σ27 (upd (m_fi σ27) (m_ch σ27).toNatClampNeg (m_en σ27)))) (m_ch (m_sfi σ27 (upd (m_fi σ27) (m_ch σ27).toNatClampNeg (m_en σ27)))).toNatClampNeg 0))) (m_ch (m_ssz (m_sfi σ27 (upd (m_fi σ27) (m_ch σ27).toNatClampNeg (m_en σ27))) (upd (m_sz (m_sfi σ27 (upd (m_fi σ27) (m_ch σ27).toNatClampNeg (m_en σ27)))) (m_ch (m_sfi σ27 (upd (m_fi σ27) (m_ch σ27).toNatClampNeg (m_en σ27)))).toNatClampNeg 0))).toNatClampNeg 0))) post))))))) ∧ (¬ ((m_en σ) + (((v1 + 15) / 16) * 16)) ≤ lim → post 0 σ))
def wM_take_66 (lim : Int32) (σ : MS) (v1 : Int32) (post : Int32 → MS → Prop) : Prop := wM_top lim σ  (fun r67 σ67 => wM_cut lim σ67 r67 v1 (fun r74 σ74 => post r67 σ74))
def wM_take_45 (lim : Int32) (σ : MS) (v1 : Int32) (k0 : Int32) (post : Int32 → MS → Prop) : Prop := ((v1 ≤ k0 → wM_take_66 lim σ v1 post) ∧ (¬ v1 ≤ k0 → wM_grow lim σ (v1 - k0) (fun r58 σ58 => ((¬ r58 = 0 → wM_take_66 lim σ58 v1 post) ∧ (r58 = 0 → post (-1) σ58)))))
def wM_take_19 (lim : Int32) (σ : MS) (v1 : Int32) (k0 : Int32) (post : Int32 → MS → Prop) : Prop := ((k0 < 0 → wM_top lim σ  (fun r27 σ27 => ((0 ≤ r27 → (vp_in r27 258 ∧ wM_take_45 lim σ27 v1 (m_sz σ27 r27.toNatClampNeg) post)) ∧ (¬ 0 ≤ r27 → wM_take_45 lim σ27 v1 0 post)))) ∧ (¬ k0 < 0 → post k0 σ))
def wM_take (lim : Int32) (σ : MS) (v1 : Int32) (post : Int32 → MS → Prop) : Prop := ((16 ≤ v1 → wM_takeLarge lim σ v1 (fun r16 σ16 => wM_take_19 lim σ16 v1 r16 post)) ∧ (¬ 16 ≤ v1 → wM_takeSmall lim σ v1 (fun r8 σ8 => wM_take_19 lim σ8 v1 r8 post)))
def wM_give_119 (lim : Int32) (σ : MS) (v2 : Int32) (v3 : Int32) (k0 : Int32) (post : MS → Prop) : Prop := (vp_in v2 258 ∧ (vp_in v2 258 ∧ ((((m_fi (m_svi σ k0) v2.toNatClampNeg) + (m_sz (m_svi σ k0) v2.toNatClampNeg)) = (m_en (m_svi σ k0)) → post (m_svi σ k0)) ∧ (¬ ((m_fi (m_svi σ k0) v2.toNatClampNeg) + (m_sz (m_svi σ k0) v2.toNatClampNeg)) = (m_en (m_svi σ k0)) → ((v3 = 0 → wM_store lim (m_svi σ k0) v2 (fun σ161 => post σ161)) ∧ (¬ v3 = 0 → (vp_in v2 258 ∧ post (m_svi (m_svi σ k0) (m_fi (m_svi σ k0) v2.toNatClampNeg)))))))))
def wM_give_106 (lim : Int32) (σ : MS) (v2 : Int32) (v3 : Int32) (post : MS → Prop) : Prop := ((v3 = 0 → wM_give_119 lim σ v2 v3 (m_vi σ) post) ∧ (¬ v3 = 0 → wM_give_119 lim σ v2 v3 (-1) post))
def wM_give_97 (lim : Int32) (σ : MS) (v2 : Int32) (k0 : Int32) (post : MS → Prop) : Prop := wM_join lim σ (v2 + (-1)) (fun σ103 => wM_give_106 lim σ103 (v2 + (-1)) k0 post)
def wM_give_58 (lim : Int32) (σ : MS) (v2 : Int32) (v3 : Int32) (post : MS → Prop) : Prop := ((v2 ≤ 0 → wM_give_106 lim σ v2 v3 post) ∧ (¬ v2 ≤ 0 → (vp_in (v2 - 1) 258 ∧ ((¬ (m_us σ (v2 - 1).toNatClampNeg) = 0 → wM_give_106 lim σ v2 v3 post) ∧ ((m_us σ (v2 - 1).toNatClampNeg) = 0 → ((¬ v3 = 0 → wM_give_97 lim σ v2 1 post) ∧ (v3 = 0 → (vp_in (v2 - 1) 258 ∧ ((¬ (m_fi σ (v2 - 1).toNatClampNeg) = (m_vi σ) → wM_give_97 lim σ v2 0 post) ∧ ((m_fi σ (v2 - 1).toNatClampNeg) = (m_vi σ) → wM_give_97 lim σ v2 1 post))))))))))
def wM_give_52 (lim : Int32) (σ : MS) (v2 : Int32) (k0 : Int32) (post : MS → Prop) : Prop := wM_join lim σ v2 (fun σ55 => wM_give_58 lim σ55 v2 k0 post)
def wM_give (lim : Int32) (σ : MS) (v1 : Int32) (post : MS → Prop) : Prop := (vp_in v1 258 ∧ (((m_ch (m_sus σ (upd (m_us σ) v1.toNatClampNeg 0))) ≤ (v1 + 1) → wM_give_58 lim (m_sus σ (upd (m_us σ) v1.toNatClampNeg 0)) v1 0 post) ∧ (¬ (m_ch (m_sus σ (upd (m_us σ) v1.toNatClampNeg 0))) ≤ (v1 + 1) → (vp_in (v1 + 1) 258 ∧ ((¬ (m_us (m_sus σ (upd (m_us σ) v1.toNatClampNeg 0)) (v1 + 1).toNatClampNeg) = 0 → wM_give_58 lim (m_sus σ (upd (m_us σ) v1.toNatClampNeg 0)) v1 0 post) ∧ ((m_us (m_sus σ (upd (m_us σ) v1.toNatClampNeg 0)) (v1 + 1).toNatClampNeg) = 0 → (vp_in (v1 + 1) 258 ∧ ((¬ (m_fi (m_sus σ (upd (m_us σ) v1.toNatClampNeg 0)) (v1 + 1).toNatClampNeg) = (m_vi (m_sus σ (upd (m_us σ) v1.toNatClampNeg 0))) → wM_give_52 lim (m_sus σ (upd (m_us σ) v1.toNatClampNeg 0)) v1 0 post) ∧ ((m_fi (m_sus σ (upd (m_us σ) v1.toNatClampNeg 0)) (v1 + 1).toNatClampNeg) = (m_vi (m_sus σ (upd (m_us σ) v1.toNatClampNeg 0))) → wM_give_52 lim (m_sus σ (upd (m_us σ) v1.toNatClampNeg 0)) v1 1 post)))))))))
def wM_malloc_22 (lim : Int32) (σ : MS) (k0 : Int32) (post : Int32 → MS → Prop) : Prop := wM_take lim σ k0 (fun r22 σ22 => ((0 ≤ r22 → (vp_in r22 258 ∧ post ((m_fi σ22 r22.toNatClampNeg) + 1) σ22)) ∧ (¬ 0 ≤ r22 → post 0 σ22)))
def wM_malloc (lim : Int32) (σ : MS) (v1 : Int32) (post : Int32 → MS → Prop) : Prop := ((v1 ≤ 511 → ((1 ≤ v1 → wM_malloc_22 lim σ  (v1 + 1) post) ∧ (¬ 1 ≤ v1 → wM_malloc_22 lim σ  2 post))) ∧ (¬ v1 ≤ 511 → post 0 σ))
def wM_calloc_15_s (lim : Int32) (post : Int32 → MS → Prop) (rc : MS → Int32 → Int32 → Int32 → Prop) (σ : MS) (v2 : Int32) (v3 : Int32) (v4 : Int32) : Prop := ((v3 < 0 → post v2 σ) ∧ (¬ v3 < 0 → (vp_in v3 258 ∧ (vp_in v3 258 ∧ ((((m_fi σ v3.toNatClampNeg) + (m_sz σ v3.toNatClampNeg)) ≤ v4 → post v2 σ) ∧ (¬ ((m_fi σ v3.toNatClampNeg) + (m_sz σ v3.toNatClampNeg)) ≤ v4 → (vp_in v4 512 ∧ rc (m_sun σ (upd (m_un σ) v4.toNatClampNeg 0)) v2 v3 (v4 + 1))))))))
def wM_calloc_15 (lim : Int32) (post : Int32 → MS → Prop) : Nat → MS → Int32 → Int32 → Int32 → Prop
  | 0 => fun _ _ _ _  => False
  | f + 1 => wM_calloc_15_s lim post (wM_calloc_15 lim post f)
def wM_calloc (lim : Int32) (σ : MS) (v1 : Int32) (post : Int32 → MS → Prop) : Prop := wM_malloc lim σ v1 (fun r2 σ2 => wM_holder lim σ2 r2 (fun r8 σ8 => (∃ f : Nat, wM_calloc_15 lim post f σ8 r2 r8 r2)))
def wM_free (lim : Int32) (σ : MS) (v1 : Int32) (post : Int32 → MS → Prop) : Prop := wM_holder lim σ v1 (fun r2 σ2 => ((0 ≤ r2 → wM_give lim σ2 r2 (fun σ14 => post 1 σ14)) ∧ (¬ 0 ≤ r2 → post 0 σ2)))
def wM_shorten (lim : Int32) (σ : MS) (v1 : Int32) (v2 : Int32) (post : MS → Prop) : Prop := (vp_in v1 258 ∧ ((((m_sz σ v1.toNatClampNeg) - v2) < 2 → post σ) ∧ (¬ ((m_sz σ v1.toNatClampNeg) - v2) < 2 → wM_part lim σ v1 v2 (fun σ15 => wM_give lim σ15 (v1 + 1) (fun σ22 => post σ22)))))
def wM_lengthen_87 (lim : Int32) (σ : MS) (v1 : Int32) (v2 : Int32) (post : Int32 → MS → Prop) : Prop := (((m_ch σ) ≤ (v1 + 1) → post 0 σ) ∧ (¬ (m_ch σ) ≤ (v1 + 1) → (vp_in (v1 + 1) 258 ∧ ((¬ (m_us σ (v1 + 1).toNatClampNeg) = 0 → post 0 σ) ∧ ((m_us σ (v1 + 1).toNatClampNeg) = 0 → (vp_in v1 258 ∧ (vp_in (v1 + 1) 258 ∧ ((v2 ≤ ((m_sz σ v1.toNatClampNeg) + (m_sz σ (v1 + 1).toNatClampNeg)) → wM_stateOf lim σ (v1 + 1) (fun r133 σ133 => wM_join lim σ133 v1 (fun σ140 => wM_cut lim σ140 v1 v2 (fun r146 σ146 => ((¬ r133 = 3 → ((r146 = 0 → post 1 σ146) ∧ (¬ r146 = 0 → ((r133 = 4 → post 1 σ146) ∧ (¬ r133 = 4 → wM_store lim σ146 (v1 + 1) (fun σ196 => post 1 σ196)))))) ∧ (r133 = 3 → ((r146 = 0 → post 1 (m_svi σ146 (-1))) ∧ (¬ r146 = 0 → (vp_in (v1 + 1) 258 ∧ post 1 (m_svi σ146 (m_fi σ146 (v1 + 1).toNatClampNeg))))))))))) ∧ (¬ v2 ≤ ((m_sz σ v1.toNatClampNeg) + (m_sz σ (v1 + 1).toNatClampNeg)) → post 0 σ)))))))))
def wM_lengthen_61 (lim : Int32) (σ : MS) (v1 : Int32) (v2 : Int32) (k0 : Int32) (post : Int32 → MS → Prop) : Prop := ((v2 ≤ k0 → wM_lengthen_87 lim σ v1 v2 post) ∧ (¬ v2 ≤ k0 → wM_grow lim σ (v2 - k0) (fun r74 σ74 => ((r74 = 0 → wM_lengthen_87 lim σ74 v1 v2 post) ∧ (¬ r74 = 0 → wM_lengthen_87 lim σ74 v1 v2 post)))))
def wM_lengthen_34 (lim : Int32) (σ : MS) (v1 : Int32) (v2 : Int32) (v3 : Int32) (v4 : Int32) (post : Int32 → MS → Prop) : Prop := ((v4 = 0 → (vp_in v1 258 ∧ (vp_in v3 258 ∧ wM_lengthen_61 lim σ v1 v2 ((m_sz σ v1.toNatClampNeg) + (m_sz σ v3.toNatClampNeg)) post))) ∧ (¬ v4 = 0 → (vp_in v1 258 ∧ wM_lengthen_61 lim σ v1 v2 (m_sz σ v1.toNatClampNeg) post)))
def wM_lengthen_20 (lim : Int32) (σ : MS) (v1 : Int32) (v2 : Int32) (v3 : Int32) (k0 : Int32) (post : Int32 → MS → Prop) : Prop := ((¬ k0 = 0 → wM_lengthen_34 lim σ v1 v2 v3 k0 post) ∧ (k0 = 0 → ((¬ v3 = (v1 + 1) → wM_lengthen_87 lim σ v1 v2 post) ∧ (v3 = (v1 + 1) → wM_lengthen_34 lim σ v1 v2 v3 k0 post))))
def wM_lengthen (lim : Int32) (σ : MS) (v1 : Int32) (v2 : Int32) (post : Int32 → MS → Prop) : Prop := wM_top lim σ  (fun r1 σ1 => ((¬ v1 = ((m_ch σ1) - 1) → wM_lengthen_20 lim σ1 v1 v2 r1 0 post) ∧ (v1 = ((m_ch σ1) - 1) → wM_lengthen_20 lim σ1 v1 v2 r1 1 post)))
def wM_moveTo_73 (lim : Int32) (σ : MS) (v4 : Int32) (v5 : Int32) (post : Int32 → MS → Prop) : Prop := wM_give lim σ v5 (fun σ76 => post v4 σ76)
def wM_moveTo_34_s (lim : Int32) (post : Int32 → MS → Prop) (rc : MS → Int32 → Int32 → Int32 → Int32 → Prop) (σ : MS) (v1 : Int32) (v4 : Int32) (v5 : Int32) (v6 : Int32) : Prop := (vp_in v5 258 ∧ ((((m_sz σ v5.toNatClampNeg) - 1) ≤ v6 → wM_moveTo_73 lim σ v4 v5 post) ∧ (¬ ((m_sz σ v5.toNatClampNeg) - 1) ≤ v6 → (vp_in (v1 + v6) 512 ∧ (vp_in (v4 + v6) 512 ∧ rc (m_sun σ (upd (m_un σ) (v4 + v6).toNatClampNeg (m_un σ (v1 + v6).toNatClampNeg))) v1 v4 v5 (v6 + 1))))))
def wM_moveTo_34 (lim : Int32) (post : Int32 → MS → Prop) : Nat → MS → Int32 → Int32 → Int32 → Int32 → Prop
  | 0 => fun _ _ _ _ _  => False
  | f + 1 => wM_moveTo_34_s lim post (wM_moveTo_34 lim post f)
def wM_moveTo (lim : Int32) (σ : MS) (v1 : Int32) (v2 : Int32) (post : Int32 → MS → Prop) : Prop := wM_take lim σ v2 (fun r2 σ2 => ((0 ≤ r2 → (vp_in r2 258 ∧ wM_at lim σ2 (v1 - 1) (fun r26 σ26 => (∃ f : Nat, wM_moveTo_34 lim post f σ26 v1 ((m_fi σ2 r2.toNatClampNeg) + 1) r26 0)))) ∧ (¬ 0 ≤ r2 → post 0 σ2)))
def wM_realloc_31 (lim : Int32) (σ : MS) (v1 : Int32) (v3 : Int32) (k0 : Int32) (post : Int32 → MS → Prop) : Prop := (vp_in v3 258 ∧ (((m_sz σ v3.toNatClampNeg) < k0 → wM_lengthen lim σ v3 k0 (fun r57 σ57 => ((r57 = 0 → wM_moveTo lim σ57 v1 k0 (fun r71 σ71 => post r71 σ71)) ∧ (¬ r57 = 0 → post v1 σ57)))) ∧ (¬ (m_sz σ v3.toNatClampNeg) < k0 → wM_shorten lim σ v3 k0 (fun σ48 => post v1 σ48))))
def wM_realloc (lim : Int32) (σ : MS) (v1 : Int32) (v2 : Int32) (post : Int32 → MS → Prop) : Prop := wM_holder lim σ v1 (fun r2 σ2 => ((r2 < 0 → post 0 σ2) ∧ (¬ r2 < 0 → ((v2 ≤ 511 → ((1 ≤ v2 → wM_realloc_31 lim σ2 v1 r2 (v2 + 1) post) ∧ (¬ 1 ≤ v2 → wM_realloc_31 lim σ2 v1 r2 2 post))) ∧ (¬ v2 ≤ 511 → post 0 σ2)))))
def wM_align_128 (lim : Int32) (σ : MS) (v3 : Int32) (v5 : Int32) (post : Int32 → MS → Prop) : Prop := wM_at lim σ (v5 - 1) (fun r133 σ133 => wM_shorten lim σ133 r133 (v3 + 1) (fun σ144 => post v5 σ144))
def wM_align_97 (lim : Int32) (σ : MS) (v3 : Int32) (v4 : Int32) (v5 : Int32) (v6 : Int32) (post : Int32 → MS → Prop) : Prop := wM_part lim σ v4 v6 (fun σ102 => (vp_in (v4 + 1) 258 ∧ wM_give lim (m_sus σ102 (upd (m_us σ102) (v4 + 1).toNatClampNeg 1)) v4 (fun σ118 => wM_align_128 lim σ118 v3 (v5 + v6) post)))
def wM_align_81_s (lim : Int32) (post : Int32 → MS → Prop) (rc : MS → Int32 → Int32 → Int32 → Int32 → Int32 → Prop) (σ : MS) (v2 : Int32) (v3 : Int32) (v4 : Int32) (v5 : Int32) (v6 : Int32) : Prop := (¬ v2 = 0 ∧ ((((v5 + v6) - (v5 + v6) / v2 * v2) = 0 → wM_align_97 lim σ v3 v4 v5 v6 post) ∧ (¬ ((v5 + v6) - (v5 + v6) / v2 * v2) = 0 → rc σ v2 v3 v4 v5 (v6 + 1))))
def wM_align_81 (lim : Int32) (post : Int32 → MS → Prop) : Nat → MS → Int32 → Int32 → Int32 → Int32 → Int32 → Prop
  | 0 => fun _ _ _ _ _ _  => False
  | f + 1 => wM_align_81_s lim post (wM_align_81 lim post f)
def wM_align_41 (lim : Int32) (σ : MS) (v2 : Int32) (k0 : Int32) (post : Int32 → MS → Prop) : Prop := wM_take lim σ ((k0 + v2) + 3) (fun r48 σ48 => ((0 ≤ r48 → (vp_in r48 258 ∧ (¬ v2 = 0 ∧ (((((m_fi σ48 r48.toNatClampNeg) + 1) - ((m_fi σ48 r48.toNatClampNeg) + 1) / v2 * v2) = 0 → wM_align_128 lim σ48 k0 ((m_fi σ48 r48.toNatClampNeg) + 1) post) ∧ (¬ (((m_fi σ48 r48.toNatClampNeg) + 1) - ((m_fi σ48 r48.toNatClampNeg) + 1) / v2 * v2) = 0 → (∃ f : Nat, wM_align_81 lim post f σ48 v2 k0 r48 ((m_fi σ48 r48.toNatClampNeg) + 1) 2)))))) ∧ (¬ 0 ≤ r48 → post 0 σ48)))
def wM_align (lim : Int32) (σ : MS) (v1 : Int32) (v2 : Int32) (post : Int32 → MS → Prop) : Prop := ((511 < v1 → post 0 σ) ∧ (¬ 511 < v1 → ((v2 = 2 → ((1 ≤ v1 → wM_align_41 lim σ v2 v1 post) ∧ (¬ 1 ≤ v1 → wM_align_41 lim σ v2 1 post))) ∧ (¬ v2 = 2 → ((v2 = 4 → ((1 ≤ v1 → wM_align_41 lim σ v2 v1 post) ∧ (¬ 1 ≤ v1 → wM_align_41 lim σ v2 1 post))) ∧ (¬ v2 = 4 → ((v2 = 8 → ((1 ≤ v1 → wM_align_41 lim σ v2 v1 post) ∧ (¬ 1 ≤ v1 → wM_align_41 lim σ v2 1 post))) ∧ (¬ v2 = 8 → ((v2 = 16 → ((1 ≤ v1 → wM_align_41 lim σ v2 v1 post) ∧ (¬ 1 ≤ v1 → wM_align_41 lim σ v2 1 post))) ∧ (¬ v2 = 16 → post 0 σ))))))))))
def wM_trim_60 (lim : Int32) (σ : MS) (v2 : Int32) (v3 : Int32) (post : Int32 → MS → Prop) : Prop := (vp_in v2 258 ∧ (vp_in v2 258 ∧ (vp_in v2 258 ∧ ((¬ (m_sz (m_ssz (m_sen σ ((m_en σ) - v3)) (upd (m_sz (m_sen σ ((m_en σ) - v3))) v2.toNatClampNeg ((m_sz (m_sen σ ((m_en σ) - v3)) v2.toNatClampNeg) - v3))) v2.toNatClampNeg) = 0 → post v3 (m_ssz (m_sen σ ((m_en σ) - v3)) (upd (m_sz (m_sen σ ((m_en σ) - v3))) v2.toNatClampNeg ((m_sz (m_sen σ ((m_en σ) - v3)) v2.toNatClampNeg) - v3)))) ∧ ((m_sz (m_ssz (m_sen σ ((m_en σ) - v3)) (upd (m_sz (m_sen σ ((m_en σ) - v3))) v2.toNatClampNeg ((m_sz (m_sen σ ((m_en σ) - v3)) v2.toNatClampNeg) - v3))) v2.toNatClampNeg) = 0 → post v3 (m_sch (m_ssz (m_sen σ ((m_en σ) - v3)) (upd (m_sz (m_sen σ ((m_en σ) - v3))) v2.toNatClampNeg ((m_sz (m_sen σ ((m_en σ) - v3)) v2.toNatClampNeg) - v3))) ((m_ch (m_ssz (m_sen σ ((m_en σ) - v3)) (upd (m_sz (m_sen σ ((m_en σ) - v3))) v2.toNatClampNeg ((m_sz (m_sen σ ((m_en σ) - v3)) v2.toNatClampNeg) - v3)))) - 1)))))))
def wM_trim_24_s (lim : Int32) (post : Int32 → MS → Prop) (rc : MS → Int32 → Int32 → Int32 → Prop) (σ : MS) (v1 : Int32) (v2 : Int32) (v3 : Int32) : Prop := ((v3 ≤ 0 → wM_trim_60 lim σ v2 v3 post) ∧ (¬ v3 ≤ 0 → (vp_in v2 258 ∧ ((((m_sz σ v2.toNatClampNeg) - v3) < v1 → rc σ v1 v2 (v3 - 16)) ∧ (¬ ((m_sz σ v2.toNatClampNeg) - v3) < v1 → (vp_in v2 258 ∧ ((¬ ((m_sz σ v2.toNatClampNeg) - v3) = 1 → wM_trim_60 lim σ v2 v3 post) ∧ (((m_sz σ v2.toNatClampNeg) - v3) = 1 → rc σ v1 v2 (v3 - 16)))))))))
def wM_trim_24 (lim : Int32) (post : Int32 → MS → Prop) : Nat → MS → Int32 → Int32 → Int32 → Prop
  | 0 => fun _ _ _ _  => False
  | f + 1 => wM_trim_24_s lim post (wM_trim_24 lim post f)
def wM_trim (lim : Int32) (σ : MS) (v1 : Int32) (post : Int32 → MS → Prop) : Prop := wM_top lim σ  (fun r1 σ1 => ((0 ≤ r1 → (vp_in r1 258 ∧ (∃ f : Nat, wM_trim_24 lim post f σ1 v1 r1 (((m_sz σ1 r1.toNatClampNeg) / 16) * 16)))) ∧ (¬ 0 ≤ r1 → post 0 σ1)))
def wM_usable (lim : Int32) (σ : MS) (v1 : Int32) (post : Int32 → MS → Prop) : Prop := wM_holder lim σ v1 (fun r2 σ2 => ((0 ≤ r2 → (vp_in r2 258 ∧ post ((m_sz σ2 r2.toNatClampNeg) - 1) σ2)) ∧ (¬ 0 ≤ r2 → post 0 σ2)))
def wM_isData (lim : Int32) (σ : MS) (v1 : Int32) (v2 : Int32) (post : Int32 → MS → Prop) : Prop := ((v2 < 0 → post 0 σ) ∧ (¬ v2 < 0 → wM_usable lim σ v1 (fun r7 σ7 => ((r7 ≤ v2 → post 0 σ7) ∧ (¬ r7 ≤ v2 → post 1 σ7)))))
def wM_read (lim : Int32) (σ : MS) (v1 : Int32) (v2 : Int32) (post : Int32 → MS → Prop) : Prop := wM_isData lim σ v1 v2 (fun r3 σ3 => ((r3 = 0 → post 0 σ3) ∧ (¬ r3 = 0 → (vp_in (v1 + v2) 512 ∧ post (m_un σ3 (v1 + v2).toNatClampNeg) σ3))))
def wM_write (lim : Int32) (σ : MS) (v1 : Int32) (v2 : Int32) (v3 : Int32) (post : Int32 → MS → Prop) : Prop := wM_isData lim σ v1 v2 (fun r3 σ3 => ((¬ r3 = 0 → (vp_in (v1 + v2) 512 ∧ post 1 (m_sun σ3 (upd (m_un σ3) (v1 + v2).toNatClampNeg v3)))) ∧ (r3 = 0 → post 0 σ3)))
def wM_size (lim : Int32) (σ : MS) (v1 : Int32) (post : Int32 → MS → Prop) : Prop := wM_at lim σ v1 (fun r2 σ2 => ((0 ≤ r2 → (vp_in r2 258 ∧ post (m_sz σ2 r2.toNatClampNeg) σ2)) ∧ (¬ 0 ≤ r2 → post (-1) σ2)))
def wM_state (lim : Int32) (σ : MS) (v1 : Int32) (post : Int32 → MS → Prop) : Prop := wM_at lim σ v1 (fun r2 σ2 => ((0 ≤ r2 → wM_stateOf lim σ2 r2 (fun r16 σ16 => post r16 σ16)) ∧ (¬ 0 ≤ r2 → post (-1) σ2)))
def wM_count_26_s (lim : Int32) (post : Int32 → MS → Prop) (rc : MS → Int32 → Int32 → Int32 → Prop) (σ : MS) (v1 : Int32) (v2 : Int32) (v3 : Int32) : Prop := (((m_ch σ) ≤ v3 → post v2 σ) ∧ (¬ (m_ch σ) ≤ v3 → wM_stateOf lim σ v3 (fun r36 σ36 => ((¬ v1 = 0 → ((¬ v1 = 16 → ((¬ r36 = 1 → rc σ36 v1 v2 (v3 + 1)) ∧ (r36 = 1 → (vp_in v3 258 ∧ ((¬ (m_sz σ36 v3.toNatClampNeg) = v1 → rc σ36 v1 v2 (v3 + 1)) ∧ ((m_sz σ36 v3.toNatClampNeg) = v1 → rc σ36 v1 (v2 + 1) (v3 + 1))))))) ∧ (v1 = 16 → ((¬ r36 = 2 → rc σ36 v1 v2 (v3 + 1)) ∧ (r36 = 2 → rc σ36 v1 (v2 + 1) (v3 + 1)))))) ∧ (v1 = 0 → ((¬ r36 = 0 → rc σ36 v1 v2 (v3 + 1)) ∧ (r36 = 0 → rc σ36 v1 (v2 + 1) (v3 + 1))))))))
def wM_count_26 (lim : Int32) (post : Int32 → MS → Prop) : Nat → MS → Int32 → Int32 → Int32 → Prop
  | 0 => fun _ _ _ _  => False
  | f + 1 => wM_count_26_s lim post (wM_count_26 lim post f)
def wM_count (lim : Int32) (σ : MS) (v1 : Int32) (post : Int32 → MS → Prop) : Prop := ((v1 < 0 → post (-1) σ) ∧ (¬ v1 < 0 → ((v1 ≤ 16 → ((¬ v1 = 1 → (∃ f : Nat, wM_count_26 lim post f σ v1 0 0)) ∧ (v1 = 1 → post (m_ch σ) σ))) ∧ (¬ v1 ≤ 16 → post (-1) σ))))
def wM_end (lim : Int32) (σ : MS) (post : Int32 → MS → Prop) : Prop := post (m_en σ) σ
def wM_total_15_s (lim : Int32) (post : Int32 → MS → Prop) (rc : MS → Int32 → Int32 → Int32 → Prop) (σ : MS) (v1 : Int32) (v2 : Int32) (v3 : Int32) : Prop := (((m_ch σ) ≤ v3 → post v2 σ) ∧ (¬ (m_ch σ) ≤ v3 → wM_stateOf lim σ v3 (fun r25 σ25 => ((¬ r25 = v1 → rc σ25 v1 v2 (v3 + 1)) ∧ (r25 = v1 → (vp_in v3 258 ∧ rc σ25 v1 (v2 + (m_sz σ25 v3.toNatClampNeg)) (v3 + 1)))))))
def wM_total_15 (lim : Int32) (post : Int32 → MS → Prop) : Nat → MS → Int32 → Int32 → Int32 → Prop
  | 0 => fun _ _ _ _  => False
  | f + 1 => wM_total_15_s lim post (wM_total_15 lim post f)
def wM_total (lim : Int32) (σ : MS) (v1 : Int32) (post : Int32 → MS → Prop) : Prop := ((v1 < 0 → post (-1) σ) ∧ (¬ v1 < 0 → ((v1 ≤ 4 → (∃ f : Nat, wM_total_15 lim post f σ v1 0 0)) ∧ (¬ v1 ≤ 4 → post (-1) σ))))
end
section
set_option maxHeartbeats 4000000 in
set_option maxRecDepth 100000 in
theorem bM_at_2_f {p : Program} {l : Launch} {e : Env} {s : State} {m : MethodId} {args : Array Value} {below : List Frame} {meth : Method} {c : Code} {D : va_G} {ad : MA} {A : Nat → Prop} (C : m_C p s m args meth c cX1_at 3 (some .int)) {post : Int32 → MS → Prop} : ∀ (f : Nat) (σ : MS) (H : Heap) (locs : List Loc) (ls : Array Slot) (v1 : Int32) (v2 : Int32), m_W D ad σ A s H locs → wM_at_2 (m_lim ad) post f σ v1 v2 → lv_has ls 3 [(0, .ref (m_h ad)), (1, .int v1), (2, .int v2)] → W p l e { frames := 0, cells := 0, slots := 0, locals := 0 } s m args below meth c H locs 0 0 (m_Qi below D ad A args s post) (F0 m 2 ls []) := by
  intro f
  induction f with
  | zero => intro σ H locs ls v1 v2 Wd hf hl; exact False.elim hf
  | succ f ih =>
    intro σ H locs ls v1 v2 Wd hf hl
    replace hf : wM_at_2_s (m_lim ad) post (wM_at_2 (m_lim ad) post f) σ v1 v2 := hf
    refine lv_iload_n C.1 C.2.1 dX1_at_2 rfl (lv_at hl 2 rfl) ?_
    refine lv_aload_n C.1 C.2.1 dX1_at_3 rfl (lv_at hl 0 rfl) ?_
    refine m_get_ch C Wd dX1_at_4 ?_
    refine lv_icmp_ge (tgt := 28) C.1 C.2.1 dX1_at_7 (by decide) (fun hc => ?_) (fun hc => ?_)
    · replace hf := hf.1 hc
      refine lv_iconst (v := (-1)) C.1 C.2.1 dX1_at_28 (by decide) ?_
      exact m_iret C Wd hf dX1_at_29
    · replace hf := hf.2 hc
      refine lv_aload_n C.1 C.2.1 dX1_at_10 rfl (lv_at hl 0 rfl) ?_
      refine m_get_fi C Wd dX1_at_11 ?_
      refine lv_iload_n C.1 C.2.1 dX1_at_14 rfl (lv_at hl 2 rfl) ?_
      refine m_ald_fi C Wd hf.1 dX1_at_15 ?_
      replace hf := hf.2
      refine lv_iload_n C.1 C.2.1 dX1_at_16 rfl (lv_at hl 1 rfl) ?_
      refine lv_icmp_ne (tgt := 22) C.1 C.2.1 dX1_at_17 (by decide) (fun hc => ?_) (fun hc => ?_)
      · replace hf := hf.1 hc
        refine lv_iinc (v := v2 + 1) (lv' := [(2, .int (v2 + 1)), (0, .ref (m_h ad)), (1, .int v1)]) C.1 C.2.1 dX1_at_22 hl (k := 2) rfl rfl (by decide) rfl (fun ls hl => ?_)
        refine lv_goto (tgt := 2) C.1 C.2.1 dX1_at_25 (by decide) ?_
        exact ih _ _ _ _ _ _  Wd hf (lv_sub hl [1, 2, 0] rfl)
      · replace hf := hf.2 hc
        refine lv_iload_n C.1 C.2.1 dX1_at_20 rfl (lv_at hl 2 rfl) ?_
        exact m_iret C Wd hf dX1_at_21
theorem bM_at_2 {p : Program} {l : Launch} {e : Env} {s : State} {m : MethodId} {args : Array Value} {below : List Frame} {meth : Method} {c : Code} {D : va_G} {ad : MA} {A : Nat → Prop} (C : m_C p s m args meth c cX1_at 3 (some .int)) {post : Int32 → MS → Prop} {σ : MS} {H : Heap} {locs : List Loc} {ls : Array Slot} {v1 : Int32} {v2 : Int32} (Wd : m_W D ad σ A s H locs) (hf : ∃ f : Nat, wM_at_2 (m_lim ad) post f σ v1 v2) (hl : lv_has ls 3 [(0, .ref (m_h ad)), (1, .int v1), (2, .int v2)]) : W p l e { frames := 0, cells := 0, slots := 0, locals := 0 } s m args below meth c H locs 0 0 (m_Qi below D ad A args s post) (F0 m 2 ls []) := by
  obtain ⟨f, hf⟩ := hf
  exact bM_at_2_f C f σ H locs ls v1 v2 Wd hf hl
set_option maxHeartbeats 4000000 in
set_option maxRecDepth 100000 in
theorem cM_at (l : Launch) (D : va_G) (ad : MA) (v1 : Int32) : m_Mi l D yX1_at cX1_at 3 (some .int) { frames := 0, cells := 0, slots := 0, locals := 0 } ad [.ref (m_h ad), .int v1] (fun σ post => wM_at (m_lim ad) σ v1 post) := by
  refine m_ofi ⟨by decide, rfl, Nat.le_of_ble_eq_true rfl⟩ (fun {p e s m args below meth c σ A post ls} C Wd hf hl => ?_)
  replace hl : lv_has ls 3 [(0, .ref (m_h ad)), (1, .int v1)] := hl
  refine lv_iconst (v := 0) C.1 C.2.1 dX1_at_0 (by decide) ?_
  refine lv_istore_n (lv' := [(2, .int 0), (0, .ref (m_h ad)), (1, .int v1)]) C.1 C.2.1 dX1_at_1 rfl hl (by decide) rfl (fun ls hl => ?_)
  exact bM_at_2 C Wd hf (lv_sub hl [1, 2, 0] rfl)
set_option maxHeartbeats 4000000 in
set_option maxRecDepth 100000 in
theorem bM_holder_16 {p : Program} {l : Launch} {e : Env} {s : State} {m : MethodId} {args : Array Value} {below : List Frame} {meth : Method} {c : Code} {D : va_G} {ad : MA} {A : Nat → Prop} (C : m_C p s m args meth c cX1_holder 3 (some .int)) {post : Int32 → MS → Prop} {σ : MS} {H : Heap} {locs : List Loc} {ls : Array Slot} {k0 : Int32} (Wd : m_W D ad σ A s H locs) (hf : wM_holder_16 (m_lim ad) σ k0 post) (hl : lv_has ls 3 [(0, .ref (m_h ad))]) : W p l e { frames := 1, cells := 0, slots := 0, locals := 22 } s m args below meth c H locs 0 0 (m_Qi below D ad A args s post) (F0 m 16 ls [.int k0]) := by
  refine lv_istore_n (lv' := [(2, .int k0), (0, .ref (m_h ad))]) C.1 C.2.1 dX1_holder_16 rfl hl (by decide) rfl (fun ls hl => ?_)
  refine lv_iload_n C.1 C.2.1 dX1_holder_17 rfl (lv_at hl 0 rfl) ?_
  refine lv_if_lt (tgt := 34) C.1 C.2.1 dX1_holder_18 (by decide) (fun hc => ?_) (fun hc => ?_)
  · replace hf := hf.1 hc
    refine lv_iconst (v := (-1)) C.1 C.2.1 dX1_holder_34 (by decide) ?_
    exact m_iret C Wd hf dX1_holder_35
  · replace hf := hf.2 hc
    refine lv_aload_n C.1 C.2.1 dX1_holder_21 rfl (lv_at hl 1 rfl) ?_
    refine m_get_us C Wd dX1_holder_22 ?_
    refine lv_iload_n C.1 C.2.1 dX1_holder_25 rfl (lv_at hl 0 rfl) ?_
    refine m_ald_us C Wd hf.1 dX1_holder_26 ?_
    replace hf := hf.2
    refine lv_if_eq (tgt := 34) C.1 C.2.1 dX1_holder_27 (by decide) (fun hc => ?_) (fun hc => ?_)
    · replace hf := hf.1 hc
      refine lv_iconst (v := (-1)) C.1 C.2.1 dX1_holder_34 (by decide) ?_
      exact m_iret C Wd hf dX1_holder_35
    · replace hf := hf.2 hc
      refine lv_iload_n C.1 C.2.1 dX1_holder_30 rfl (lv_at hl 0 rfl) ?_
      refine lv_goto (tgt := 35) C.1 C.2.1 dX1_holder_31 (by decide) ?_
      exact m_iret C Wd hf dX1_holder_35
set_option maxHeartbeats 4000000 in
set_option maxRecDepth 100000 in
theorem cM_holder (l : Launch) (D : va_G) (ad : MA) (v1 : Int32) : m_Mi l D yX1_holder cX1_holder 3 (some .int) { frames := 1, cells := 0, slots := 0, locals := 22 } ad [.ref (m_h ad), .int v1] (fun σ post => wM_holder (m_lim ad) σ v1 post) := by
  refine m_ofi ⟨by decide, rfl, Nat.le_of_ble_eq_true rfl⟩ (fun {p e s m args below meth c σ A post ls} C Wd hf hl => ?_)
  replace hl : lv_has ls 3 [(0, .ref (m_h ad)), (1, .int v1)] := hl
  refine lv_iload_n C.1 C.2.1 dX1_holder_0 rfl (lv_at hl 1 rfl) ?_
  refine lv_iconst (v := 1) C.1 C.2.1 dX1_holder_1 (by decide) ?_
  refine lv_icmp_ge (tgt := 9) C.1 C.2.1 dX1_holder_2 (by decide) (fun hc => ?_) (fun hc => ?_)
  · replace hf := hf.1 hc
    refine lv_aload_n C.1 C.2.1 dX1_holder_9 rfl (lv_at hl 0 rfl) ?_
    refine lv_iload_n C.1 C.2.1 dX1_holder_10 rfl (lv_at hl 1 rfl) ?_
    refine lv_iconst (v := 1) C.1 C.2.1 dX1_holder_11 (by decide) ?_
    refine lv_isub C.1 C.2.1 dX1_holder_12 ?_
    refine m_calliv (As := [.int (v1 - 1)]) (rest := []) C Wd (cM_at l D ad (v1 - 1)) sM_at (by decide) rfl hl.1 rfl (Nat.le_of_ble_eq_true rfl) (by decide) dX1_holder_13 hf (fun r13 σ13 H locs hf Wd => ?_)
    exact bM_holder_16 C Wd hf (lv_sub hl [0] rfl)
  · replace hf := hf.2 hc
    refine lv_iconst (v := (-1)) C.1 C.2.1 dX1_holder_5 (by decide) ?_
    refine lv_goto (tgt := 16) C.1 C.2.1 dX1_holder_6 (by decide) ?_
    exact bM_holder_16 C Wd hf (lv_sub hl [0] rfl)
set_option maxHeartbeats 4000000 in
set_option maxRecDepth 100000 in
theorem cM_stateOf (l : Launch) (D : va_G) (ad : MA) (v1 : Int32) : m_Mi l D yX1_stateOf cX1_stateOf 2 (some .int) { frames := 0, cells := 0, slots := 0, locals := 0 } ad [.ref (m_h ad), .int v1] (fun σ post => wM_stateOf (m_lim ad) σ v1 post) := by
  refine m_ofi ⟨by decide, rfl, Nat.le_of_ble_eq_true rfl⟩ (fun {p e s m args below meth c σ A post ls} C Wd hf hl => ?_)
  replace hl : lv_has ls 2 [(0, .ref (m_h ad)), (1, .int v1)] := hl
  refine lv_aload_n C.1 C.2.1 dX1_stateOf_0 rfl (lv_at hl 0 rfl) ?_
  refine m_get_us C Wd dX1_stateOf_1 ?_
  refine lv_iload_n C.1 C.2.1 dX1_stateOf_4 rfl (lv_at hl 1 rfl) ?_
  refine m_ald_us C Wd hf.1 dX1_stateOf_5 ?_
  replace hf := hf.2
  refine lv_if_eq (tgt := 13) C.1 C.2.1 dX1_stateOf_6 (by decide) (fun hc => ?_) (fun hc => ?_)
  · replace hf := hf.1 hc
    refine lv_aload_n C.1 C.2.1 dX1_stateOf_13 rfl (lv_at hl 0 rfl) ?_
    refine m_get_fi C Wd dX1_stateOf_14 ?_
    refine lv_iload_n C.1 C.2.1 dX1_stateOf_17 rfl (lv_at hl 1 rfl) ?_
    refine m_ald_fi C Wd hf.1 dX1_stateOf_18 ?_
    replace hf := hf.2
    refine lv_aload_n C.1 C.2.1 dX1_stateOf_19 rfl (lv_at hl 0 rfl) ?_
    refine m_get_sz C Wd dX1_stateOf_20 ?_
    refine lv_iload_n C.1 C.2.1 dX1_stateOf_23 rfl (lv_at hl 1 rfl) ?_
    refine m_ald_sz C Wd hf.1 dX1_stateOf_24 ?_
    replace hf := hf.2
    refine lv_iadd C.1 C.2.1 dX1_stateOf_25 ?_
    refine lv_aload_n C.1 C.2.1 dX1_stateOf_26 rfl (lv_at hl 0 rfl) ?_
    refine m_get_en C Wd dX1_stateOf_27 ?_
    refine lv_icmp_ne (tgt := 37) C.1 C.2.1 dX1_stateOf_30 (by decide) (fun hc => ?_) (fun hc => ?_)
    · replace hf := hf.1 hc
      refine lv_aload_n C.1 C.2.1 dX1_stateOf_37 rfl (lv_at hl 0 rfl) ?_
      refine m_get_fi C Wd dX1_stateOf_38 ?_
      refine lv_iload_n C.1 C.2.1 dX1_stateOf_41 rfl (lv_at hl 1 rfl) ?_
      refine m_ald_fi C Wd hf.1 dX1_stateOf_42 ?_
      replace hf := hf.2
      refine lv_aload_n C.1 C.2.1 dX1_stateOf_43 rfl (lv_at hl 0 rfl) ?_
      refine m_get_vi C Wd dX1_stateOf_44 ?_
      refine lv_icmp_ne (tgt := 54) C.1 C.2.1 dX1_stateOf_47 (by decide) (fun hc => ?_) (fun hc => ?_)
      · replace hf := hf.1 hc
        refine lv_aload_n C.1 C.2.1 dX1_stateOf_54 rfl (lv_at hl 0 rfl) ?_
        refine m_get_sz C Wd dX1_stateOf_55 ?_
        refine lv_iload_n C.1 C.2.1 dX1_stateOf_58 rfl (lv_at hl 1 rfl) ?_
        refine m_ald_sz C Wd hf.1 dX1_stateOf_59 ?_
        replace hf := hf.2
        refine lv_bipush (v := 16) C.1 C.2.1 dX1_stateOf_60 (by decide) ?_
        refine lv_icmp_ge (tgt := 69) C.1 C.2.1 dX1_stateOf_62 (by decide) (fun hc => ?_) (fun hc => ?_)
        · replace hf := hf.1 hc
          refine lv_iconst (v := 2) C.1 C.2.1 dX1_stateOf_69 (by decide) ?_
          exact m_iret C Wd hf dX1_stateOf_70
        · replace hf := hf.2 hc
          refine lv_iconst (v := 1) C.1 C.2.1 dX1_stateOf_65 (by decide) ?_
          refine lv_goto (tgt := 70) C.1 C.2.1 dX1_stateOf_66 (by decide) ?_
          exact m_iret C Wd hf dX1_stateOf_70
      · replace hf := hf.2 hc
        refine lv_iconst (v := 3) C.1 C.2.1 dX1_stateOf_50 (by decide) ?_
        refine lv_goto (tgt := 70) C.1 C.2.1 dX1_stateOf_51 (by decide) ?_
        exact m_iret C Wd hf dX1_stateOf_70
    · replace hf := hf.2 hc
      refine lv_iconst (v := 4) C.1 C.2.1 dX1_stateOf_33 (by decide) ?_
      refine lv_goto (tgt := 70) C.1 C.2.1 dX1_stateOf_34 (by decide) ?_
      exact m_iret C Wd hf dX1_stateOf_70
  · replace hf := hf.2 hc
    refine lv_iconst (v := 0) C.1 C.2.1 dX1_stateOf_9 (by decide) ?_
    refine lv_goto (tgt := 70) C.1 C.2.1 dX1_stateOf_10 (by decide) ?_
    exact m_iret C Wd hf dX1_stateOf_70
set_option maxHeartbeats 4000000 in
set_option maxRecDepth 100000 in
theorem cM_top (l : Launch) (D : va_G) (ad : MA) : m_Mi l D yX1_top cX1_top 1 (some .int) { frames := 0, cells := 0, slots := 0, locals := 0 } ad [.ref (m_h ad)] (fun σ post => wM_top (m_lim ad) σ  post) := by
  refine m_ofi ⟨by decide, rfl, Nat.le_of_ble_eq_true rfl⟩ (fun {p e s m args below meth c σ A post ls} C Wd hf hl => ?_)
  replace hl : lv_has ls 1 [(0, .ref (m_h ad))] := hl
  refine lv_aload_n C.1 C.2.1 dX1_top_0 rfl (lv_at hl 0 rfl) ?_
  refine m_get_ch C Wd dX1_top_1 ?_
  refine lv_if_le (tgt := 30) C.1 C.2.1 dX1_top_4 (by decide) (fun hc => ?_) (fun hc => ?_)
  · replace hf := hf.1 hc
    refine lv_iconst (v := (-1)) C.1 C.2.1 dX1_top_30 (by decide) ?_
    exact m_iret C Wd hf dX1_top_31
  · replace hf := hf.2 hc
    refine lv_aload_n C.1 C.2.1 dX1_top_7 rfl (lv_at hl 0 rfl) ?_
    refine m_get_us C Wd dX1_top_8 ?_
    refine lv_aload_n C.1 C.2.1 dX1_top_11 rfl (lv_at hl 0 rfl) ?_
    refine m_get_ch C Wd dX1_top_12 ?_
    refine lv_iconst (v := 1) C.1 C.2.1 dX1_top_15 (by decide) ?_
    refine lv_isub C.1 C.2.1 dX1_top_16 ?_
    refine m_ald_us C Wd hf.1 dX1_top_17 ?_
    replace hf := hf.2
    refine lv_if_ne (tgt := 30) C.1 C.2.1 dX1_top_18 (by decide) (fun hc => ?_) (fun hc => ?_)
    · replace hf := hf.1 hc
      refine lv_iconst (v := (-1)) C.1 C.2.1 dX1_top_30 (by decide) ?_
      exact m_iret C Wd hf dX1_top_31
    · replace hf := hf.2 hc
      refine lv_aload_n C.1 C.2.1 dX1_top_21 rfl (lv_at hl 0 rfl) ?_
      refine m_get_ch C Wd dX1_top_22 ?_
      refine lv_iconst (v := 1) C.1 C.2.1 dX1_top_25 (by decide) ?_
      refine lv_isub C.1 C.2.1 dX1_top_26 ?_
      refine lv_goto (tgt := 31) C.1 C.2.1 dX1_top_27 (by decide) ?_
      exact m_iret C Wd hf dX1_top_31
set_option maxHeartbeats 4000000 in
set_option maxRecDepth 100000 in
theorem bM_part_74 {p : Program} {l : Launch} {e : Env} {s : State} {m : MethodId} {args : Array Value} {below : List Frame} {meth : Method} {c : Code} {D : va_G} {ad : MA} {A : Nat → Prop} (C : m_C p s m args meth c cX1_part 4 none) {post : MS → Prop} {σ : MS} {H : Heap} {locs : List Loc} {ls : Array Slot} {v1 : Int32} {v2 : Int32} (Wd : m_W D ad σ A s H locs) (hf : wM_part_74 (m_lim ad) σ v1 v2 post) (hl : lv_has ls 4 [(0, .ref (m_h ad)), (1, .int v1), (2, .int v2)]) : W p l e { frames := 0, cells := 0, slots := 0, locals := 0 } s m args below meth c H locs 0 0 (m_Qv below D ad A args s post) (F0 m 74 ls []) := by
  refine lv_aload_n C.1 C.2.1 dX1_part_74 rfl (lv_at hl 0 rfl) ?_
  refine lv_dup C.1 C.2.1 dX1_part_75 rfl ?_
  refine m_get_ch C Wd dX1_part_76 ?_
  refine lv_iconst (v := 1) C.1 C.2.1 dX1_part_79 (by decide) ?_
  refine lv_iadd C.1 C.2.1 dX1_part_80 ?_
  refine m_put_ch C Wd dX1_part_81 (fun H locs Wd => ?_)
  refine lv_aload_n C.1 C.2.1 dX1_part_84 rfl (lv_at hl 0 rfl) ?_
  refine m_get_fi C Wd dX1_part_85 ?_
  refine lv_iload_n C.1 C.2.1 dX1_part_88 rfl (lv_at hl 1 rfl) ?_
  refine lv_iconst (v := 1) C.1 C.2.1 dX1_part_89 (by decide) ?_
  refine lv_iadd C.1 C.2.1 dX1_part_90 ?_
  refine lv_aload_n C.1 C.2.1 dX1_part_91 rfl (lv_at hl 0 rfl) ?_
  refine m_get_fi C Wd dX1_part_92 ?_
  refine lv_iload_n C.1 C.2.1 dX1_part_95 rfl (lv_at hl 1 rfl) ?_
  refine m_ald_fi C Wd hf.1 dX1_part_96 ?_
  replace hf := hf.2
  refine lv_iload_n C.1 C.2.1 dX1_part_97 rfl (lv_at hl 2 rfl) ?_
  refine lv_iadd C.1 C.2.1 dX1_part_98 ?_
  refine m_ast_fi C Wd hf.1 dX1_part_99 (fun H locs Wd => ?_)
  replace hf := hf.2
  refine lv_aload_n C.1 C.2.1 dX1_part_100 rfl (lv_at hl 0 rfl) ?_
  refine m_get_sz C Wd dX1_part_101 ?_
  refine lv_iload_n C.1 C.2.1 dX1_part_104 rfl (lv_at hl 1 rfl) ?_
  refine lv_iconst (v := 1) C.1 C.2.1 dX1_part_105 (by decide) ?_
  refine lv_iadd C.1 C.2.1 dX1_part_106 ?_
  refine lv_aload_n C.1 C.2.1 dX1_part_107 rfl (lv_at hl 0 rfl) ?_
  refine m_get_sz C Wd dX1_part_108 ?_
  refine lv_iload_n C.1 C.2.1 dX1_part_111 rfl (lv_at hl 1 rfl) ?_
  refine m_ald_sz C Wd hf.1 dX1_part_112 ?_
  replace hf := hf.2
  refine lv_iload_n C.1 C.2.1 dX1_part_113 rfl (lv_at hl 2 rfl) ?_
  refine lv_isub C.1 C.2.1 dX1_part_114 ?_
  refine m_ast_sz C Wd hf.1 dX1_part_115 (fun H locs Wd => ?_)
  replace hf := hf.2
  refine lv_aload_n C.1 C.2.1 dX1_part_116 rfl (lv_at hl 0 rfl) ?_
  refine m_get_us C Wd dX1_part_117 ?_
  refine lv_iload_n C.1 C.2.1 dX1_part_120 rfl (lv_at hl 1 rfl) ?_
  refine lv_iconst (v := 1) C.1 C.2.1 dX1_part_121 (by decide) ?_
  refine lv_iadd C.1 C.2.1 dX1_part_122 ?_
  refine lv_iconst (v := 0) C.1 C.2.1 dX1_part_123 (by decide) ?_
  refine m_ast_us C Wd hf.1 rfl dX1_part_124 (fun H locs Wd => ?_)
  replace hf := hf.2
  refine lv_aload_n C.1 C.2.1 dX1_part_125 rfl (lv_at hl 0 rfl) ?_
  refine m_get_ca C Wd dX1_part_126 ?_
  refine lv_iload_n C.1 C.2.1 dX1_part_129 rfl (lv_at hl 1 rfl) ?_
  refine lv_iconst (v := 1) C.1 C.2.1 dX1_part_130 (by decide) ?_
  refine lv_iadd C.1 C.2.1 dX1_part_131 ?_
  refine lv_iconst (v := 0) C.1 C.2.1 dX1_part_132 (by decide) ?_
  refine m_ast_ca C Wd hf.1 dX1_part_133 (fun H locs Wd => ?_)
  replace hf := hf.2
  refine lv_aload_n C.1 C.2.1 dX1_part_134 rfl (lv_at hl 0 rfl) ?_
  refine m_get_sz C Wd dX1_part_135 ?_
  refine lv_iload_n C.1 C.2.1 dX1_part_138 rfl (lv_at hl 1 rfl) ?_
  refine lv_iload_n C.1 C.2.1 dX1_part_139 rfl (lv_at hl 2 rfl) ?_
  refine m_ast_sz C Wd hf.1 dX1_part_140 (fun H locs Wd => ?_)
  replace hf := hf.2
  exact m_vret C Wd hf dX1_part_141
set_option maxHeartbeats 4000000 in
set_option maxRecDepth 100000 in
theorem bM_part_5_f {p : Program} {l : Launch} {e : Env} {s : State} {m : MethodId} {args : Array Value} {below : List Frame} {meth : Method} {c : Code} {D : va_G} {ad : MA} {A : Nat → Prop} (C : m_C p s m args meth c cX1_part 4 none) {post : MS → Prop} : ∀ (f : Nat) (σ : MS) (H : Heap) (locs : List Loc) (ls : Array Slot) (v1 : Int32) (v2 : Int32) (v3 : Int32), m_W D ad σ A s H locs → wM_part_5 (m_lim ad) post f σ v1 v2 v3 → lv_has ls 4 [(0, .ref (m_h ad)), (1, .int v1), (2, .int v2), (3, .int v3)] → W p l e { frames := 0, cells := 0, slots := 0, locals := 0 } s m args below meth c H locs 0 0 (m_Qv below D ad A args s post) (F0 m 5 ls []) := by
  intro f
  induction f with
  | zero => intro σ H locs ls v1 v2 v3 Wd hf hl; exact False.elim hf
  | succ f ih =>
    intro σ H locs ls v1 v2 v3 Wd hf hl
    replace hf : wM_part_5_s (m_lim ad) post (wM_part_5 (m_lim ad) post f) σ v1 v2 v3 := hf
    refine lv_iload_n C.1 C.2.1 dX1_part_5 rfl (lv_at hl 3 rfl) ?_
    refine lv_iload_n C.1 C.2.1 dX1_part_6 rfl (lv_at hl 1 rfl) ?_
    refine lv_iconst (v := 1) C.1 C.2.1 dX1_part_7 (by decide) ?_
    refine lv_iadd C.1 C.2.1 dX1_part_8 ?_
    refine lv_icmp_le (tgt := 74) C.1 C.2.1 dX1_part_9 (by decide) (fun hc => ?_) (fun hc => ?_)
    · replace hf := hf.1 hc
      exact bM_part_74 C Wd hf (lv_sub hl [0, 1, 2] rfl)
    · replace hf := hf.2 hc
      refine lv_aload_n C.1 C.2.1 dX1_part_12 rfl (lv_at hl 0 rfl) ?_
      refine m_get_fi C Wd dX1_part_13 ?_
      refine lv_iload_n C.1 C.2.1 dX1_part_16 rfl (lv_at hl 3 rfl) ?_
      refine lv_aload_n C.1 C.2.1 dX1_part_17 rfl (lv_at hl 0 rfl) ?_
      refine m_get_fi C Wd dX1_part_18 ?_
      refine lv_iload_n C.1 C.2.1 dX1_part_21 rfl (lv_at hl 3 rfl) ?_
      refine lv_iconst (v := 1) C.1 C.2.1 dX1_part_22 (by decide) ?_
      refine lv_isub C.1 C.2.1 dX1_part_23 ?_
      refine m_ald_fi C Wd hf.1 dX1_part_24 ?_
      replace hf := hf.2
      refine m_ast_fi C Wd hf.1 dX1_part_25 (fun H locs Wd => ?_)
      replace hf := hf.2
      refine lv_aload_n C.1 C.2.1 dX1_part_26 rfl (lv_at hl 0 rfl) ?_
      refine m_get_sz C Wd dX1_part_27 ?_
      refine lv_iload_n C.1 C.2.1 dX1_part_30 rfl (lv_at hl 3 rfl) ?_
      refine lv_aload_n C.1 C.2.1 dX1_part_31 rfl (lv_at hl 0 rfl) ?_
      refine m_get_sz C Wd dX1_part_32 ?_
      refine lv_iload_n C.1 C.2.1 dX1_part_35 rfl (lv_at hl 3 rfl) ?_
      refine lv_iconst (v := 1) C.1 C.2.1 dX1_part_36 (by decide) ?_
      refine lv_isub C.1 C.2.1 dX1_part_37 ?_
      refine m_ald_sz C Wd hf.1 dX1_part_38 ?_
      replace hf := hf.2
      refine m_ast_sz C Wd hf.1 dX1_part_39 (fun H locs Wd => ?_)
      replace hf := hf.2
      refine lv_aload_n C.1 C.2.1 dX1_part_40 rfl (lv_at hl 0 rfl) ?_
      refine m_get_us C Wd dX1_part_41 ?_
      refine lv_iload_n C.1 C.2.1 dX1_part_44 rfl (lv_at hl 3 rfl) ?_
      refine lv_aload_n C.1 C.2.1 dX1_part_45 rfl (lv_at hl 0 rfl) ?_
      refine m_get_us C Wd dX1_part_46 ?_
      refine lv_iload_n C.1 C.2.1 dX1_part_49 rfl (lv_at hl 3 rfl) ?_
      refine lv_iconst (v := 1) C.1 C.2.1 dX1_part_50 (by decide) ?_
      refine lv_isub C.1 C.2.1 dX1_part_51 ?_
      refine m_ald_us C Wd hf.1 dX1_part_52 ?_
      replace hf := hf.2
      refine m_ast_us C Wd hf.1 rfl dX1_part_53 (fun H locs Wd => ?_)
      replace hf := hf.2
      refine lv_aload_n C.1 C.2.1 dX1_part_54 rfl (lv_at hl 0 rfl) ?_
      refine m_get_ca C Wd dX1_part_55 ?_
      refine lv_iload_n C.1 C.2.1 dX1_part_58 rfl (lv_at hl 3 rfl) ?_
      refine lv_aload_n C.1 C.2.1 dX1_part_59 rfl (lv_at hl 0 rfl) ?_
      refine m_get_ca C Wd dX1_part_60 ?_
      refine lv_iload_n C.1 C.2.1 dX1_part_63 rfl (lv_at hl 3 rfl) ?_
      refine lv_iconst (v := 1) C.1 C.2.1 dX1_part_64 (by decide) ?_
      refine lv_isub C.1 C.2.1 dX1_part_65 ?_
      refine m_ald_ca C Wd hf.1 dX1_part_66 ?_
      replace hf := hf.2
      refine m_ast_ca C Wd hf.1 dX1_part_67 (fun H locs Wd => ?_)
      replace hf := hf.2
      refine lv_iinc (v := v3 + (-1)) (lv' := [(3, .int (v3 + (-1))), (0, .ref (m_h ad)), (1, .int v1), (2, .int v2)]) C.1 C.2.1 dX1_part_68 hl (k := 3) rfl rfl (by decide) rfl (fun ls hl => ?_)
      refine lv_goto (tgt := 5) C.1 C.2.1 dX1_part_71 (by decide) ?_
      exact ih _ _ _ _ _ _ _  Wd hf (lv_sub hl [1, 2, 3, 0] rfl)
theorem bM_part_5 {p : Program} {l : Launch} {e : Env} {s : State} {m : MethodId} {args : Array Value} {below : List Frame} {meth : Method} {c : Code} {D : va_G} {ad : MA} {A : Nat → Prop} (C : m_C p s m args meth c cX1_part 4 none) {post : MS → Prop} {σ : MS} {H : Heap} {locs : List Loc} {ls : Array Slot} {v1 : Int32} {v2 : Int32} {v3 : Int32} (Wd : m_W D ad σ A s H locs) (hf : ∃ f : Nat, wM_part_5 (m_lim ad) post f σ v1 v2 v3) (hl : lv_has ls 4 [(0, .ref (m_h ad)), (1, .int v1), (2, .int v2), (3, .int v3)]) : W p l e { frames := 0, cells := 0, slots := 0, locals := 0 } s m args below meth c H locs 0 0 (m_Qv below D ad A args s post) (F0 m 5 ls []) := by
  obtain ⟨f, hf⟩ := hf
  exact bM_part_5_f C f σ H locs ls v1 v2 v3 Wd hf hl
set_option maxHeartbeats 4000000 in
set_option maxRecDepth 100000 in
theorem cM_part (l : Launch) (D : va_G) (ad : MA) (v1 : Int32) (v2 : Int32) : m_Mv l D yX1_part cX1_part 4 none { frames := 0, cells := 0, slots := 0, locals := 0 } ad [.ref (m_h ad), .int v1, .int v2] (fun σ post => wM_part (m_lim ad) σ v1 v2 post) := by
  refine m_ofv ⟨by decide, rfl, Nat.le_of_ble_eq_true rfl⟩ (fun {p e s m args below meth c σ A post ls} C Wd hf hl => ?_)
  replace hl : lv_has ls 4 [(0, .ref (m_h ad)), (1, .int v1), (2, .int v2)] := hl
  refine lv_aload_n C.1 C.2.1 dX1_part_0 rfl (lv_at hl 0 rfl) ?_
  refine m_get_ch C Wd dX1_part_1 ?_
  refine lv_istore_n (lv' := [(3, .int (m_ch σ)), (0, .ref (m_h ad)), (1, .int v1), (2, .int v2)]) C.1 C.2.1 dX1_part_4 rfl hl (by decide) rfl (fun ls hl => ?_)
  exact bM_part_5 C Wd hf (lv_sub hl [1, 2, 3, 0] rfl)
end
section
set_option maxHeartbeats 4000000 in
set_option maxRecDepth 100000 in
theorem bM_join_97 {p : Program} {l : Launch} {e : Env} {s : State} {m : MethodId} {args : Array Value} {below : List Frame} {meth : Method} {c : Code} {D : va_G} {ad : MA} {A : Nat → Prop} (C : m_C p s m args meth c cX1_join 3 none) {post : MS → Prop} {σ : MS} {H : Heap} {locs : List Loc} {ls : Array Slot} (Wd : m_W D ad σ A s H locs) (hf : wM_join_97 (m_lim ad) σ  post) (hl : lv_has ls 3 [(0, .ref (m_h ad))]) : W p l e { frames := 0, cells := 0, slots := 0, locals := 0 } s m args below meth c H locs 0 0 (m_Qv below D ad A args s post) (F0 m 97 ls []) := by
  refine lv_aload_n C.1 C.2.1 dX1_join_97 rfl (lv_at hl 0 rfl) ?_
  refine lv_dup C.1 C.2.1 dX1_join_98 rfl ?_
  refine m_get_ch C Wd dX1_join_99 ?_
  refine lv_iconst (v := 1) C.1 C.2.1 dX1_join_102 (by decide) ?_
  refine lv_isub C.1 C.2.1 dX1_join_103 ?_
  refine m_put_ch C Wd dX1_join_104 (fun H locs Wd => ?_)
  exact m_vret C Wd hf dX1_join_107
set_option maxHeartbeats 4000000 in
set_option maxRecDepth 100000 in
theorem bM_join_25_f {p : Program} {l : Launch} {e : Env} {s : State} {m : MethodId} {args : Array Value} {below : List Frame} {meth : Method} {c : Code} {D : va_G} {ad : MA} {A : Nat → Prop} (C : m_C p s m args meth c cX1_join 3 none) {post : MS → Prop} : ∀ (f : Nat) (σ : MS) (H : Heap) (locs : List Loc) (ls : Array Slot) (v2 : Int32), m_W D ad σ A s H locs → wM_join_25 (m_lim ad) post f σ v2 → lv_has ls 3 [(0, .ref (m_h ad)), (2, .int v2)] → W p l e { frames := 0, cells := 0, slots := 0, locals := 0 } s m args below meth c H locs 0 0 (m_Qv below D ad A args s post) (F0 m 25 ls []) := by
  intro f
  induction f with
  | zero => intro σ H locs ls v2 Wd hf hl; exact False.elim hf
  | succ f ih =>
    intro σ H locs ls v2 Wd hf hl
    replace hf : wM_join_25_s (m_lim ad) post (wM_join_25 (m_lim ad) post f) σ v2 := hf
    refine lv_iload_n C.1 C.2.1 dX1_join_25 rfl (lv_at hl 1 rfl) ?_
    refine lv_iconst (v := 1) C.1 C.2.1 dX1_join_26 (by decide) ?_
    refine lv_iadd C.1 C.2.1 dX1_join_27 ?_
    refine lv_aload_n C.1 C.2.1 dX1_join_28 rfl (lv_at hl 0 rfl) ?_
    refine m_get_ch C Wd dX1_join_29 ?_
    refine lv_icmp_ge (tgt := 97) C.1 C.2.1 dX1_join_32 (by decide) (fun hc => ?_) (fun hc => ?_)
    · replace hf := hf.1 hc
      exact bM_join_97 C Wd hf (lv_sub hl [0] rfl)
    · replace hf := hf.2 hc
      refine lv_aload_n C.1 C.2.1 dX1_join_35 rfl (lv_at hl 0 rfl) ?_
      refine m_get_fi C Wd dX1_join_36 ?_
      refine lv_iload_n C.1 C.2.1 dX1_join_39 rfl (lv_at hl 1 rfl) ?_
      refine lv_aload_n C.1 C.2.1 dX1_join_40 rfl (lv_at hl 0 rfl) ?_
      refine m_get_fi C Wd dX1_join_41 ?_
      refine lv_iload_n C.1 C.2.1 dX1_join_44 rfl (lv_at hl 1 rfl) ?_
      refine lv_iconst (v := 1) C.1 C.2.1 dX1_join_45 (by decide) ?_
      refine lv_iadd C.1 C.2.1 dX1_join_46 ?_
      refine m_ald_fi C Wd hf.1 dX1_join_47 ?_
      replace hf := hf.2
      refine m_ast_fi C Wd hf.1 dX1_join_48 (fun H locs Wd => ?_)
      replace hf := hf.2
      refine lv_aload_n C.1 C.2.1 dX1_join_49 rfl (lv_at hl 0 rfl) ?_
      refine m_get_sz C Wd dX1_join_50 ?_
      refine lv_iload_n C.1 C.2.1 dX1_join_53 rfl (lv_at hl 1 rfl) ?_
      refine lv_aload_n C.1 C.2.1 dX1_join_54 rfl (lv_at hl 0 rfl) ?_
      refine m_get_sz C Wd dX1_join_55 ?_
      refine lv_iload_n C.1 C.2.1 dX1_join_58 rfl (lv_at hl 1 rfl) ?_
      refine lv_iconst (v := 1) C.1 C.2.1 dX1_join_59 (by decide) ?_
      refine lv_iadd C.1 C.2.1 dX1_join_60 ?_
      refine m_ald_sz C Wd hf.1 dX1_join_61 ?_
      replace hf := hf.2
      refine m_ast_sz C Wd hf.1 dX1_join_62 (fun H locs Wd => ?_)
      replace hf := hf.2
      refine lv_aload_n C.1 C.2.1 dX1_join_63 rfl (lv_at hl 0 rfl) ?_
      refine m_get_us C Wd dX1_join_64 ?_
      refine lv_iload_n C.1 C.2.1 dX1_join_67 rfl (lv_at hl 1 rfl) ?_
      refine lv_aload_n C.1 C.2.1 dX1_join_68 rfl (lv_at hl 0 rfl) ?_
      refine m_get_us C Wd dX1_join_69 ?_
      refine lv_iload_n C.1 C.2.1 dX1_join_72 rfl (lv_at hl 1 rfl) ?_
      refine lv_iconst (v := 1) C.1 C.2.1 dX1_join_73 (by decide) ?_
      refine lv_iadd C.1 C.2.1 dX1_join_74 ?_
      refine m_ald_us C Wd hf.1 dX1_join_75 ?_
      replace hf := hf.2
      refine m_ast_us C Wd hf.1 rfl dX1_join_76 (fun H locs Wd => ?_)
      replace hf := hf.2
      refine lv_aload_n C.1 C.2.1 dX1_join_77 rfl (lv_at hl 0 rfl) ?_
      refine m_get_ca C Wd dX1_join_78 ?_
      refine lv_iload_n C.1 C.2.1 dX1_join_81 rfl (lv_at hl 1 rfl) ?_
      refine lv_aload_n C.1 C.2.1 dX1_join_82 rfl (lv_at hl 0 rfl) ?_
      refine m_get_ca C Wd dX1_join_83 ?_
      refine lv_iload_n C.1 C.2.1 dX1_join_86 rfl (lv_at hl 1 rfl) ?_
      refine lv_iconst (v := 1) C.1 C.2.1 dX1_join_87 (by decide) ?_
      refine lv_iadd C.1 C.2.1 dX1_join_88 ?_
      refine m_ald_ca C Wd hf.1 dX1_join_89 ?_
      replace hf := hf.2
      refine m_ast_ca C Wd hf.1 dX1_join_90 (fun H locs Wd => ?_)
      replace hf := hf.2
      refine lv_iinc (v := v2 + 1) (lv' := [(2, .int (v2 + 1)), (0, .ref (m_h ad))]) C.1 C.2.1 dX1_join_91 hl (k := 1) rfl rfl (by decide) rfl (fun ls hl => ?_)
      refine lv_goto (tgt := 25) C.1 C.2.1 dX1_join_94 (by decide) ?_
      exact ih _ _ _ _ _  Wd hf (lv_sub hl [1, 0] rfl)
theorem bM_join_25 {p : Program} {l : Launch} {e : Env} {s : State} {m : MethodId} {args : Array Value} {below : List Frame} {meth : Method} {c : Code} {D : va_G} {ad : MA} {A : Nat → Prop} (C : m_C p s m args meth c cX1_join 3 none) {post : MS → Prop} {σ : MS} {H : Heap} {locs : List Loc} {ls : Array Slot} {v2 : Int32} (Wd : m_W D ad σ A s H locs) (hf : ∃ f : Nat, wM_join_25 (m_lim ad) post f σ v2) (hl : lv_has ls 3 [(0, .ref (m_h ad)), (2, .int v2)]) : W p l e { frames := 0, cells := 0, slots := 0, locals := 0 } s m args below meth c H locs 0 0 (m_Qv below D ad A args s post) (F0 m 25 ls []) := by
  obtain ⟨f, hf⟩ := hf
  exact bM_join_25_f C f σ H locs ls v2 Wd hf hl
set_option maxHeartbeats 4000000 in
set_option maxRecDepth 100000 in
theorem cM_join (l : Launch) (D : va_G) (ad : MA) (v1 : Int32) : m_Mv l D yX1_join cX1_join 3 none { frames := 0, cells := 0, slots := 0, locals := 0 } ad [.ref (m_h ad), .int v1] (fun σ post => wM_join (m_lim ad) σ v1 post) := by
  refine m_ofv ⟨by decide, rfl, Nat.le_of_ble_eq_true rfl⟩ (fun {p e s m args below meth c σ A post ls} C Wd hf hl => ?_)
  replace hl : lv_has ls 3 [(0, .ref (m_h ad)), (1, .int v1)] := hl
  refine lv_aload_n C.1 C.2.1 dX1_join_0 rfl (lv_at hl 0 rfl) ?_
  refine m_get_sz C Wd dX1_join_1 ?_
  refine lv_iload_n C.1 C.2.1 dX1_join_4 rfl (lv_at hl 1 rfl) ?_
  refine lv_aload_n C.1 C.2.1 dX1_join_5 rfl (lv_at hl 0 rfl) ?_
  refine m_get_sz C Wd dX1_join_6 ?_
  refine lv_iload_n C.1 C.2.1 dX1_join_9 rfl (lv_at hl 1 rfl) ?_
  refine m_ald_sz C Wd hf.1 dX1_join_10 ?_
  replace hf := hf.2
  refine lv_aload_n C.1 C.2.1 dX1_join_11 rfl (lv_at hl 0 rfl) ?_
  refine m_get_sz C Wd dX1_join_12 ?_
  refine lv_iload_n C.1 C.2.1 dX1_join_15 rfl (lv_at hl 1 rfl) ?_
  refine lv_iconst (v := 1) C.1 C.2.1 dX1_join_16 (by decide) ?_
  refine lv_iadd C.1 C.2.1 dX1_join_17 ?_
  refine m_ald_sz C Wd hf.1 dX1_join_18 ?_
  replace hf := hf.2
  refine lv_iadd C.1 C.2.1 dX1_join_19 ?_
  refine m_ast_sz C Wd hf.1 dX1_join_20 (fun H locs Wd => ?_)
  replace hf := hf.2
  refine lv_iload_n C.1 C.2.1 dX1_join_21 rfl (lv_at hl 1 rfl) ?_
  refine lv_iconst (v := 1) C.1 C.2.1 dX1_join_22 (by decide) ?_
  refine lv_iadd C.1 C.2.1 dX1_join_23 ?_
  refine lv_istore_n (lv' := [(2, .int (v1 + 1)), (0, .ref (m_h ad)), (1, .int v1)]) C.1 C.2.1 dX1_join_24 rfl hl (by decide) rfl (fun ls hl => ?_)
  exact bM_join_25 C Wd hf (lv_sub hl [1, 0] rfl)
set_option maxHeartbeats 4000000 in
set_option maxRecDepth 100000 in
theorem cM_store (l : Launch) (D : va_G) (ad : MA) (v1 : Int32) : m_Mv l D yX1_store cX1_store 2 none { frames := 0, cells := 0, slots := 0, locals := 0 } ad [.ref (m_h ad), .int v1] (fun σ post => wM_store (m_lim ad) σ v1 post) := by
  refine m_ofv ⟨by decide, rfl, Nat.le_of_ble_eq_true rfl⟩ (fun {p e s m args below meth c σ A post ls} C Wd hf hl => ?_)
  replace hl : lv_has ls 2 [(0, .ref (m_h ad)), (1, .int v1)] := hl
  refine lv_aload_n C.1 C.2.1 dX1_store_0 rfl (lv_at hl 0 rfl) ?_
  refine lv_dup C.1 C.2.1 dX1_store_1 rfl ?_
  refine m_get_cl C Wd dX1_store_2 ?_
  refine lv_iconst (v := 1) C.1 C.2.1 dX1_store_5 (by decide) ?_
  refine lv_iadd C.1 C.2.1 dX1_store_6 ?_
  refine m_put_cl C Wd dX1_store_7 (fun H locs Wd => ?_)
  refine lv_aload_n C.1 C.2.1 dX1_store_10 rfl (lv_at hl 0 rfl) ?_
  refine m_get_ca C Wd dX1_store_11 ?_
  refine lv_iload_n C.1 C.2.1 dX1_store_14 rfl (lv_at hl 1 rfl) ?_
  refine lv_aload_n C.1 C.2.1 dX1_store_15 rfl (lv_at hl 0 rfl) ?_
  refine m_get_cl C Wd dX1_store_16 ?_
  refine m_ast_ca C Wd hf.1 dX1_store_19 (fun H locs Wd => ?_)
  replace hf := hf.2
  exact m_vret C Wd hf dX1_store_20
set_option maxHeartbeats 4000000 in
set_option maxRecDepth 100000 in
theorem cM_cut (l : Launch) (D : va_G) (ad : MA) (v1 : Int32) (v2 : Int32) : m_Mi l D yX1_cut cX1_cut 3 (some .boolean) { frames := 1, cells := 0, slots := 0, locals := 23 } ad [.ref (m_h ad), .int v1, .int v2] (fun σ post => wM_cut (m_lim ad) σ v1 v2 post) := by
  refine m_ofi ⟨by decide, rfl, Nat.le_of_ble_eq_true rfl⟩ (fun {p e s m args below meth c σ A post ls} C Wd hf hl => ?_)
  replace hl : lv_has ls 3 [(0, .ref (m_h ad)), (1, .int v1), (2, .int v2)] := hl
  refine lv_aload_n C.1 C.2.1 dX1_cut_0 rfl (lv_at hl 0 rfl) ?_
  refine m_get_us C Wd dX1_cut_1 ?_
  refine lv_iload_n C.1 C.2.1 dX1_cut_4 rfl (lv_at hl 1 rfl) ?_
  refine lv_iconst (v := 1) C.1 C.2.1 dX1_cut_5 (by decide) ?_
  refine m_ast_us C Wd hf.1 rfl dX1_cut_6 (fun H locs Wd => ?_)
  replace hf := hf.2
  refine lv_aload_n C.1 C.2.1 dX1_cut_7 rfl (lv_at hl 0 rfl) ?_
  refine m_get_sz C Wd dX1_cut_8 ?_
  refine lv_iload_n C.1 C.2.1 dX1_cut_11 rfl (lv_at hl 1 rfl) ?_
  refine m_ald_sz C Wd hf.1 dX1_cut_12 ?_
  replace hf := hf.2
  refine lv_iload_n C.1 C.2.1 dX1_cut_13 rfl (lv_at hl 2 rfl) ?_
  refine lv_isub C.1 C.2.1 dX1_cut_14 ?_
  refine lv_iconst (v := 2) C.1 C.2.1 dX1_cut_15 (by decide) ?_
  refine lv_icmp_ge (tgt := 21) C.1 C.2.1 dX1_cut_16 (by decide) (fun hc => ?_) (fun hc => ?_)
  · replace hf := hf.1 hc
    refine lv_aload_n C.1 C.2.1 dX1_cut_21 rfl (lv_at hl 0 rfl) ?_
    refine lv_iload_n C.1 C.2.1 dX1_cut_22 rfl (lv_at hl 1 rfl) ?_
    refine lv_iload_n C.1 C.2.1 dX1_cut_23 rfl (lv_at hl 2 rfl) ?_
    refine m_callvv (As := [.int v1, .int v2]) (rest := []) C Wd (cM_part l D ad v1 v2) sM_part (by decide) rfl hl.1 rfl (Nat.le_of_ble_eq_true rfl) (by decide) dX1_cut_24 hf (fun σ24 H locs hf Wd => ?_)
    refine lv_iconst (v := 1) C.1 C.2.1 dX1_cut_27 (by decide) ?_
    exact m_zret C Wd (by decide) hf dX1_cut_28
  · replace hf := hf.2 hc
    refine lv_iconst (v := 0) C.1 C.2.1 dX1_cut_19 (by decide) ?_
    exact m_zret C Wd (by decide) hf dX1_cut_20
set_option maxHeartbeats 4000000 in
set_option maxRecDepth 100000 in
theorem bM_best_5_f {p : Program} {l : Launch} {e : Env} {s : State} {m : MethodId} {args : Array Value} {below : List Frame} {meth : Method} {c : Code} {D : va_G} {ad : MA} {A : Nat → Prop} (C : m_C p s m args meth c cX1_best 7 (some .int)) {post : Int32 → MS → Prop} : ∀ (f : Nat) (σ : MS) (H : Heap) (locs : List Loc) (ls : Array Slot) (v1 : Int32) (v2 : Int32) (v3 : Int32) (v4 : Int32), m_W D ad σ A s H locs → wM_best_5 (m_lim ad) post f σ v1 v2 v3 v4 → lv_has ls 7 [(0, .ref (m_h ad)), (1, .int v1), (2, .int v2), (3, .int v3), (4, .int v4)] → W p l e { frames := 1, cells := 0, slots := 0, locals := 21 } s m args below meth c H locs 0 0 (m_Qi below D ad A args s post) (F0 m 5 ls []) := by
  intro f
  induction f with
  | zero => intro σ H locs ls v1 v2 v3 v4 Wd hf hl; exact False.elim hf
  | succ f ih =>
    intro σ H locs ls v1 v2 v3 v4 Wd hf hl
    replace hf : wM_best_5_s (m_lim ad) post (wM_best_5 (m_lim ad) post f) σ v1 v2 v3 v4 := hf
    refine lv_iload C.1 C.2.1 dX1_best_5 (lv_at hl 4 rfl) ?_
    refine lv_aload_n C.1 C.2.1 dX1_best_7 rfl (lv_at hl 0 rfl) ?_
    refine m_get_ch C Wd dX1_best_8 ?_
    refine lv_icmp_ge (tgt := 129) C.1 C.2.1 dX1_best_11 (by decide) (fun hc => ?_) (fun hc => ?_)
    · replace hf := hf.1 hc
      refine lv_iload_n C.1 C.2.1 dX1_best_129 rfl (lv_at hl 3 rfl) ?_
      exact m_iret C Wd hf dX1_best_130
    · replace hf := hf.2 hc
      refine lv_aload_n C.1 C.2.1 dX1_best_14 rfl (lv_at hl 0 rfl) ?_
      refine lv_iload C.1 C.2.1 dX1_best_15 (lv_at hl 4 rfl) ?_
      refine m_calliv (As := [.int v4]) (rest := []) C Wd (cM_stateOf l D ad v4) sM_stateOf (by decide) rfl hl.1 rfl (Nat.le_of_ble_eq_true rfl) (by decide) dX1_best_17 hf (fun r17 σ17 H locs hf Wd => ?_)
      refine lv_istore (lv' := [(5, .int r17), (0, .ref (m_h ad)), (1, .int v1), (2, .int v2), (3, .int v3), (4, .int v4)]) C.1 C.2.1 dX1_best_20 hl (by decide) rfl (fun ls hl => ?_)
      refine lv_iload C.1 C.2.1 dX1_best_22 (lv_at hl 0 rfl) ?_
      refine lv_iconst (v := 1) C.1 C.2.1 dX1_best_24 (by decide) ?_
      refine lv_icmp_eq (tgt := 34) C.1 C.2.1 dX1_best_25 (by decide) (fun hc => ?_) (fun hc => ?_)
      · replace hf := hf.1 hc
        refine lv_aload_n C.1 C.2.1 dX1_best_34 rfl (lv_at hl 1 rfl) ?_
        refine m_get_sz C Wd dX1_best_35 ?_
        refine lv_iload C.1 C.2.1 dX1_best_38 (lv_at hl 5 rfl) ?_
        refine m_ald_sz C Wd hf.1 dX1_best_40 ?_
        replace hf := hf.2
        refine lv_iload_n C.1 C.2.1 dX1_best_41 rfl (lv_at hl 2 rfl) ?_
        refine lv_icmp_lt (tgt := 60) C.1 C.2.1 dX1_best_42 (by decide) (fun hc => ?_) (fun hc => ?_)
        · replace hf := hf.1 hc
          refine lv_iconst (v := 0) C.1 C.2.1 dX1_best_60 (by decide) ?_
          refine lv_istore (lv' := [(6, .int 0), (5, .int r17), (0, .ref (m_h ad)), (1, .int v1), (2, .int v2), (3, .int v3), (4, .int v4)]) C.1 C.2.1 dX1_best_61 hl (by decide) rfl (fun ls hl => ?_)
          refine lv_iload C.1 C.2.1 dX1_best_63 (lv_at hl 0 rfl) ?_
          refine lv_if_eq (tgt := 123) C.1 C.2.1 dX1_best_65 (by decide) (fun _ => ?_) (fun hc => absurd hc (by decide))
          refine lv_iinc (v := v4 + 1) (lv' := [(4, .int (v4 + 1)), (6, .int 0), (5, .int r17), (0, .ref (m_h ad)), (1, .int v1), (2, .int v2), (3, .int v3)]) C.1 C.2.1 dX1_best_123 hl (k := 6) rfl rfl (by decide) rfl (fun ls hl => ?_)
          refine lv_goto (tgt := 5) C.1 C.2.1 dX1_best_126 (by decide) ?_
          exact ih _ _ _ _ _ _ _ _  Wd hf (lv_sub hl [3, 4, 5, 6, 0] rfl)
        · replace hf := hf.2 hc
          refine lv_aload_n C.1 C.2.1 dX1_best_45 rfl (lv_at hl 1 rfl) ?_
          refine m_get_sz C Wd dX1_best_46 ?_
          refine lv_iload C.1 C.2.1 dX1_best_49 (lv_at hl 5 rfl) ?_
          refine m_ald_sz C Wd hf.1 dX1_best_51 ?_
          replace hf := hf.2
          refine lv_iload_n C.1 C.2.1 dX1_best_52 rfl (lv_at hl 3 rfl) ?_
          refine lv_icmp_gt (tgt := 60) C.1 C.2.1 dX1_best_53 (by decide) (fun hc => ?_) (fun hc => ?_)
          · replace hf := hf.1 hc
            refine lv_iconst (v := 0) C.1 C.2.1 dX1_best_60 (by decide) ?_
            refine lv_istore (lv' := [(6, .int 0), (5, .int r17), (0, .ref (m_h ad)), (1, .int v1), (2, .int v2), (3, .int v3), (4, .int v4)]) C.1 C.2.1 dX1_best_61 hl (by decide) rfl (fun ls hl => ?_)
            refine lv_iload C.1 C.2.1 dX1_best_63 (lv_at hl 0 rfl) ?_
            refine lv_if_eq (tgt := 123) C.1 C.2.1 dX1_best_65 (by decide) (fun _ => ?_) (fun hc => absurd hc (by decide))
            refine lv_iinc (v := v4 + 1) (lv' := [(4, .int (v4 + 1)), (6, .int 0), (5, .int r17), (0, .ref (m_h ad)), (1, .int v1), (2, .int v2), (3, .int v3)]) C.1 C.2.1 dX1_best_123 hl (k := 6) rfl rfl (by decide) rfl (fun ls hl => ?_)
            refine lv_goto (tgt := 5) C.1 C.2.1 dX1_best_126 (by decide) ?_
            exact ih _ _ _ _ _ _ _ _  Wd hf (lv_sub hl [3, 4, 5, 6, 0] rfl)
          · replace hf := hf.2 hc
            refine lv_iconst (v := 1) C.1 C.2.1 dX1_best_56 (by decide) ?_
            refine lv_goto (tgt := 61) C.1 C.2.1 dX1_best_57 (by decide) ?_
            refine lv_istore (lv' := [(6, .int 1), (5, .int r17), (0, .ref (m_h ad)), (1, .int v1), (2, .int v2), (3, .int v3), (4, .int v4)]) C.1 C.2.1 dX1_best_61 hl (by decide) rfl (fun ls hl => ?_)
            refine lv_iload C.1 C.2.1 dX1_best_63 (lv_at hl 0 rfl) ?_
            refine lv_if_eq (tgt := 123) C.1 C.2.1 dX1_best_65 (by decide) (fun hc => absurd hc (by decide)) (fun _ => ?_)
            refine lv_iload_n C.1 C.2.1 dX1_best_68 rfl (lv_at hl 5 rfl) ?_
            refine lv_if_lt (tgt := 120) C.1 C.2.1 dX1_best_69 (by decide) (fun hc => ?_) (fun hc => ?_)
            · replace hf := hf.1 hc
              refine lv_iload C.1 C.2.1 dX1_best_120 (lv_at hl 6 rfl) ?_
              refine lv_istore_n (lv' := [(3, .int v4), (6, .int 1), (5, .int r17), (0, .ref (m_h ad)), (1, .int v1), (2, .int v2), (4, .int v4)]) C.1 C.2.1 dX1_best_122 rfl hl (by decide) rfl (fun ls hl => ?_)
              refine lv_iinc (v := v4 + 1) (lv' := [(4, .int (v4 + 1)), (3, .int v4), (6, .int 1), (5, .int r17), (0, .ref (m_h ad)), (1, .int v1), (2, .int v2)]) C.1 C.2.1 dX1_best_123 hl (k := 6) rfl rfl (by decide) rfl (fun ls hl => ?_)
              refine lv_goto (tgt := 5) C.1 C.2.1 dX1_best_126 (by decide) ?_
              exact ih _ _ _ _ _ _ _ _  Wd hf (lv_sub hl [4, 5, 6, 1, 0] rfl)
            · replace hf := hf.2 hc
              refine lv_aload_n C.1 C.2.1 dX1_best_72 rfl (lv_at hl 2 rfl) ?_
              refine m_get_sz C Wd dX1_best_73 ?_
              refine lv_iload C.1 C.2.1 dX1_best_76 (lv_at hl 6 rfl) ?_
              refine m_ald_sz C Wd hf.1 dX1_best_78 ?_
              replace hf := hf.2
              refine lv_aload_n C.1 C.2.1 dX1_best_79 rfl (lv_at hl 2 rfl) ?_
              refine m_get_sz C Wd dX1_best_80 ?_
              refine lv_iload_n C.1 C.2.1 dX1_best_83 rfl (lv_at hl 5 rfl) ?_
              refine m_ald_sz C Wd hf.1 dX1_best_84 ?_
              replace hf := hf.2
              refine lv_icmp_lt (tgt := 120) C.1 C.2.1 dX1_best_85 (by decide) (fun hc => ?_) (fun hc => ?_)
              · replace hf := hf.1 hc
                refine lv_iload C.1 C.2.1 dX1_best_120 (lv_at hl 6 rfl) ?_
                refine lv_istore_n (lv' := [(3, .int v4), (6, .int 1), (5, .int r17), (0, .ref (m_h ad)), (1, .int v1), (2, .int v2), (4, .int v4)]) C.1 C.2.1 dX1_best_122 rfl hl (by decide) rfl (fun ls hl => ?_)
                refine lv_iinc (v := v4 + 1) (lv' := [(4, .int (v4 + 1)), (3, .int v4), (6, .int 1), (5, .int r17), (0, .ref (m_h ad)), (1, .int v1), (2, .int v2)]) C.1 C.2.1 dX1_best_123 hl (k := 6) rfl rfl (by decide) rfl (fun ls hl => ?_)
                refine lv_goto (tgt := 5) C.1 C.2.1 dX1_best_126 (by decide) ?_
                exact ih _ _ _ _ _ _ _ _  Wd hf (lv_sub hl [4, 5, 6, 1, 0] rfl)
              · replace hf := hf.2 hc
                refine lv_aload_n C.1 C.2.1 dX1_best_88 rfl (lv_at hl 2 rfl) ?_
                refine m_get_sz C Wd dX1_best_89 ?_
                refine lv_iload C.1 C.2.1 dX1_best_92 (lv_at hl 6 rfl) ?_
                refine m_ald_sz C Wd hf.1 dX1_best_94 ?_
                replace hf := hf.2
                refine lv_aload_n C.1 C.2.1 dX1_best_95 rfl (lv_at hl 2 rfl) ?_
                refine m_get_sz C Wd dX1_best_96 ?_
                refine lv_iload_n C.1 C.2.1 dX1_best_99 rfl (lv_at hl 5 rfl) ?_
                refine m_ald_sz C Wd hf.1 dX1_best_100 ?_
                replace hf := hf.2
                refine lv_icmp_ne (tgt := 123) C.1 C.2.1 dX1_best_101 (by decide) (fun hc => ?_) (fun hc => ?_)
                · replace hf := hf.1 hc
                  refine lv_iinc (v := v4 + 1) (lv' := [(4, .int (v4 + 1)), (6, .int 1), (5, .int r17), (0, .ref (m_h ad)), (1, .int v1), (2, .int v2), (3, .int v3)]) C.1 C.2.1 dX1_best_123 hl (k := 6) rfl rfl (by decide) rfl (fun ls hl => ?_)
                  refine lv_goto (tgt := 5) C.1 C.2.1 dX1_best_126 (by decide) ?_
                  exact ih _ _ _ _ _ _ _ _  Wd hf (lv_sub hl [3, 4, 5, 6, 0] rfl)
                · replace hf := hf.2 hc
                  refine lv_aload_n C.1 C.2.1 dX1_best_104 rfl (lv_at hl 2 rfl) ?_
                  refine m_get_ca C Wd dX1_best_105 ?_
                  refine lv_iload C.1 C.2.1 dX1_best_108 (lv_at hl 6 rfl) ?_
                  refine m_ald_ca C Wd hf.1 dX1_best_110 ?_
                  replace hf := hf.2
                  refine lv_aload_n C.1 C.2.1 dX1_best_111 rfl (lv_at hl 2 rfl) ?_
                  refine m_get_ca C Wd dX1_best_112 ?_
                  refine lv_iload_n C.1 C.2.1 dX1_best_115 rfl (lv_at hl 5 rfl) ?_
                  refine m_ald_ca C Wd hf.1 dX1_best_116 ?_
                  replace hf := hf.2
                  refine lv_icmp_le (tgt := 123) C.1 C.2.1 dX1_best_117 (by decide) (fun hc => ?_) (fun hc => ?_)
                  · replace hf := hf.1 hc
                    refine lv_iinc (v := v4 + 1) (lv' := [(4, .int (v4 + 1)), (6, .int 1), (5, .int r17), (0, .ref (m_h ad)), (1, .int v1), (2, .int v2), (3, .int v3)]) C.1 C.2.1 dX1_best_123 hl (k := 6) rfl rfl (by decide) rfl (fun ls hl => ?_)
                    refine lv_goto (tgt := 5) C.1 C.2.1 dX1_best_126 (by decide) ?_
                    exact ih _ _ _ _ _ _ _ _  Wd hf (lv_sub hl [3, 4, 5, 6, 0] rfl)
                  · replace hf := hf.2 hc
                    refine lv_iload C.1 C.2.1 dX1_best_120 (lv_at hl 6 rfl) ?_
                    refine lv_istore_n (lv' := [(3, .int v4), (6, .int 1), (5, .int r17), (0, .ref (m_h ad)), (1, .int v1), (2, .int v2), (4, .int v4)]) C.1 C.2.1 dX1_best_122 rfl hl (by decide) rfl (fun ls hl => ?_)
                    refine lv_iinc (v := v4 + 1) (lv' := [(4, .int (v4 + 1)), (3, .int v4), (6, .int 1), (5, .int r17), (0, .ref (m_h ad)), (1, .int v1), (2, .int v2)]) C.1 C.2.1 dX1_best_123 hl (k := 6) rfl rfl (by decide) rfl (fun ls hl => ?_)
                    refine lv_goto (tgt := 5) C.1 C.2.1 dX1_best_126 (by decide) ?_
                    exact ih _ _ _ _ _ _ _ _  Wd hf (lv_sub hl [4, 5, 6, 1, 0] rfl)
      · replace hf := hf.2 hc
        refine lv_iload C.1 C.2.1 dX1_best_28 (lv_at hl 0 rfl) ?_
        refine lv_iconst (v := 2) C.1 C.2.1 dX1_best_30 (by decide) ?_
        refine lv_icmp_ne (tgt := 60) C.1 C.2.1 dX1_best_31 (by decide) (fun hc => ?_) (fun hc => ?_)
        · replace hf := hf.1 hc
          refine lv_iconst (v := 0) C.1 C.2.1 dX1_best_60 (by decide) ?_
          refine lv_istore (lv' := [(6, .int 0), (5, .int r17), (0, .ref (m_h ad)), (1, .int v1), (2, .int v2), (3, .int v3), (4, .int v4)]) C.1 C.2.1 dX1_best_61 hl (by decide) rfl (fun ls hl => ?_)
          refine lv_iload C.1 C.2.1 dX1_best_63 (lv_at hl 0 rfl) ?_
          refine lv_if_eq (tgt := 123) C.1 C.2.1 dX1_best_65 (by decide) (fun _ => ?_) (fun hc => absurd hc (by decide))
          refine lv_iinc (v := v4 + 1) (lv' := [(4, .int (v4 + 1)), (6, .int 0), (5, .int r17), (0, .ref (m_h ad)), (1, .int v1), (2, .int v2), (3, .int v3)]) C.1 C.2.1 dX1_best_123 hl (k := 6) rfl rfl (by decide) rfl (fun ls hl => ?_)
          refine lv_goto (tgt := 5) C.1 C.2.1 dX1_best_126 (by decide) ?_
          exact ih _ _ _ _ _ _ _ _  Wd hf (lv_sub hl [3, 4, 5, 6, 0] rfl)
        · replace hf := hf.2 hc
          refine lv_aload_n C.1 C.2.1 dX1_best_34 rfl (lv_at hl 1 rfl) ?_
          refine m_get_sz C Wd dX1_best_35 ?_
          refine lv_iload C.1 C.2.1 dX1_best_38 (lv_at hl 5 rfl) ?_
          refine m_ald_sz C Wd hf.1 dX1_best_40 ?_
          replace hf := hf.2
          refine lv_iload_n C.1 C.2.1 dX1_best_41 rfl (lv_at hl 2 rfl) ?_
          refine lv_icmp_lt (tgt := 60) C.1 C.2.1 dX1_best_42 (by decide) (fun hc => ?_) (fun hc => ?_)
          · replace hf := hf.1 hc
            refine lv_iconst (v := 0) C.1 C.2.1 dX1_best_60 (by decide) ?_
            refine lv_istore (lv' := [(6, .int 0), (5, .int r17), (0, .ref (m_h ad)), (1, .int v1), (2, .int v2), (3, .int v3), (4, .int v4)]) C.1 C.2.1 dX1_best_61 hl (by decide) rfl (fun ls hl => ?_)
            refine lv_iload C.1 C.2.1 dX1_best_63 (lv_at hl 0 rfl) ?_
            refine lv_if_eq (tgt := 123) C.1 C.2.1 dX1_best_65 (by decide) (fun _ => ?_) (fun hc => absurd hc (by decide))
            refine lv_iinc (v := v4 + 1) (lv' := [(4, .int (v4 + 1)), (6, .int 0), (5, .int r17), (0, .ref (m_h ad)), (1, .int v1), (2, .int v2), (3, .int v3)]) C.1 C.2.1 dX1_best_123 hl (k := 6) rfl rfl (by decide) rfl (fun ls hl => ?_)
            refine lv_goto (tgt := 5) C.1 C.2.1 dX1_best_126 (by decide) ?_
            exact ih _ _ _ _ _ _ _ _  Wd hf (lv_sub hl [3, 4, 5, 6, 0] rfl)
          · replace hf := hf.2 hc
            refine lv_aload_n C.1 C.2.1 dX1_best_45 rfl (lv_at hl 1 rfl) ?_
            refine m_get_sz C Wd dX1_best_46 ?_
            refine lv_iload C.1 C.2.1 dX1_best_49 (lv_at hl 5 rfl) ?_
            refine m_ald_sz C Wd hf.1 dX1_best_51 ?_
            replace hf := hf.2
            refine lv_iload_n C.1 C.2.1 dX1_best_52 rfl (lv_at hl 3 rfl) ?_
            refine lv_icmp_gt (tgt := 60) C.1 C.2.1 dX1_best_53 (by decide) (fun hc => ?_) (fun hc => ?_)
            · replace hf := hf.1 hc
              refine lv_iconst (v := 0) C.1 C.2.1 dX1_best_60 (by decide) ?_
              refine lv_istore (lv' := [(6, .int 0), (5, .int r17), (0, .ref (m_h ad)), (1, .int v1), (2, .int v2), (3, .int v3), (4, .int v4)]) C.1 C.2.1 dX1_best_61 hl (by decide) rfl (fun ls hl => ?_)
              refine lv_iload C.1 C.2.1 dX1_best_63 (lv_at hl 0 rfl) ?_
              refine lv_if_eq (tgt := 123) C.1 C.2.1 dX1_best_65 (by decide) (fun _ => ?_) (fun hc => absurd hc (by decide))
              refine lv_iinc (v := v4 + 1) (lv' := [(4, .int (v4 + 1)), (6, .int 0), (5, .int r17), (0, .ref (m_h ad)), (1, .int v1), (2, .int v2), (3, .int v3)]) C.1 C.2.1 dX1_best_123 hl (k := 6) rfl rfl (by decide) rfl (fun ls hl => ?_)
              refine lv_goto (tgt := 5) C.1 C.2.1 dX1_best_126 (by decide) ?_
              exact ih _ _ _ _ _ _ _ _  Wd hf (lv_sub hl [3, 4, 5, 6, 0] rfl)
            · replace hf := hf.2 hc
              refine lv_iconst (v := 1) C.1 C.2.1 dX1_best_56 (by decide) ?_
              refine lv_goto (tgt := 61) C.1 C.2.1 dX1_best_57 (by decide) ?_
              refine lv_istore (lv' := [(6, .int 1), (5, .int r17), (0, .ref (m_h ad)), (1, .int v1), (2, .int v2), (3, .int v3), (4, .int v4)]) C.1 C.2.1 dX1_best_61 hl (by decide) rfl (fun ls hl => ?_)
              refine lv_iload C.1 C.2.1 dX1_best_63 (lv_at hl 0 rfl) ?_
              refine lv_if_eq (tgt := 123) C.1 C.2.1 dX1_best_65 (by decide) (fun hc => absurd hc (by decide)) (fun _ => ?_)
              refine lv_iload_n C.1 C.2.1 dX1_best_68 rfl (lv_at hl 5 rfl) ?_
              refine lv_if_lt (tgt := 120) C.1 C.2.1 dX1_best_69 (by decide) (fun hc => ?_) (fun hc => ?_)
              · replace hf := hf.1 hc
                refine lv_iload C.1 C.2.1 dX1_best_120 (lv_at hl 6 rfl) ?_
                refine lv_istore_n (lv' := [(3, .int v4), (6, .int 1), (5, .int r17), (0, .ref (m_h ad)), (1, .int v1), (2, .int v2), (4, .int v4)]) C.1 C.2.1 dX1_best_122 rfl hl (by decide) rfl (fun ls hl => ?_)
                refine lv_iinc (v := v4 + 1) (lv' := [(4, .int (v4 + 1)), (3, .int v4), (6, .int 1), (5, .int r17), (0, .ref (m_h ad)), (1, .int v1), (2, .int v2)]) C.1 C.2.1 dX1_best_123 hl (k := 6) rfl rfl (by decide) rfl (fun ls hl => ?_)
                refine lv_goto (tgt := 5) C.1 C.2.1 dX1_best_126 (by decide) ?_
                exact ih _ _ _ _ _ _ _ _  Wd hf (lv_sub hl [4, 5, 6, 1, 0] rfl)
              · replace hf := hf.2 hc
                refine lv_aload_n C.1 C.2.1 dX1_best_72 rfl (lv_at hl 2 rfl) ?_
                refine m_get_sz C Wd dX1_best_73 ?_
                refine lv_iload C.1 C.2.1 dX1_best_76 (lv_at hl 6 rfl) ?_
                refine m_ald_sz C Wd hf.1 dX1_best_78 ?_
                replace hf := hf.2
                refine lv_aload_n C.1 C.2.1 dX1_best_79 rfl (lv_at hl 2 rfl) ?_
                refine m_get_sz C Wd dX1_best_80 ?_
                refine lv_iload_n C.1 C.2.1 dX1_best_83 rfl (lv_at hl 5 rfl) ?_
                refine m_ald_sz C Wd hf.1 dX1_best_84 ?_
                replace hf := hf.2
                refine lv_icmp_lt (tgt := 120) C.1 C.2.1 dX1_best_85 (by decide) (fun hc => ?_) (fun hc => ?_)
                · replace hf := hf.1 hc
                  refine lv_iload C.1 C.2.1 dX1_best_120 (lv_at hl 6 rfl) ?_
                  refine lv_istore_n (lv' := [(3, .int v4), (6, .int 1), (5, .int r17), (0, .ref (m_h ad)), (1, .int v1), (2, .int v2), (4, .int v4)]) C.1 C.2.1 dX1_best_122 rfl hl (by decide) rfl (fun ls hl => ?_)
                  refine lv_iinc (v := v4 + 1) (lv' := [(4, .int (v4 + 1)), (3, .int v4), (6, .int 1), (5, .int r17), (0, .ref (m_h ad)), (1, .int v1), (2, .int v2)]) C.1 C.2.1 dX1_best_123 hl (k := 6) rfl rfl (by decide) rfl (fun ls hl => ?_)
                  refine lv_goto (tgt := 5) C.1 C.2.1 dX1_best_126 (by decide) ?_
                  exact ih _ _ _ _ _ _ _ _  Wd hf (lv_sub hl [4, 5, 6, 1, 0] rfl)
                · replace hf := hf.2 hc
                  refine lv_aload_n C.1 C.2.1 dX1_best_88 rfl (lv_at hl 2 rfl) ?_
                  refine m_get_sz C Wd dX1_best_89 ?_
                  refine lv_iload C.1 C.2.1 dX1_best_92 (lv_at hl 6 rfl) ?_
                  refine m_ald_sz C Wd hf.1 dX1_best_94 ?_
                  replace hf := hf.2
                  refine lv_aload_n C.1 C.2.1 dX1_best_95 rfl (lv_at hl 2 rfl) ?_
                  refine m_get_sz C Wd dX1_best_96 ?_
                  refine lv_iload_n C.1 C.2.1 dX1_best_99 rfl (lv_at hl 5 rfl) ?_
                  refine m_ald_sz C Wd hf.1 dX1_best_100 ?_
                  replace hf := hf.2
                  refine lv_icmp_ne (tgt := 123) C.1 C.2.1 dX1_best_101 (by decide) (fun hc => ?_) (fun hc => ?_)
                  · replace hf := hf.1 hc
                    refine lv_iinc (v := v4 + 1) (lv' := [(4, .int (v4 + 1)), (6, .int 1), (5, .int r17), (0, .ref (m_h ad)), (1, .int v1), (2, .int v2), (3, .int v3)]) C.1 C.2.1 dX1_best_123 hl (k := 6) rfl rfl (by decide) rfl (fun ls hl => ?_)
                    refine lv_goto (tgt := 5) C.1 C.2.1 dX1_best_126 (by decide) ?_
                    exact ih _ _ _ _ _ _ _ _  Wd hf (lv_sub hl [3, 4, 5, 6, 0] rfl)
                  · replace hf := hf.2 hc
                    refine lv_aload_n C.1 C.2.1 dX1_best_104 rfl (lv_at hl 2 rfl) ?_
                    refine m_get_ca C Wd dX1_best_105 ?_
                    refine lv_iload C.1 C.2.1 dX1_best_108 (lv_at hl 6 rfl) ?_
                    refine m_ald_ca C Wd hf.1 dX1_best_110 ?_
                    replace hf := hf.2
                    refine lv_aload_n C.1 C.2.1 dX1_best_111 rfl (lv_at hl 2 rfl) ?_
                    refine m_get_ca C Wd dX1_best_112 ?_
                    refine lv_iload_n C.1 C.2.1 dX1_best_115 rfl (lv_at hl 5 rfl) ?_
                    refine m_ald_ca C Wd hf.1 dX1_best_116 ?_
                    replace hf := hf.2
                    refine lv_icmp_le (tgt := 123) C.1 C.2.1 dX1_best_117 (by decide) (fun hc => ?_) (fun hc => ?_)
                    · replace hf := hf.1 hc
                      refine lv_iinc (v := v4 + 1) (lv' := [(4, .int (v4 + 1)), (6, .int 1), (5, .int r17), (0, .ref (m_h ad)), (1, .int v1), (2, .int v2), (3, .int v3)]) C.1 C.2.1 dX1_best_123 hl (k := 6) rfl rfl (by decide) rfl (fun ls hl => ?_)
                      refine lv_goto (tgt := 5) C.1 C.2.1 dX1_best_126 (by decide) ?_
                      exact ih _ _ _ _ _ _ _ _  Wd hf (lv_sub hl [3, 4, 5, 6, 0] rfl)
                    · replace hf := hf.2 hc
                      refine lv_iload C.1 C.2.1 dX1_best_120 (lv_at hl 6 rfl) ?_
                      refine lv_istore_n (lv' := [(3, .int v4), (6, .int 1), (5, .int r17), (0, .ref (m_h ad)), (1, .int v1), (2, .int v2), (4, .int v4)]) C.1 C.2.1 dX1_best_122 rfl hl (by decide) rfl (fun ls hl => ?_)
                      refine lv_iinc (v := v4 + 1) (lv' := [(4, .int (v4 + 1)), (3, .int v4), (6, .int 1), (5, .int r17), (0, .ref (m_h ad)), (1, .int v1), (2, .int v2)]) C.1 C.2.1 dX1_best_123 hl (k := 6) rfl rfl (by decide) rfl (fun ls hl => ?_)
                      refine lv_goto (tgt := 5) C.1 C.2.1 dX1_best_126 (by decide) ?_
                      exact ih _ _ _ _ _ _ _ _  Wd hf (lv_sub hl [4, 5, 6, 1, 0] rfl)
theorem bM_best_5 {p : Program} {l : Launch} {e : Env} {s : State} {m : MethodId} {args : Array Value} {below : List Frame} {meth : Method} {c : Code} {D : va_G} {ad : MA} {A : Nat → Prop} (C : m_C p s m args meth c cX1_best 7 (some .int)) {post : Int32 → MS → Prop} {σ : MS} {H : Heap} {locs : List Loc} {ls : Array Slot} {v1 : Int32} {v2 : Int32} {v3 : Int32} {v4 : Int32} (Wd : m_W D ad σ A s H locs) (hf : ∃ f : Nat, wM_best_5 (m_lim ad) post f σ v1 v2 v3 v4) (hl : lv_has ls 7 [(0, .ref (m_h ad)), (1, .int v1), (2, .int v2), (3, .int v3), (4, .int v4)]) : W p l e { frames := 1, cells := 0, slots := 0, locals := 21 } s m args below meth c H locs 0 0 (m_Qi below D ad A args s post) (F0 m 5 ls []) := by
  obtain ⟨f, hf⟩ := hf
  exact bM_best_5_f C f σ H locs ls v1 v2 v3 v4 Wd hf hl
set_option maxHeartbeats 4000000 in
set_option maxRecDepth 100000 in
theorem cM_best (l : Launch) (D : va_G) (ad : MA) (v1 : Int32) (v2 : Int32) : m_Mi l D yX1_best cX1_best 7 (some .int) { frames := 1, cells := 0, slots := 0, locals := 21 } ad [.ref (m_h ad), .int v1, .int v2] (fun σ post => wM_best (m_lim ad) σ v1 v2 post) := by
  refine m_ofi ⟨by decide, rfl, Nat.le_of_ble_eq_true rfl⟩ (fun {p e s m args below meth c σ A post ls} C Wd hf hl => ?_)
  replace hl : lv_has ls 7 [(0, .ref (m_h ad)), (1, .int v1), (2, .int v2)] := hl
  refine lv_iconst (v := (-1)) C.1 C.2.1 dX1_best_0 (by decide) ?_
  refine lv_istore_n (lv' := [(3, .int (-1)), (0, .ref (m_h ad)), (1, .int v1), (2, .int v2)]) C.1 C.2.1 dX1_best_1 rfl hl (by decide) rfl (fun ls hl => ?_)
  refine lv_iconst (v := 0) C.1 C.2.1 dX1_best_2 (by decide) ?_
  refine lv_istore (lv' := [(4, .int 0), (3, .int (-1)), (0, .ref (m_h ad)), (1, .int v1), (2, .int v2)]) C.1 C.2.1 dX1_best_3 hl (by decide) rfl (fun ls hl => ?_)
  exact bM_best_5 C Wd hf (lv_sub hl [2, 3, 4, 1, 0] rfl)
end
section
set_option maxHeartbeats 4000000 in
set_option maxRecDepth 100000 in
theorem bM_fromVictim_19 {p : Program} {l : Launch} {e : Env} {s : State} {m : MethodId} {args : Array Value} {below : List Frame} {meth : Method} {c : Code} {D : va_G} {ad : MA} {A : Nat → Prop} (C : m_C p s m args meth c cX1_fromVictim 3 (some .int)) {post : Int32 → MS → Prop} {σ : MS} {H : Heap} {locs : List Loc} {ls : Array Slot} {v1 : Int32} {k0 : Int32} (Wd : m_W D ad σ A s H locs) (hf : wM_fromVictim_19 (m_lim ad) σ v1 k0 post) (hl : lv_has ls 3 [(0, .ref (m_h ad)), (1, .int v1)]) : W p l e { frames := 2, cells := 0, slots := 0, locals := 45 } s m args below meth c H locs 0 0 (m_Qi below D ad A args s post) (F0 m 19 ls [.int k0]) := by
  refine lv_istore_n (lv' := [(2, .int k0), (0, .ref (m_h ad)), (1, .int v1)]) C.1 C.2.1 dX1_fromVictim_19 rfl hl (by decide) rfl (fun ls hl => ?_)
  refine lv_iload_n C.1 C.2.1 dX1_fromVictim_20 rfl (lv_at hl 0 rfl) ?_
  refine lv_if_lt (tgt := 34) C.1 C.2.1 dX1_fromVictim_21 (by decide) (fun hc => ?_) (fun hc => ?_)
  · replace hf := hf.1 hc
    refine lv_iconst (v := (-1)) C.1 C.2.1 dX1_fromVictim_34 (by decide) ?_
    exact m_iret C Wd hf dX1_fromVictim_35
  · replace hf := hf.2 hc
    refine lv_aload_n C.1 C.2.1 dX1_fromVictim_24 rfl (lv_at hl 1 rfl) ?_
    refine m_get_sz C Wd dX1_fromVictim_25 ?_
    refine lv_iload_n C.1 C.2.1 dX1_fromVictim_28 rfl (lv_at hl 0 rfl) ?_
    refine m_ald_sz C Wd hf.1 dX1_fromVictim_29 ?_
    replace hf := hf.2
    refine lv_iload_n C.1 C.2.1 dX1_fromVictim_30 rfl (lv_at hl 2 rfl) ?_
    refine lv_icmp_ge (tgt := 36) C.1 C.2.1 dX1_fromVictim_31 (by decide) (fun hc => ?_) (fun hc => ?_)
    · replace hf := hf.1 hc
      refine lv_aload_n C.1 C.2.1 dX1_fromVictim_36 rfl (lv_at hl 1 rfl) ?_
      refine lv_aload_n C.1 C.2.1 dX1_fromVictim_37 rfl (lv_at hl 1 rfl) ?_
      refine lv_iload_n C.1 C.2.1 dX1_fromVictim_38 rfl (lv_at hl 0 rfl) ?_
      refine lv_iload_n C.1 C.2.1 dX1_fromVictim_39 rfl (lv_at hl 2 rfl) ?_
      refine m_calliv (As := [.int k0, .int v1]) (rest := [.ref (m_h ad)]) C Wd (cM_cut l D ad k0 v1) sM_cut (by decide) rfl hl.1 rfl (Nat.le_of_ble_eq_true rfl) (by decide) dX1_fromVictim_40 hf (fun r40 σ40 H locs hf Wd => ?_)
      refine lv_if_eq (tgt := 57) C.1 C.2.1 dX1_fromVictim_43 (by decide) (fun hc => ?_) (fun hc => ?_)
      · replace hf := hf.1 hc
        refine lv_iconst (v := (-1)) C.1 C.2.1 dX1_fromVictim_57 (by decide) ?_
        refine m_put_vi C Wd dX1_fromVictim_58 (fun H locs Wd => ?_)
        refine lv_iload_n C.1 C.2.1 dX1_fromVictim_61 rfl (lv_at hl 0 rfl) ?_
        exact m_iret C Wd hf dX1_fromVictim_62
      · replace hf := hf.2 hc
        refine lv_aload_n C.1 C.2.1 dX1_fromVictim_46 rfl (lv_at hl 1 rfl) ?_
        refine m_get_fi C Wd dX1_fromVictim_47 ?_
        refine lv_iload_n C.1 C.2.1 dX1_fromVictim_50 rfl (lv_at hl 0 rfl) ?_
        refine lv_iconst (v := 1) C.1 C.2.1 dX1_fromVictim_51 (by decide) ?_
        refine lv_iadd C.1 C.2.1 dX1_fromVictim_52 ?_
        refine m_ald_fi C Wd hf.1 dX1_fromVictim_53 ?_
        replace hf := hf.2
        refine lv_goto (tgt := 58) C.1 C.2.1 dX1_fromVictim_54 (by decide) ?_
        refine m_put_vi C Wd dX1_fromVictim_58 (fun H locs Wd => ?_)
        refine lv_iload_n C.1 C.2.1 dX1_fromVictim_61 rfl (lv_at hl 0 rfl) ?_
        exact m_iret C Wd hf dX1_fromVictim_62
    · replace hf := hf.2 hc
      refine lv_iconst (v := (-1)) C.1 C.2.1 dX1_fromVictim_34 (by decide) ?_
      exact m_iret C Wd hf dX1_fromVictim_35
set_option maxHeartbeats 4000000 in
set_option maxRecDepth 100000 in
theorem cM_fromVictim (l : Launch) (D : va_G) (ad : MA) (v1 : Int32) : m_Mi l D yX1_fromVictim cX1_fromVictim 3 (some .int) { frames := 2, cells := 0, slots := 0, locals := 45 } ad [.ref (m_h ad), .int v1] (fun σ post => wM_fromVictim (m_lim ad) σ v1 post) := by
  refine m_ofi ⟨by decide, rfl, Nat.le_of_ble_eq_true rfl⟩ (fun {p e s m args below meth c σ A post ls} C Wd hf hl => ?_)
  replace hl : lv_has ls 3 [(0, .ref (m_h ad)), (1, .int v1)] := hl
  refine lv_aload_n C.1 C.2.1 dX1_fromVictim_0 rfl (lv_at hl 0 rfl) ?_
  refine m_get_vi C Wd dX1_fromVictim_1 ?_
  refine lv_if_ge (tgt := 11) C.1 C.2.1 dX1_fromVictim_4 (by decide) (fun hc => ?_) (fun hc => ?_)
  · replace hf := hf.1 hc
    refine lv_aload_n C.1 C.2.1 dX1_fromVictim_11 rfl (lv_at hl 0 rfl) ?_
    refine lv_aload_n C.1 C.2.1 dX1_fromVictim_12 rfl (lv_at hl 0 rfl) ?_
    refine m_get_vi C Wd dX1_fromVictim_13 ?_
    refine m_calliv (As := [.int (m_vi σ)]) (rest := []) C Wd (cM_at l D ad (m_vi σ)) sM_at (by decide) rfl hl.1 rfl (Nat.le_of_ble_eq_true rfl) (by decide) dX1_fromVictim_16 hf (fun r16 σ16 H locs hf Wd => ?_)
    exact bM_fromVictim_19 C Wd hf hl
  · replace hf := hf.2 hc
    refine lv_iconst (v := (-1)) C.1 C.2.1 dX1_fromVictim_7 (by decide) ?_
    refine lv_goto (tgt := 19) C.1 C.2.1 dX1_fromVictim_8 (by decide) ?_
    exact bM_fromVictim_19 C Wd hf hl
set_option maxHeartbeats 4000000 in
set_option maxRecDepth 100000 in
theorem bM_takeSmall_99 {p : Program} {l : Launch} {e : Env} {s : State} {m : MethodId} {args : Array Value} {below : List Frame} {meth : Method} {c : Code} {D : va_G} {ad : MA} {A : Nat → Prop} (C : m_C p s m args meth c cX1_takeSmall 4 (some .int)) {post : Int32 → MS → Prop} {σ : MS} {H : Heap} {locs : List Loc} {ls : Array Slot} {v2 : Int32} (Wd : m_W D ad σ A s H locs) (hf : wM_takeSmall_99 (m_lim ad) σ v2 post) (hl : lv_has ls 4 [(0, .ref (m_h ad)), (2, .int v2)]) : W p l e { frames := 3, cells := 0, slots := 0, locals := 67 } s m args below meth c H locs 0 0 (m_Qi below D ad A args s post) (F0 m 99 ls []) := by
  refine lv_aload_n C.1 C.2.1 dX1_takeSmall_99 rfl (lv_at hl 0 rfl) ?_
  refine lv_aload_n C.1 C.2.1 dX1_takeSmall_100 rfl (lv_at hl 0 rfl) ?_
  refine m_get_fi C Wd dX1_takeSmall_101 ?_
  refine lv_iload_n C.1 C.2.1 dX1_takeSmall_104 rfl (lv_at hl 1 rfl) ?_
  refine lv_iconst (v := 1) C.1 C.2.1 dX1_takeSmall_105 (by decide) ?_
  refine lv_iadd C.1 C.2.1 dX1_takeSmall_106 ?_
  refine m_ald_fi C Wd hf.1 dX1_takeSmall_107 ?_
  replace hf := hf.2
  refine m_put_vi C Wd dX1_takeSmall_108 (fun H locs Wd => ?_)
  refine lv_iload_n C.1 C.2.1 dX1_takeSmall_111 rfl (lv_at hl 1 rfl) ?_
  exact m_iret C Wd hf dX1_takeSmall_112
set_option maxHeartbeats 4000000 in
set_option maxRecDepth 100000 in
theorem bM_takeSmall_89 {p : Program} {l : Launch} {e : Env} {s : State} {m : MethodId} {args : Array Value} {below : List Frame} {meth : Method} {c : Code} {D : va_G} {ad : MA} {A : Nat → Prop} (C : m_C p s m args meth c cX1_takeSmall 4 (some .int)) {post : Int32 → MS → Prop} {σ : MS} {H : Heap} {locs : List Loc} {ls : Array Slot} {v2 : Int32} {k0 : Int32} (Wd : m_W D ad σ A s H locs) (hf : wM_takeSmall_89 (m_lim ad) σ v2 k0 post) (hl : lv_has ls 4 [(0, .ref (m_h ad)), (2, .int v2)]) : W p l e { frames := 3, cells := 0, slots := 0, locals := 67 } s m args below meth c H locs 0 0 (m_Qi below D ad A args s post) (F0 m 89 ls [.int k0]) := by
  refine lv_istore_n (lv' := [(3, .int k0), (0, .ref (m_h ad)), (2, .int v2)]) C.1 C.2.1 dX1_takeSmall_89 rfl hl (by decide) rfl (fun ls hl => ?_)
  refine lv_iload_n C.1 C.2.1 dX1_takeSmall_90 rfl (lv_at hl 0 rfl) ?_
  refine lv_if_lt (tgt := 99) C.1 C.2.1 dX1_takeSmall_91 (by decide) (fun hc => ?_) (fun hc => ?_)
  · replace hf := hf.1 hc
    exact bM_takeSmall_99 C Wd hf (lv_sub hl [1, 2] rfl)
  · replace hf := hf.2 hc
    refine lv_aload_n C.1 C.2.1 dX1_takeSmall_94 rfl (lv_at hl 1 rfl) ?_
    refine lv_iload_n C.1 C.2.1 dX1_takeSmall_95 rfl (lv_at hl 0 rfl) ?_
    refine m_callvv (As := [.int k0]) (rest := []) C Wd (cM_store l D ad k0) sM_store (by decide) rfl hl.1 rfl (Nat.le_of_ble_eq_true rfl) (by decide) dX1_takeSmall_96 hf (fun σ96 H locs hf Wd => ?_)
    exact bM_takeSmall_99 C Wd hf (lv_sub hl [1, 2] rfl)
set_option maxHeartbeats 4000000 in
set_option maxRecDepth 100000 in
theorem bM_takeSmall_15 {p : Program} {l : Launch} {e : Env} {s : State} {m : MethodId} {args : Array Value} {below : List Frame} {meth : Method} {c : Code} {D : va_G} {ad : MA} {A : Nat → Prop} (C : m_C p s m args meth c cX1_takeSmall 4 (some .int)) {post : Int32 → MS → Prop} {σ : MS} {H : Heap} {locs : List Loc} {ls : Array Slot} {v1 : Int32} {k1 : Int32} {k0 : Int32} (Wd : m_W D ad σ A s H locs) (hf : wM_takeSmall_15 (m_lim ad) σ v1 k1 k0 post) (hl : lv_has ls 4 [(0, .ref (m_h ad)), (1, .int v1)]) : W p l e { frames := 3, cells := 0, slots := 0, locals := 67 } s m args below meth c H locs 0 0 (m_Qi below D ad A args s post) (F0 m 15 ls [.int k0, .int k1, .ref (m_h ad)]) := by
  refine m_calliv (As := [.int k1, .int k0]) (rest := []) C Wd (cM_best l D ad k1 k0) sM_best (by decide) rfl hl.1 rfl (Nat.le_of_ble_eq_true rfl) (by decide) dX1_takeSmall_15 hf (fun r15 σ15 H locs hf Wd => ?_)
  refine lv_istore_n (lv' := [(2, .int r15), (0, .ref (m_h ad)), (1, .int v1)]) C.1 C.2.1 dX1_takeSmall_18 rfl hl (by decide) rfl (fun ls hl => ?_)
  refine lv_iload_n C.1 C.2.1 dX1_takeSmall_19 rfl (lv_at hl 0 rfl) ?_
  refine lv_if_lt (tgt := 32) C.1 C.2.1 dX1_takeSmall_20 (by decide) (fun hc => ?_) (fun hc => ?_)
  · replace hf := hf.1 hc
    refine lv_aload_n C.1 C.2.1 dX1_takeSmall_32 rfl (lv_at hl 1 rfl) ?_
    refine lv_iload_n C.1 C.2.1 dX1_takeSmall_33 rfl (lv_at hl 2 rfl) ?_
    refine m_calliv (As := [.int v1]) (rest := []) C Wd (cM_fromVictim l D ad v1) sM_fromVictim (by decide) rfl hl.1 rfl (Nat.le_of_ble_eq_true rfl) (by decide) dX1_takeSmall_34 hf (fun r34 σ34 H locs hf Wd => ?_)
    refine lv_istore_n (lv' := [(2, .int r34), (0, .ref (m_h ad)), (1, .int v1)]) C.1 C.2.1 dX1_takeSmall_37 rfl hl (by decide) rfl (fun ls hl => ?_)
    refine lv_iload_n C.1 C.2.1 dX1_takeSmall_38 rfl (lv_at hl 0 rfl) ?_
    refine lv_if_lt (tgt := 44) C.1 C.2.1 dX1_takeSmall_39 (by decide) (fun hc => ?_) (fun hc => ?_)
    · replace hf := hf.1 hc
      refine lv_aload_n C.1 C.2.1 dX1_takeSmall_44 rfl (lv_at hl 1 rfl) ?_
      refine lv_iload_n C.1 C.2.1 dX1_takeSmall_45 rfl (lv_at hl 2 rfl) ?_
      refine lv_iconst (v := 1) C.1 C.2.1 dX1_takeSmall_46 (by decide) ?_
      refine lv_iadd C.1 C.2.1 dX1_takeSmall_47 ?_
      refine lv_sipush (v := 1000) C.1 C.2.1 dX1_takeSmall_48 (by decide) ?_
      refine m_calliv (As := [.int (v1 + 1), .int 1000]) (rest := []) C Wd (cM_best l D ad (v1 + 1) 1000) sM_best (by decide) rfl hl.1 rfl (Nat.le_of_ble_eq_true rfl) (by decide) dX1_takeSmall_51 hf (fun r51 σ51 H locs hf Wd => ?_)
      refine lv_istore_n (lv' := [(2, .int r51), (0, .ref (m_h ad)), (1, .int v1)]) C.1 C.2.1 dX1_takeSmall_54 rfl hl (by decide) rfl (fun ls hl => ?_)
      refine lv_iload_n C.1 C.2.1 dX1_takeSmall_55 rfl (lv_at hl 0 rfl) ?_
      refine lv_if_ge (tgt := 61) C.1 C.2.1 dX1_takeSmall_56 (by decide) (fun hc => ?_) (fun hc => ?_)
      · replace hf := hf.1 hc
        refine lv_aload_n C.1 C.2.1 dX1_takeSmall_61 rfl (lv_at hl 1 rfl) ?_
        refine lv_iload_n C.1 C.2.1 dX1_takeSmall_62 rfl (lv_at hl 0 rfl) ?_
        refine lv_iload_n C.1 C.2.1 dX1_takeSmall_63 rfl (lv_at hl 2 rfl) ?_
        refine m_calliv (As := [.int r51, .int v1]) (rest := []) C Wd (cM_cut l D ad r51 v1) sM_cut (by decide) rfl hl.1 rfl (Nat.le_of_ble_eq_true rfl) (by decide) dX1_takeSmall_64 hf (fun r64 σ64 H locs hf Wd => ?_)
        refine lv_if_eq (tgt := 111) C.1 C.2.1 dX1_takeSmall_67 (by decide) (fun hc => ?_) (fun hc => ?_)
        · replace hf := hf.1 hc
          refine lv_iload_n C.1 C.2.1 dX1_takeSmall_111 rfl (lv_at hl 0 rfl) ?_
          exact m_iret C Wd hf dX1_takeSmall_112
        · replace hf := hf.2 hc
          refine lv_aload_n C.1 C.2.1 dX1_takeSmall_70 rfl (lv_at hl 1 rfl) ?_
          refine m_get_vi C Wd dX1_takeSmall_71 ?_
          refine lv_if_ge (tgt := 81) C.1 C.2.1 dX1_takeSmall_74 (by decide) (fun hc => ?_) (fun hc => ?_)
          · replace hf := hf.1 hc
            refine lv_aload_n C.1 C.2.1 dX1_takeSmall_81 rfl (lv_at hl 1 rfl) ?_
            refine lv_aload_n C.1 C.2.1 dX1_takeSmall_82 rfl (lv_at hl 1 rfl) ?_
            refine m_get_vi C Wd dX1_takeSmall_83 ?_
            refine m_calliv (As := [.int (m_vi σ64)]) (rest := []) C Wd (cM_at l D ad (m_vi σ64)) sM_at (by decide) rfl hl.1 rfl (Nat.le_of_ble_eq_true rfl) (by decide) dX1_takeSmall_86 hf (fun r86 σ86 H locs hf Wd => ?_)
            exact bM_takeSmall_89 C Wd hf (lv_sub hl [1, 0] rfl)
          · replace hf := hf.2 hc
            refine lv_iconst (v := (-1)) C.1 C.2.1 dX1_takeSmall_77 (by decide) ?_
            refine lv_goto (tgt := 89) C.1 C.2.1 dX1_takeSmall_78 (by decide) ?_
            exact bM_takeSmall_89 C Wd hf (lv_sub hl [1, 0] rfl)
      · replace hf := hf.2 hc
        refine lv_iconst (v := (-1)) C.1 C.2.1 dX1_takeSmall_59 (by decide) ?_
        exact m_iret C Wd hf dX1_takeSmall_60
    · replace hf := hf.2 hc
      refine lv_iload_n C.1 C.2.1 dX1_takeSmall_42 rfl (lv_at hl 0 rfl) ?_
      exact m_iret C Wd hf dX1_takeSmall_43
  · replace hf := hf.2 hc
    refine lv_aload_n C.1 C.2.1 dX1_takeSmall_23 rfl (lv_at hl 1 rfl) ?_
    refine m_get_us C Wd dX1_takeSmall_24 ?_
    refine lv_iload_n C.1 C.2.1 dX1_takeSmall_27 rfl (lv_at hl 0 rfl) ?_
    refine lv_iconst (v := 1) C.1 C.2.1 dX1_takeSmall_28 (by decide) ?_
    refine m_ast_us C Wd hf.1 rfl dX1_takeSmall_29 (fun H locs Wd => ?_)
    replace hf := hf.2
    refine lv_iload_n C.1 C.2.1 dX1_takeSmall_30 rfl (lv_at hl 0 rfl) ?_
    exact m_iret C Wd hf dX1_takeSmall_31
set_option maxHeartbeats 4000000 in
set_option maxRecDepth 100000 in
theorem cM_takeSmall (l : Launch) (D : va_G) (ad : MA) (v1 : Int32) : m_Mi l D yX1_takeSmall cX1_takeSmall 4 (some .int) { frames := 3, cells := 0, slots := 0, locals := 67 } ad [.ref (m_h ad), .int v1] (fun σ post => wM_takeSmall (m_lim ad) σ v1 post) := by
  refine m_ofi ⟨by decide, rfl, Nat.le_of_ble_eq_true rfl⟩ (fun {p e s m args below meth c σ A post ls} C Wd hf hl => ?_)
  replace hl : lv_has ls 4 [(0, .ref (m_h ad)), (1, .int v1)] := hl
  refine lv_aload_n C.1 C.2.1 dX1_takeSmall_0 rfl (lv_at hl 0 rfl) ?_
  refine lv_iload_n C.1 C.2.1 dX1_takeSmall_1 rfl (lv_at hl 1 rfl) ?_
  refine lv_iload_n C.1 C.2.1 dX1_takeSmall_2 rfl (lv_at hl 1 rfl) ?_
  refine lv_bipush (v := 15) C.1 C.2.1 dX1_takeSmall_3 (by decide) ?_
  refine lv_icmp_ge (tgt := 14) C.1 C.2.1 dX1_takeSmall_5 (by decide) (fun hc => ?_) (fun hc => ?_)
  · replace hf := hf.1 hc
    refine lv_iload_n C.1 C.2.1 dX1_takeSmall_14 rfl (lv_at hl 1 rfl) ?_
    exact bM_takeSmall_15 C Wd hf hl
  · replace hf := hf.2 hc
    refine lv_iload_n C.1 C.2.1 dX1_takeSmall_8 rfl (lv_at hl 1 rfl) ?_
    refine lv_iconst (v := 1) C.1 C.2.1 dX1_takeSmall_9 (by decide) ?_
    refine lv_iadd C.1 C.2.1 dX1_takeSmall_10 ?_
    refine lv_goto (tgt := 15) C.1 C.2.1 dX1_takeSmall_11 (by decide) ?_
    exact bM_takeSmall_15 C Wd hf hl
set_option maxHeartbeats 4000000 in
set_option maxRecDepth 100000 in
theorem bM_takeLarge_80 {p : Program} {l : Launch} {e : Env} {s : State} {m : MethodId} {args : Array Value} {below : List Frame} {meth : Method} {c : Code} {D : va_G} {ad : MA} {A : Nat → Prop} (C : m_C p s m args meth c cX1_takeLarge 4 (some .int)) {post : Int32 → MS → Prop} {σ : MS} {H : Heap} {locs : List Loc} {ls : Array Slot} {v1 : Int32} (Wd : m_W D ad σ A s H locs) (hf : wM_takeLarge_80 (m_lim ad) σ v1 post) (hl : lv_has ls 4 [(0, .ref (m_h ad)), (1, .int v1)]) : W p l e { frames := 3, cells := 0, slots := 0, locals := 67 } s m args below meth c H locs 0 0 (m_Qi below D ad A args s post) (F0 m 80 ls []) := by
  refine lv_aload_n C.1 C.2.1 dX1_takeLarge_80 rfl (lv_at hl 0 rfl) ?_
  refine lv_iload_n C.1 C.2.1 dX1_takeLarge_81 rfl (lv_at hl 1 rfl) ?_
  refine m_calliv (As := [.int v1]) (rest := []) C Wd (cM_fromVictim l D ad v1) sM_fromVictim (by decide) rfl hl.1 rfl (Nat.le_of_ble_eq_true rfl) (by decide) dX1_takeLarge_82 hf (fun r82 σ82 H locs hf Wd => ?_)
  exact m_iret C Wd hf dX1_takeLarge_85
set_option maxHeartbeats 4000000 in
set_option maxRecDepth 100000 in
theorem bM_takeLarge_62 {p : Program} {l : Launch} {e : Env} {s : State} {m : MethodId} {args : Array Value} {below : List Frame} {meth : Method} {c : Code} {D : va_G} {ad : MA} {A : Nat → Prop} (C : m_C p s m args meth c cX1_takeLarge 4 (some .int)) {post : Int32 → MS → Prop} {σ : MS} {H : Heap} {locs : List Loc} {ls : Array Slot} {v1 : Int32} {v2 : Int32} (Wd : m_W D ad σ A s H locs) (hf : wM_takeLarge_62 (m_lim ad) σ v1 v2 post) (hl : lv_has ls 4 [(0, .ref (m_h ad)), (1, .int v1), (2, .int v2)]) : W p l e { frames := 3, cells := 0, slots := 0, locals := 67 } s m args below meth c H locs 0 0 (m_Qi below D ad A args s post) (F0 m 62 ls []) := by
  refine lv_aload_n C.1 C.2.1 dX1_takeLarge_62 rfl (lv_at hl 0 rfl) ?_
  refine lv_iload_n C.1 C.2.1 dX1_takeLarge_63 rfl (lv_at hl 2 rfl) ?_
  refine lv_iload_n C.1 C.2.1 dX1_takeLarge_64 rfl (lv_at hl 1 rfl) ?_
  refine m_calliv (As := [.int v2, .int v1]) (rest := []) C Wd (cM_cut l D ad v2 v1) sM_cut (by decide) rfl hl.1 rfl (Nat.le_of_ble_eq_true rfl) (by decide) dX1_takeLarge_65 hf (fun r65 σ65 H locs hf Wd => ?_)
  refine lv_if_eq (tgt := 78) C.1 C.2.1 dX1_takeLarge_68 (by decide) (fun hc => ?_) (fun hc => ?_)
  · replace hf := hf.1 hc
    refine lv_iload_n C.1 C.2.1 dX1_takeLarge_78 rfl (lv_at hl 2 rfl) ?_
    exact m_iret C Wd hf dX1_takeLarge_79
  · replace hf := hf.2 hc
    refine lv_aload_n C.1 C.2.1 dX1_takeLarge_71 rfl (lv_at hl 0 rfl) ?_
    refine lv_iload_n C.1 C.2.1 dX1_takeLarge_72 rfl (lv_at hl 2 rfl) ?_
    refine lv_iconst (v := 1) C.1 C.2.1 dX1_takeLarge_73 (by decide) ?_
    refine lv_iadd C.1 C.2.1 dX1_takeLarge_74 ?_
    refine m_callvv (As := [.int (v2 + 1)]) (rest := []) C Wd (cM_store l D ad (v2 + 1)) sM_store (by decide) rfl hl.1 rfl (Nat.le_of_ble_eq_true rfl) (by decide) dX1_takeLarge_75 hf (fun σ75 H locs hf Wd => ?_)
    refine lv_iload_n C.1 C.2.1 dX1_takeLarge_78 rfl (lv_at hl 2 rfl) ?_
    exact m_iret C Wd hf dX1_takeLarge_79
set_option maxHeartbeats 4000000 in
set_option maxRecDepth 100000 in
theorem bM_takeLarge_28 {p : Program} {l : Launch} {e : Env} {s : State} {m : MethodId} {args : Array Value} {below : List Frame} {meth : Method} {c : Code} {D : va_G} {ad : MA} {A : Nat → Prop} (C : m_C p s m args meth c cX1_takeLarge 4 (some .int)) {post : Int32 → MS → Prop} {σ : MS} {H : Heap} {locs : List Loc} {ls : Array Slot} {v1 : Int32} {v2 : Int32} {k0 : Int32} (Wd : m_W D ad σ A s H locs) (hf : wM_takeLarge_28 (m_lim ad) σ v1 v2 k0 post) (hl : lv_has ls 4 [(0, .ref (m_h ad)), (1, .int v1), (2, .int v2)]) : W p l e { frames := 3, cells := 0, slots := 0, locals := 67 } s m args below meth c H locs 0 0 (m_Qi below D ad A args s post) (F0 m 28 ls [.int k0]) := by
  refine lv_istore_n (lv' := [(3, .int k0), (0, .ref (m_h ad)), (1, .int v1), (2, .int v2)]) C.1 C.2.1 dX1_takeLarge_28 rfl hl (by decide) rfl (fun ls hl => ?_)
  refine lv_iload_n C.1 C.2.1 dX1_takeLarge_29 rfl (lv_at hl 3 rfl) ?_
  refine lv_if_lt (tgt := 80) C.1 C.2.1 dX1_takeLarge_30 (by decide) (fun hc => ?_) (fun hc => ?_)
  · replace hf := hf.1 hc
    exact bM_takeLarge_80 C Wd hf (lv_sub hl [1, 2] rfl)
  · replace hf := hf.2 hc
    refine lv_iload_n C.1 C.2.1 dX1_takeLarge_33 rfl (lv_at hl 0 rfl) ?_
    refine lv_if_lt (tgt := 62) C.1 C.2.1 dX1_takeLarge_34 (by decide) (fun hc => ?_) (fun hc => ?_)
    · replace hf := hf.1 hc
      exact bM_takeLarge_62 C Wd hf (lv_sub hl [1, 2, 3] rfl)
    · replace hf := hf.2 hc
      refine lv_aload_n C.1 C.2.1 dX1_takeLarge_37 rfl (lv_at hl 1 rfl) ?_
      refine m_get_sz C Wd dX1_takeLarge_38 ?_
      refine lv_iload_n C.1 C.2.1 dX1_takeLarge_41 rfl (lv_at hl 0 rfl) ?_
      refine m_ald_sz C Wd hf.1 dX1_takeLarge_42 ?_
      replace hf := hf.2
      refine lv_iload_n C.1 C.2.1 dX1_takeLarge_43 rfl (lv_at hl 2 rfl) ?_
      refine lv_icmp_lt (tgt := 62) C.1 C.2.1 dX1_takeLarge_44 (by decide) (fun hc => ?_) (fun hc => ?_)
      · replace hf := hf.1 hc
        exact bM_takeLarge_62 C Wd hf (lv_sub hl [1, 2, 3] rfl)
      · replace hf := hf.2 hc
        refine lv_aload_n C.1 C.2.1 dX1_takeLarge_47 rfl (lv_at hl 1 rfl) ?_
        refine m_get_sz C Wd dX1_takeLarge_48 ?_
        refine lv_iload_n C.1 C.2.1 dX1_takeLarge_51 rfl (lv_at hl 3 rfl) ?_
        refine m_ald_sz C Wd hf.1 dX1_takeLarge_52 ?_
        replace hf := hf.2
        refine lv_aload_n C.1 C.2.1 dX1_takeLarge_53 rfl (lv_at hl 1 rfl) ?_
        refine m_get_sz C Wd dX1_takeLarge_54 ?_
        refine lv_iload_n C.1 C.2.1 dX1_takeLarge_57 rfl (lv_at hl 0 rfl) ?_
        refine m_ald_sz C Wd hf.1 dX1_takeLarge_58 ?_
        replace hf := hf.2
        refine lv_icmp_ge (tgt := 80) C.1 C.2.1 dX1_takeLarge_59 (by decide) (fun hc => ?_) (fun hc => ?_)
        · replace hf := hf.1 hc
          exact bM_takeLarge_80 C Wd hf (lv_sub hl [1, 2] rfl)
        · replace hf := hf.2 hc
          exact bM_takeLarge_62 C Wd hf (lv_sub hl [1, 2, 3] rfl)
set_option maxHeartbeats 4000000 in
set_option maxRecDepth 100000 in
theorem cM_takeLarge (l : Launch) (D : va_G) (ad : MA) (v1 : Int32) : m_Mi l D yX1_takeLarge cX1_takeLarge 4 (some .int) { frames := 3, cells := 0, slots := 0, locals := 67 } ad [.ref (m_h ad), .int v1] (fun σ post => wM_takeLarge (m_lim ad) σ v1 post) := by
  refine m_ofi ⟨by decide, rfl, Nat.le_of_ble_eq_true rfl⟩ (fun {p e s m args below meth c σ A post ls} C Wd hf hl => ?_)
  replace hl : lv_has ls 4 [(0, .ref (m_h ad)), (1, .int v1)] := hl
  refine lv_aload_n C.1 C.2.1 dX1_takeLarge_0 rfl (lv_at hl 0 rfl) ?_
  refine lv_iload_n C.1 C.2.1 dX1_takeLarge_1 rfl (lv_at hl 1 rfl) ?_
  refine lv_sipush (v := 1000) C.1 C.2.1 dX1_takeLarge_2 (by decide) ?_
  refine m_calliv (As := [.int v1, .int 1000]) (rest := []) C Wd (cM_best l D ad v1 1000) sM_best (by decide) rfl hl.1 rfl (Nat.le_of_ble_eq_true rfl) (by decide) dX1_takeLarge_5 hf (fun r5 σ5 H locs hf Wd => ?_)
  refine lv_istore_n (lv' := [(2, .int r5), (0, .ref (m_h ad)), (1, .int v1)]) C.1 C.2.1 dX1_takeLarge_8 rfl hl (by decide) rfl (fun ls hl => ?_)
  refine lv_aload_n C.1 C.2.1 dX1_takeLarge_9 rfl (lv_at hl 1 rfl) ?_
  refine m_get_vi C Wd dX1_takeLarge_10 ?_
  refine lv_if_ge (tgt := 20) C.1 C.2.1 dX1_takeLarge_13 (by decide) (fun hc => ?_) (fun hc => ?_)
  · replace hf := hf.1 hc
    refine lv_aload_n C.1 C.2.1 dX1_takeLarge_20 rfl (lv_at hl 1 rfl) ?_
    refine lv_aload_n C.1 C.2.1 dX1_takeLarge_21 rfl (lv_at hl 1 rfl) ?_
    refine m_get_vi C Wd dX1_takeLarge_22 ?_
    refine m_calliv (As := [.int (m_vi σ5)]) (rest := []) C Wd (cM_at l D ad (m_vi σ5)) sM_at (by decide) rfl hl.1 rfl (Nat.le_of_ble_eq_true rfl) (by decide) dX1_takeLarge_25 hf (fun r25 σ25 H locs hf Wd => ?_)
    exact bM_takeLarge_28 C Wd hf (lv_sub hl [1, 2, 0] rfl)
  · replace hf := hf.2 hc
    refine lv_iconst (v := (-1)) C.1 C.2.1 dX1_takeLarge_16 (by decide) ?_
    refine lv_goto (tgt := 28) C.1 C.2.1 dX1_takeLarge_17 (by decide) ?_
    exact bM_takeLarge_28 C Wd hf (lv_sub hl [1, 2, 0] rfl)
set_option maxHeartbeats 4000000 in
set_option maxRecDepth 100000 in
theorem bM_grow_128 {p : Program} {l : Launch} {e : Env} {s : State} {m : MethodId} {args : Array Value} {below : List Frame} {meth : Method} {c : Code} {D : va_G} {ad : MA} {A : Nat → Prop} (C : m_C p s m args meth c cX1_grow 5 (some .boolean)) {post : Int32 → MS → Prop} {σ : MS} {H : Heap} {locs : List Loc} {ls : Array Slot} {v2 : Int32} (Wd : m_W D ad σ A s H locs) (hf : wM_grow_128 (m_lim ad) σ v2 post) (hl : lv_has ls 5 [(0, .ref (m_h ad)), (2, .int v2)]) : W p l e { frames := 1, cells := 0, slots := 0, locals := 20 } s m args below meth c H locs 0 0 (m_Qi below D ad A args s post) (F0 m 128 ls []) := by
  refine lv_aload_n C.1 C.2.1 dX1_grow_128 rfl (lv_at hl 0 rfl) ?_
  refine lv_aload_n C.1 C.2.1 dX1_grow_129 rfl (lv_at hl 0 rfl) ?_
  refine m_get_en C Wd dX1_grow_130 ?_
  refine lv_iload_n C.1 C.2.1 dX1_grow_133 rfl (lv_at hl 1 rfl) ?_
  refine lv_iadd C.1 C.2.1 dX1_grow_134 ?_
  refine m_put_en C Wd dX1_grow_135 (fun H locs Wd => ?_)
  refine lv_iconst (v := 1) C.1 C.2.1 dX1_grow_138 (by decide) ?_
  exact m_zret C Wd (by decide) hf dX1_grow_139
set_option maxHeartbeats 4000000 in
set_option maxRecDepth 100000 in
theorem bM_grow_103_f {p : Program} {l : Launch} {e : Env} {s : State} {m : MethodId} {args : Array Value} {below : List Frame} {meth : Method} {c : Code} {D : va_G} {ad : MA} {A : Nat → Prop} (C : m_C p s m args meth c cX1_grow 5 (some .boolean)) {post : Int32 → MS → Prop} : ∀ (f : Nat) (σ : MS) (H : Heap) (locs : List Loc) (ls : Array Slot) (v2 : Int32) (v4 : Int32), m_W D ad σ A s H locs → wM_grow_103 (m_lim ad) post f σ v2 v4 → lv_has ls 5 [(0, .ref (m_h ad)), (2, .int v2), (4, .int v4)] → W p l e { frames := 1, cells := 0, slots := 0, locals := 20 } s m args below meth c H locs 0 0 (m_Qi below D ad A args s post) (F0 m 103 ls []) := by
  intro f
  induction f with
  | zero => intro σ H locs ls v2 v4 Wd hf hl; exact False.elim hf
  | succ f ih =>
    intro σ H locs ls v2 v4 Wd hf hl
    replace hf : wM_grow_103_s (m_lim ad) post (wM_grow_103 (m_lim ad) post f) σ v2 v4 := hf
    refine lv_iload C.1 C.2.1 dX1_grow_103 (lv_at hl 2 rfl) ?_
    refine lv_aload_n C.1 C.2.1 dX1_grow_105 rfl (lv_at hl 0 rfl) ?_
    refine m_get_en C Wd dX1_grow_106 ?_
    refine lv_iload_n C.1 C.2.1 dX1_grow_109 rfl (lv_at hl 1 rfl) ?_
    refine lv_iadd C.1 C.2.1 dX1_grow_110 ?_
    refine lv_icmp_ge (tgt := 128) C.1 C.2.1 dX1_grow_111 (by decide) (fun hc => ?_) (fun hc => ?_)
    · replace hf := hf.1 hc
      exact bM_grow_128 C Wd hf (lv_sub hl [0, 1] rfl)
    · replace hf := hf.2 hc
      refine lv_aload_n C.1 C.2.1 dX1_grow_114 rfl (lv_at hl 0 rfl) ?_
      refine m_get_un C Wd dX1_grow_115 ?_
      refine lv_iload C.1 C.2.1 dX1_grow_118 (lv_at hl 2 rfl) ?_
      refine lv_iconst (v := 0) C.1 C.2.1 dX1_grow_120 (by decide) ?_
      refine m_ast_un C Wd hf.1 dX1_grow_121 (fun H locs Wd => ?_)
      replace hf := hf.2
      refine lv_iinc (v := v4 + 1) (lv' := [(4, .int (v4 + 1)), (0, .ref (m_h ad)), (2, .int v2)]) C.1 C.2.1 dX1_grow_122 hl (k := 2) rfl rfl (by decide) rfl (fun ls hl => ?_)
      refine lv_goto (tgt := 103) C.1 C.2.1 dX1_grow_125 (by decide) ?_
      exact ih _ _ _ _ _ _  Wd hf (lv_sub hl [1, 2, 0] rfl)
theorem bM_grow_103 {p : Program} {l : Launch} {e : Env} {s : State} {m : MethodId} {args : Array Value} {below : List Frame} {meth : Method} {c : Code} {D : va_G} {ad : MA} {A : Nat → Prop} (C : m_C p s m args meth c cX1_grow 5 (some .boolean)) {post : Int32 → MS → Prop} {σ : MS} {H : Heap} {locs : List Loc} {ls : Array Slot} {v2 : Int32} {v4 : Int32} (Wd : m_W D ad σ A s H locs) (hf : ∃ f : Nat, wM_grow_103 (m_lim ad) post f σ v2 v4) (hl : lv_has ls 5 [(0, .ref (m_h ad)), (2, .int v2), (4, .int v4)]) : W p l e { frames := 1, cells := 0, slots := 0, locals := 20 } s m args below meth c H locs 0 0 (m_Qi below D ad A args s post) (F0 m 103 ls []) := by
  obtain ⟨f, hf⟩ := hf
  exact bM_grow_103_f C f σ H locs ls v2 v4 Wd hf hl
set_option maxHeartbeats 4000000 in
set_option maxRecDepth 100000 in
theorem bM_grow_83 {p : Program} {l : Launch} {e : Env} {s : State} {m : MethodId} {args : Array Value} {below : List Frame} {meth : Method} {c : Code} {D : va_G} {ad : MA} {A : Nat → Prop} (C : m_C p s m args meth c cX1_grow 5 (some .boolean)) {post : Int32 → MS → Prop} {σ : MS} {H : Heap} {locs : List Loc} {ls : Array Slot} {v2 : Int32} {v3 : Int32} (Wd : m_W D ad σ A s H locs) (hf : wM_grow_83 (m_lim ad) σ v2 v3 post) (hl : lv_has ls 5 [(0, .ref (m_h ad)), (2, .int v2), (3, .int v3)]) : W p l e { frames := 1, cells := 0, slots := 0, locals := 20 } s m args below meth c H locs 0 0 (m_Qi below D ad A args s post) (F0 m 83 ls []) := by
  refine lv_aload_n C.1 C.2.1 dX1_grow_83 rfl (lv_at hl 0 rfl) ?_
  refine m_get_sz C Wd dX1_grow_84 ?_
  refine lv_iload_n C.1 C.2.1 dX1_grow_87 rfl (lv_at hl 2 rfl) ?_
  refine lv_aload_n C.1 C.2.1 dX1_grow_88 rfl (lv_at hl 0 rfl) ?_
  refine m_get_sz C Wd dX1_grow_89 ?_
  refine lv_iload_n C.1 C.2.1 dX1_grow_92 rfl (lv_at hl 2 rfl) ?_
  refine m_ald_sz C Wd hf.1 dX1_grow_93 ?_
  replace hf := hf.2
  refine lv_iload_n C.1 C.2.1 dX1_grow_94 rfl (lv_at hl 1 rfl) ?_
  refine lv_iadd C.1 C.2.1 dX1_grow_95 ?_
  refine m_ast_sz C Wd hf.1 dX1_grow_96 (fun H locs Wd => ?_)
  replace hf := hf.2
  refine lv_aload_n C.1 C.2.1 dX1_grow_97 rfl (lv_at hl 0 rfl) ?_
  refine m_get_en C Wd dX1_grow_98 ?_
  refine lv_istore (lv' := [(4, .int (m_en (m_ssz σ (upd (m_sz σ) v3.toNatClampNeg ((m_sz σ v3.toNatClampNeg) + v2))))), (0, .ref (m_h ad)), (2, .int v2), (3, .int v3)]) C.1 C.2.1 dX1_grow_101 hl (by decide) rfl (fun ls hl => ?_)
  exact bM_grow_103 C Wd hf (lv_sub hl [1, 2, 0] rfl)
set_option maxHeartbeats 4000000 in
set_option maxRecDepth 100000 in
theorem cM_grow (l : Launch) (D : va_G) (ad : MA) (v1 : Int32) : m_Mi l D yX1_grow cX1_grow 5 (some .boolean) { frames := 1, cells := 0, slots := 0, locals := 20 } ad [.ref (m_h ad), .int v1] (fun σ post => wM_grow (m_lim ad) σ v1 post) := by
  refine m_ofi ⟨by decide, rfl, Nat.le_of_ble_eq_true rfl⟩ (fun {p e s m args below meth c σ A post ls} C Wd hf hl => ?_)
  replace hl : lv_has ls 5 [(0, .ref (m_h ad)), (1, .int v1)] := hl
  refine lv_iload_n C.1 C.2.1 dX1_grow_0 rfl (lv_at hl 1 rfl) ?_
  refine lv_bipush (v := 15) C.1 C.2.1 dX1_grow_1 (by decide) ?_
  refine lv_iadd C.1 C.2.1 dX1_grow_3 ?_
  refine lv_bipush (v := 16) C.1 C.2.1 dX1_grow_4 (by decide) ?_
  refine lv_idiv C.1 C.2.1 dX1_grow_6 (by decide) ?_
  refine lv_bipush (v := 16) C.1 C.2.1 dX1_grow_7 (by decide) ?_
  refine lv_imul C.1 C.2.1 dX1_grow_9 ?_
  refine lv_istore_n (lv' := [(2, .int (((v1 + 15) / 16) * 16)), (0, .ref (m_h ad)), (1, .int v1)]) C.1 C.2.1 dX1_grow_10 rfl hl (by decide) rfl (fun ls hl => ?_)
  refine lv_aload_n C.1 C.2.1 dX1_grow_11 rfl (lv_at hl 1 rfl) ?_
  refine m_get_en C Wd dX1_grow_12 ?_
  refine lv_iload_n C.1 C.2.1 dX1_grow_15 rfl (lv_at hl 0 rfl) ?_
  refine lv_iadd C.1 C.2.1 dX1_grow_16 ?_
  refine lv_aload_n C.1 C.2.1 dX1_grow_17 rfl (lv_at hl 1 rfl) ?_
  refine m_get_lim C Wd dX1_grow_18 ?_
  refine lv_icmp_le (tgt := 26) C.1 C.2.1 dX1_grow_21 (by decide) (fun hc => ?_) (fun hc => ?_)
  · replace hf := hf.1 hc
    refine lv_aload_n C.1 C.2.1 dX1_grow_26 rfl (lv_at hl 1 rfl) ?_
    refine m_calliv (As := []) (rest := []) C Wd (cM_top l D ad ) sM_top (by decide) rfl hl.1 rfl (Nat.le_of_ble_eq_true rfl) (by decide) dX1_grow_27 hf (fun r27 σ27 H locs hf Wd => ?_)
    refine lv_istore_n (lv' := [(3, .int r27), (2, .int (((v1 + 15) / 16) * 16)), (0, .ref (m_h ad)), (1, .int v1)]) C.1 C.2.1 dX1_grow_30 rfl hl (by decide) rfl (fun ls hl => ?_)
    refine lv_iload_n C.1 C.2.1 dX1_grow_31 rfl (lv_at hl 0 rfl) ?_
    refine lv_if_ge (tgt := 83) C.1 C.2.1 dX1_grow_32 (by decide) (fun hc => ?_) (fun hc => ?_)
    · replace hf := hf.1 hc
      exact bM_grow_83 C Wd hf (lv_sub hl [2, 1, 0] rfl)
    · replace hf := hf.2 hc
      refine lv_aload_n C.1 C.2.1 dX1_grow_35 rfl (lv_at hl 2 rfl) ?_
      refine m_get_fi C Wd dX1_grow_36 ?_
      refine lv_aload_n C.1 C.2.1 dX1_grow_39 rfl (lv_at hl 2 rfl) ?_
      refine m_get_ch C Wd dX1_grow_40 ?_
      refine lv_aload_n C.1 C.2.1 dX1_grow_43 rfl (lv_at hl 2 rfl) ?_
      refine m_get_en C Wd dX1_grow_44 ?_
      refine m_ast_fi C Wd hf.1 dX1_grow_47 (fun H locs Wd => ?_)
      replace hf := hf.2
      refine lv_aload_n C.1 C.2.1 dX1_grow_48 rfl (lv_at hl 2 rfl) ?_
      refine m_get_sz C Wd dX1_grow_49 ?_
      refine lv_aload_n C.1 C.2.1 dX1_grow_52 rfl (lv_at hl 2 rfl) ?_
      refine m_get_ch C Wd dX1_grow_53 ?_
      refine lv_iconst (v := 0) C.1 C.2.1 dX1_grow_56 (by decide) ?_
      refine m_ast_sz C Wd hf.1 dX1_grow_57 (fun H locs Wd => ?_)
      replace hf := hf.2
      refine lv_aload_n C.1 C.2.1 dX1_grow_58 rfl (lv_at hl 2 rfl) ?_
      refine m_get_us C Wd dX1_grow_59 ?_
      refine lv_aload_n C.1 C.2.1 dX1_grow_62 rfl (lv_at hl 2 rfl) ?_
      refine m_get_ch C Wd dX1_grow_63 ?_
      refine lv_iconst (v := 0) C.1 C.2.1 dX1_grow_66 (by decide) ?_
      refine m_ast_us C Wd hf.1 rfl dX1_grow_67 (fun H locs Wd => ?_)
      replace hf := hf.2
      refine lv_aload_n C.1 C.2.1 dX1_grow_68 rfl (lv_at hl 2 rfl) ?_
      refine m_get_ch C Wd dX1_grow_69 ?_
      refine lv_istore_n (lv' := [(3, .int (m_ch (m_sus (m_ssz (m_sfi σ27 (upd (m_fi σ27) (m_ch σ27).toNatClampNeg (m_en σ27))) (upd (m_sz (m_sfi σ27 (upd (m_fi σ27) (m_ch σ27).toNatClampNeg (m_en σ27)))) (m_ch (m_sfi σ27 (upd (m_fi σ27) (m_ch σ27).toNatClampNeg (m_en σ27)))).toNatClampNeg 0)) (upd (m_us (m_ssz (m_sfi σ27 (upd (m_fi σ27) (m_ch σ27).toNatClampNeg (m_en σ27))) (upd (m_sz (m_sfi σ27 (upd (m_fi σ27) (m_ch σ27).toNatClampNeg (m_en σ27)))) (m_ch (m_sfi σ27 (upd (m_fi σ27) (m_ch σ27).toNatClampNeg (m_en σ27)))).toNatClampNeg 0))) (m_ch (m_ssz (m_sfi σ27 (upd (m_fi σ27) (m_ch σ27).toNatClampNeg (m_en σ27))) (upd (m_sz (m_sfi σ27 (upd (m_fi σ27) (m_ch σ27).toNatClampNeg (m_en σ27)))) (m_ch (m_sfi σ27 (upd (m_fi σ27) (m_ch σ27).toNatClampNeg (m_en σ27)))).toNatClampNeg 0))).toNatClampNeg 0)))), (2, .int (((v1 + 15) / 16) * 16)), (0, .ref (m_h ad)), (1, .int v1)]) C.1 C.2.1 dX1_grow_72 rfl hl (by decide) rfl (fun ls hl => ?_)
      refine lv_aload_n C.1 C.2.1 dX1_grow_73 rfl (lv_at hl 2 rfl) ?_
      refine lv_dup C.1 C.2.1 dX1_grow_74 rfl ?_
      refine m_get_ch C Wd dX1_grow_75 ?_
      refine lv_iconst (v := 1) C.1 C.2.1 dX1_grow_78 (by decide) ?_
      refine lv_iadd C.1 C.2.1 dX1_grow_79 ?_
      refine m_put_ch C Wd dX1_grow_80 (fun H locs Wd => ?_)
      exact bM_grow_83 C Wd hf (lv_sub hl [2, 1, 0] rfl)
  · replace hf := hf.2 hc
    refine lv_iconst (v := 0) C.1 C.2.1 dX1_grow_24 (by decide) ?_
    exact m_zret C Wd (by decide) hf dX1_grow_25
end
section
set_option maxHeartbeats 4000000 in
set_option maxRecDepth 100000 in
theorem bM_take_66 {p : Program} {l : Launch} {e : Env} {s : State} {m : MethodId} {args : Array Value} {below : List Frame} {meth : Method} {c : Code} {D : va_G} {ad : MA} {A : Nat → Prop} (C : m_C p s m args meth c cX1_take 6 (some .int)) {post : Int32 → MS → Prop} {σ : MS} {H : Heap} {locs : List Loc} {ls : Array Slot} {v1 : Int32} (Wd : m_W D ad σ A s H locs) (hf : wM_take_66 (m_lim ad) σ v1 post) (hl : lv_has ls 6 [(0, .ref (m_h ad)), (1, .int v1)]) : W p l e { frames := 4, cells := 0, slots := 0, locals := 90 } s m args below meth c H locs 0 0 (m_Qi below D ad A args s post) (F0 m 66 ls []) := by
  refine lv_aload_n C.1 C.2.1 dX1_take_66 rfl (lv_at hl 0 rfl) ?_
  refine m_calliv (As := []) (rest := []) C Wd (cM_top l D ad ) sM_top (by decide) rfl hl.1 rfl (Nat.le_of_ble_eq_true rfl) (by decide) dX1_take_67 hf (fun r67 σ67 H locs hf Wd => ?_)
  refine lv_istore_n (lv' := [(3, .int r67), (0, .ref (m_h ad)), (1, .int v1)]) C.1 C.2.1 dX1_take_70 rfl hl (by decide) rfl (fun ls hl => ?_)
  refine lv_aload_n C.1 C.2.1 dX1_take_71 rfl (lv_at hl 1 rfl) ?_
  refine lv_iload_n C.1 C.2.1 dX1_take_72 rfl (lv_at hl 0 rfl) ?_
  refine lv_iload_n C.1 C.2.1 dX1_take_73 rfl (lv_at hl 2 rfl) ?_
  refine m_calliv (As := [.int r67, .int v1]) (rest := []) C Wd (cM_cut l D ad r67 v1) sM_cut (by decide) rfl hl.1 rfl (Nat.le_of_ble_eq_true rfl) (by decide) dX1_take_74 hf (fun r74 σ74 H locs hf Wd => ?_)
  refine lv_istore (lv' := [(5, .int r74), (3, .int r67), (0, .ref (m_h ad)), (1, .int v1)]) C.1 C.2.1 dX1_take_77 hl (by decide) rfl (fun ls hl => ?_)
  refine lv_iload_n C.1 C.2.1 dX1_take_79 rfl (lv_at hl 1 rfl) ?_
  exact m_iret C Wd hf dX1_take_80
set_option maxHeartbeats 4000000 in
set_option maxRecDepth 100000 in
theorem bM_take_45 {p : Program} {l : Launch} {e : Env} {s : State} {m : MethodId} {args : Array Value} {below : List Frame} {meth : Method} {c : Code} {D : va_G} {ad : MA} {A : Nat → Prop} (C : m_C p s m args meth c cX1_take 6 (some .int)) {post : Int32 → MS → Prop} {σ : MS} {H : Heap} {locs : List Loc} {ls : Array Slot} {v1 : Int32} {k0 : Int32} (Wd : m_W D ad σ A s H locs) (hf : wM_take_45 (m_lim ad) σ v1 k0 post) (hl : lv_has ls 6 [(0, .ref (m_h ad)), (1, .int v1)]) : W p l e { frames := 4, cells := 0, slots := 0, locals := 90 } s m args below meth c H locs 0 0 (m_Qi below D ad A args s post) (F0 m 45 ls [.int k0]) := by
  refine lv_istore (lv' := [(4, .int k0), (0, .ref (m_h ad)), (1, .int v1)]) C.1 C.2.1 dX1_take_45 hl (by decide) rfl (fun ls hl => ?_)
  refine lv_iload C.1 C.2.1 dX1_take_47 (lv_at hl 0 rfl) ?_
  refine lv_iload_n C.1 C.2.1 dX1_take_49 rfl (lv_at hl 2 rfl) ?_
  refine lv_icmp_ge (tgt := 66) C.1 C.2.1 dX1_take_50 (by decide) (fun hc => ?_) (fun hc => ?_)
  · replace hf := hf.1 hc
    exact bM_take_66 C Wd hf (lv_sub hl [1, 2] rfl)
  · replace hf := hf.2 hc
    refine lv_aload_n C.1 C.2.1 dX1_take_53 rfl (lv_at hl 1 rfl) ?_
    refine lv_iload_n C.1 C.2.1 dX1_take_54 rfl (lv_at hl 2 rfl) ?_
    refine lv_iload C.1 C.2.1 dX1_take_55 (lv_at hl 0 rfl) ?_
    refine lv_isub C.1 C.2.1 dX1_take_57 ?_
    refine m_calliv (As := [.int (v1 - k0)]) (rest := []) C Wd (cM_grow l D ad (v1 - k0)) sM_grow (by decide) rfl hl.1 rfl (Nat.le_of_ble_eq_true rfl) (by decide) dX1_take_58 hf (fun r58 σ58 H locs hf Wd => ?_)
    refine lv_if_ne (tgt := 66) C.1 C.2.1 dX1_take_61 (by decide) (fun hc => ?_) (fun hc => ?_)
    · replace hf := hf.1 hc
      exact bM_take_66 C Wd hf (lv_sub hl [1, 2] rfl)
    · replace hf := hf.2 hc
      refine lv_iconst (v := (-1)) C.1 C.2.1 dX1_take_64 (by decide) ?_
      exact m_iret C Wd hf dX1_take_65
set_option maxHeartbeats 4000000 in
set_option maxRecDepth 100000 in
theorem bM_take_19 {p : Program} {l : Launch} {e : Env} {s : State} {m : MethodId} {args : Array Value} {below : List Frame} {meth : Method} {c : Code} {D : va_G} {ad : MA} {A : Nat → Prop} (C : m_C p s m args meth c cX1_take 6 (some .int)) {post : Int32 → MS → Prop} {σ : MS} {H : Heap} {locs : List Loc} {ls : Array Slot} {v1 : Int32} {k0 : Int32} (Wd : m_W D ad σ A s H locs) (hf : wM_take_19 (m_lim ad) σ v1 k0 post) (hl : lv_has ls 6 [(0, .ref (m_h ad)), (1, .int v1)]) : W p l e { frames := 4, cells := 0, slots := 0, locals := 90 } s m args below meth c H locs 0 0 (m_Qi below D ad A args s post) (F0 m 19 ls [.int k0]) := by
  refine lv_istore_n (lv' := [(2, .int k0), (0, .ref (m_h ad)), (1, .int v1)]) C.1 C.2.1 dX1_take_19 rfl hl (by decide) rfl (fun ls hl => ?_)
  refine lv_iload_n C.1 C.2.1 dX1_take_20 rfl (lv_at hl 0 rfl) ?_
  refine lv_if_lt (tgt := 26) C.1 C.2.1 dX1_take_21 (by decide) (fun hc => ?_) (fun hc => ?_)
  · replace hf := hf.1 hc
    refine lv_aload_n C.1 C.2.1 dX1_take_26 rfl (lv_at hl 1 rfl) ?_
    refine m_calliv (As := []) (rest := []) C Wd (cM_top l D ad ) sM_top (by decide) rfl hl.1 rfl (Nat.le_of_ble_eq_true rfl) (by decide) dX1_take_27 hf (fun r27 σ27 H locs hf Wd => ?_)
    refine lv_istore_n (lv' := [(3, .int r27), (2, .int k0), (0, .ref (m_h ad)), (1, .int v1)]) C.1 C.2.1 dX1_take_30 rfl hl (by decide) rfl (fun ls hl => ?_)
    refine lv_iload_n C.1 C.2.1 dX1_take_31 rfl (lv_at hl 0 rfl) ?_
    refine lv_if_ge (tgt := 39) C.1 C.2.1 dX1_take_32 (by decide) (fun hc => ?_) (fun hc => ?_)
    · replace hf := hf.1 hc
      refine lv_aload_n C.1 C.2.1 dX1_take_39 rfl (lv_at hl 2 rfl) ?_
      refine m_get_sz C Wd dX1_take_40 ?_
      refine lv_iload_n C.1 C.2.1 dX1_take_43 rfl (lv_at hl 0 rfl) ?_
      refine m_ald_sz C Wd hf.1 dX1_take_44 ?_
      replace hf := hf.2
      exact bM_take_45 C Wd hf (lv_sub hl [2, 3] rfl)
    · replace hf := hf.2 hc
      refine lv_iconst (v := 0) C.1 C.2.1 dX1_take_35 (by decide) ?_
      refine lv_goto (tgt := 45) C.1 C.2.1 dX1_take_36 (by decide) ?_
      exact bM_take_45 C Wd hf (lv_sub hl [2, 3] rfl)
  · replace hf := hf.2 hc
    refine lv_iload_n C.1 C.2.1 dX1_take_24 rfl (lv_at hl 0 rfl) ?_
    exact m_iret C Wd hf dX1_take_25
set_option maxHeartbeats 4000000 in
set_option maxRecDepth 100000 in
theorem cM_take (l : Launch) (D : va_G) (ad : MA) (v1 : Int32) : m_Mi l D yX1_take cX1_take 6 (some .int) { frames := 4, cells := 0, slots := 0, locals := 90 } ad [.ref (m_h ad), .int v1] (fun σ post => wM_take (m_lim ad) σ v1 post) := by
  refine m_ofi ⟨by decide, rfl, Nat.le_of_ble_eq_true rfl⟩ (fun {p e s m args below meth c σ A post ls} C Wd hf hl => ?_)
  replace hl : lv_has ls 6 [(0, .ref (m_h ad)), (1, .int v1)] := hl
  refine lv_iload_n C.1 C.2.1 dX1_take_0 rfl (lv_at hl 1 rfl) ?_
  refine lv_bipush (v := 16) C.1 C.2.1 dX1_take_1 (by decide) ?_
  refine lv_icmp_ge (tgt := 14) C.1 C.2.1 dX1_take_3 (by decide) (fun hc => ?_) (fun hc => ?_)
  · replace hf := hf.1 hc
    refine lv_aload_n C.1 C.2.1 dX1_take_14 rfl (lv_at hl 0 rfl) ?_
    refine lv_iload_n C.1 C.2.1 dX1_take_15 rfl (lv_at hl 1 rfl) ?_
    refine m_calliv (As := [.int v1]) (rest := []) C Wd (cM_takeLarge l D ad v1) sM_takeLarge (by decide) rfl hl.1 rfl (Nat.le_of_ble_eq_true rfl) (by decide) dX1_take_16 hf (fun r16 σ16 H locs hf Wd => ?_)
    exact bM_take_19 C Wd hf hl
  · replace hf := hf.2 hc
    refine lv_aload_n C.1 C.2.1 dX1_take_6 rfl (lv_at hl 0 rfl) ?_
    refine lv_iload_n C.1 C.2.1 dX1_take_7 rfl (lv_at hl 1 rfl) ?_
    refine m_calliv (As := [.int v1]) (rest := []) C Wd (cM_takeSmall l D ad v1) sM_takeSmall (by decide) rfl hl.1 rfl (Nat.le_of_ble_eq_true rfl) (by decide) dX1_take_8 hf (fun r8 σ8 H locs hf Wd => ?_)
    refine lv_goto (tgt := 19) C.1 C.2.1 dX1_take_11 (by decide) ?_
    exact bM_take_19 C Wd hf hl
set_option maxHeartbeats 4000000 in
set_option maxRecDepth 100000 in
theorem bM_give_119 {p : Program} {l : Launch} {e : Env} {s : State} {m : MethodId} {args : Array Value} {below : List Frame} {meth : Method} {c : Code} {D : va_G} {ad : MA} {A : Nat → Prop} (C : m_C p s m args meth c cX1_give 4 none) {post : MS → Prop} {σ : MS} {H : Heap} {locs : List Loc} {ls : Array Slot} {v2 : Int32} {v3 : Int32} {k0 : Int32} (Wd : m_W D ad σ A s H locs) (hf : wM_give_119 (m_lim ad) σ v2 v3 k0 post) (hl : lv_has ls 4 [(0, .ref (m_h ad)), (2, .int v2), (3, .int v3)]) : W p l e { frames := 1, cells := 0, slots := 0, locals := 22 } s m args below meth c H locs 0 0 (m_Qv below D ad A args s post) (F0 m 119 ls [.int k0, .ref (m_h ad)]) := by
  refine m_put_vi C Wd dX1_give_119 (fun H locs Wd => ?_)
  refine lv_aload_n C.1 C.2.1 dX1_give_122 rfl (lv_at hl 0 rfl) ?_
  refine m_get_fi C Wd dX1_give_123 ?_
  refine lv_iload_n C.1 C.2.1 dX1_give_126 rfl (lv_at hl 1 rfl) ?_
  refine m_ald_fi C Wd hf.1 dX1_give_127 ?_
  replace hf := hf.2
  refine lv_aload_n C.1 C.2.1 dX1_give_128 rfl (lv_at hl 0 rfl) ?_
  refine m_get_sz C Wd dX1_give_129 ?_
  refine lv_iload_n C.1 C.2.1 dX1_give_132 rfl (lv_at hl 1 rfl) ?_
  refine m_ald_sz C Wd hf.1 dX1_give_133 ?_
  replace hf := hf.2
  refine lv_iadd C.1 C.2.1 dX1_give_134 ?_
  refine lv_aload_n C.1 C.2.1 dX1_give_135 rfl (lv_at hl 0 rfl) ?_
  refine m_get_en C Wd dX1_give_136 ?_
  refine lv_icmp_eq (tgt := 164) C.1 C.2.1 dX1_give_139 (by decide) (fun hc => ?_) (fun hc => ?_)
  · replace hf := hf.1 hc
    exact m_vret C Wd hf dX1_give_164
  · replace hf := hf.2 hc
    refine lv_iload_n C.1 C.2.1 dX1_give_142 rfl (lv_at hl 2 rfl) ?_
    refine lv_if_eq (tgt := 159) C.1 C.2.1 dX1_give_143 (by decide) (fun hc => ?_) (fun hc => ?_)
    · replace hf := hf.1 hc
      refine lv_aload_n C.1 C.2.1 dX1_give_159 rfl (lv_at hl 0 rfl) ?_
      refine lv_iload_n C.1 C.2.1 dX1_give_160 rfl (lv_at hl 1 rfl) ?_
      refine m_callvv (As := [.int v2]) (rest := []) C Wd (cM_store l D ad v2) sM_store (by decide) rfl hl.1 rfl (Nat.le_of_ble_eq_true rfl) (by decide) dX1_give_161 hf (fun σ161 H locs hf Wd => ?_)
      exact m_vret C Wd hf dX1_give_164
    · replace hf := hf.2 hc
      refine lv_aload_n C.1 C.2.1 dX1_give_146 rfl (lv_at hl 0 rfl) ?_
      refine lv_aload_n C.1 C.2.1 dX1_give_147 rfl (lv_at hl 0 rfl) ?_
      refine m_get_fi C Wd dX1_give_148 ?_
      refine lv_iload_n C.1 C.2.1 dX1_give_151 rfl (lv_at hl 1 rfl) ?_
      refine m_ald_fi C Wd hf.1 dX1_give_152 ?_
      replace hf := hf.2
      refine m_put_vi C Wd dX1_give_153 (fun H locs Wd => ?_)
      refine lv_goto (tgt := 164) C.1 C.2.1 dX1_give_156 (by decide) ?_
      exact m_vret C Wd hf dX1_give_164
set_option maxHeartbeats 4000000 in
set_option maxRecDepth 100000 in
theorem bM_give_106 {p : Program} {l : Launch} {e : Env} {s : State} {m : MethodId} {args : Array Value} {below : List Frame} {meth : Method} {c : Code} {D : va_G} {ad : MA} {A : Nat → Prop} (C : m_C p s m args meth c cX1_give 4 none) {post : MS → Prop} {σ : MS} {H : Heap} {locs : List Loc} {ls : Array Slot} {v2 : Int32} {v3 : Int32} (Wd : m_W D ad σ A s H locs) (hf : wM_give_106 (m_lim ad) σ v2 v3 post) (hl : lv_has ls 4 [(0, .ref (m_h ad)), (2, .int v2), (3, .int v3)]) : W p l e { frames := 1, cells := 0, slots := 0, locals := 22 } s m args below meth c H locs 0 0 (m_Qv below D ad A args s post) (F0 m 106 ls []) := by
  refine lv_aload_n C.1 C.2.1 dX1_give_106 rfl (lv_at hl 0 rfl) ?_
  refine lv_iload_n C.1 C.2.1 dX1_give_107 rfl (lv_at hl 2 rfl) ?_
  refine lv_if_eq (tgt := 115) C.1 C.2.1 dX1_give_108 (by decide) (fun hc => ?_) (fun hc => ?_)
  · replace hf := hf.1 hc
    refine lv_aload_n C.1 C.2.1 dX1_give_115 rfl (lv_at hl 0 rfl) ?_
    refine m_get_vi C Wd dX1_give_116 ?_
    exact bM_give_119 C Wd hf hl
  · replace hf := hf.2 hc
    refine lv_iconst (v := (-1)) C.1 C.2.1 dX1_give_111 (by decide) ?_
    refine lv_goto (tgt := 119) C.1 C.2.1 dX1_give_112 (by decide) ?_
    exact bM_give_119 C Wd hf hl
set_option maxHeartbeats 4000000 in
set_option maxRecDepth 100000 in
theorem bM_give_97 {p : Program} {l : Launch} {e : Env} {s : State} {m : MethodId} {args : Array Value} {below : List Frame} {meth : Method} {c : Code} {D : va_G} {ad : MA} {A : Nat → Prop} (C : m_C p s m args meth c cX1_give 4 none) {post : MS → Prop} {σ : MS} {H : Heap} {locs : List Loc} {ls : Array Slot} {v2 : Int32} {k0 : Int32} (Wd : m_W D ad σ A s H locs) (hf : wM_give_97 (m_lim ad) σ v2 k0 post) (hl : lv_has ls 4 [(0, .ref (m_h ad)), (2, .int v2)]) : W p l e { frames := 1, cells := 0, slots := 0, locals := 22 } s m args below meth c H locs 0 0 (m_Qv below D ad A args s post) (F0 m 97 ls [.int k0]) := by
  refine lv_istore_n (lv' := [(3, .int k0), (0, .ref (m_h ad)), (2, .int v2)]) C.1 C.2.1 dX1_give_97 rfl hl (by decide) rfl (fun ls hl => ?_)
  refine lv_iinc (v := v2 + (-1)) (lv' := [(2, .int (v2 + (-1))), (3, .int k0), (0, .ref (m_h ad))]) C.1 C.2.1 dX1_give_98 hl (k := 2) rfl rfl (by decide) rfl (fun ls hl => ?_)
  refine lv_aload_n C.1 C.2.1 dX1_give_101 rfl (lv_at hl 2 rfl) ?_
  refine lv_iload_n C.1 C.2.1 dX1_give_102 rfl (lv_at hl 0 rfl) ?_
  refine m_callvv (As := [.int (v2 + (-1))]) (rest := []) C Wd (cM_join l D ad (v2 + (-1))) sM_join (by decide) rfl hl.1 rfl (Nat.le_of_ble_eq_true rfl) (by decide) dX1_give_103 hf (fun σ103 H locs hf Wd => ?_)
  exact bM_give_106 C Wd hf (lv_sub hl [2, 0, 1] rfl)
set_option maxHeartbeats 4000000 in
set_option maxRecDepth 100000 in
theorem bM_give_58 {p : Program} {l : Launch} {e : Env} {s : State} {m : MethodId} {args : Array Value} {below : List Frame} {meth : Method} {c : Code} {D : va_G} {ad : MA} {A : Nat → Prop} (C : m_C p s m args meth c cX1_give 4 none) {post : MS → Prop} {σ : MS} {H : Heap} {locs : List Loc} {ls : Array Slot} {v2 : Int32} {v3 : Int32} (Wd : m_W D ad σ A s H locs) (hf : wM_give_58 (m_lim ad) σ v2 v3 post) (hl : lv_has ls 4 [(0, .ref (m_h ad)), (2, .int v2), (3, .int v3)]) : W p l e { frames := 1, cells := 0, slots := 0, locals := 22 } s m args below meth c H locs 0 0 (m_Qv below D ad A args s post) (F0 m 58 ls []) := by
  refine lv_iload_n C.1 C.2.1 dX1_give_58 rfl (lv_at hl 1 rfl) ?_
  refine lv_if_le (tgt := 106) C.1 C.2.1 dX1_give_59 (by decide) (fun hc => ?_) (fun hc => ?_)
  · replace hf := hf.1 hc
    exact bM_give_106 C Wd hf hl
  · replace hf := hf.2 hc
    refine lv_aload_n C.1 C.2.1 dX1_give_62 rfl (lv_at hl 0 rfl) ?_
    refine m_get_us C Wd dX1_give_63 ?_
    refine lv_iload_n C.1 C.2.1 dX1_give_66 rfl (lv_at hl 1 rfl) ?_
    refine lv_iconst (v := 1) C.1 C.2.1 dX1_give_67 (by decide) ?_
    refine lv_isub C.1 C.2.1 dX1_give_68 ?_
    refine m_ald_us C Wd hf.1 dX1_give_69 ?_
    replace hf := hf.2
    refine lv_if_ne (tgt := 106) C.1 C.2.1 dX1_give_70 (by decide) (fun hc => ?_) (fun hc => ?_)
    · replace hf := hf.1 hc
      exact bM_give_106 C Wd hf hl
    · replace hf := hf.2 hc
      refine lv_iload_n C.1 C.2.1 dX1_give_73 rfl (lv_at hl 2 rfl) ?_
      refine lv_if_ne (tgt := 92) C.1 C.2.1 dX1_give_74 (by decide) (fun hc => ?_) (fun hc => ?_)
      · replace hf := hf.1 hc
        refine lv_iconst (v := 1) C.1 C.2.1 dX1_give_92 (by decide) ?_
        refine lv_goto (tgt := 97) C.1 C.2.1 dX1_give_93 (by decide) ?_
        exact bM_give_97 C Wd hf (lv_sub hl [0, 1] rfl)
      · replace hf := hf.2 hc
        refine lv_aload_n C.1 C.2.1 dX1_give_77 rfl (lv_at hl 0 rfl) ?_
        refine m_get_fi C Wd dX1_give_78 ?_
        refine lv_iload_n C.1 C.2.1 dX1_give_81 rfl (lv_at hl 1 rfl) ?_
        refine lv_iconst (v := 1) C.1 C.2.1 dX1_give_82 (by decide) ?_
        refine lv_isub C.1 C.2.1 dX1_give_83 ?_
        refine m_ald_fi C Wd hf.1 dX1_give_84 ?_
        replace hf := hf.2
        refine lv_aload_n C.1 C.2.1 dX1_give_85 rfl (lv_at hl 0 rfl) ?_
        refine m_get_vi C Wd dX1_give_86 ?_
        refine lv_icmp_ne (tgt := 96) C.1 C.2.1 dX1_give_89 (by decide) (fun hc => ?_) (fun hc => ?_)
        · replace hf := hf.1 hc
          refine lv_iconst (v := 0) C.1 C.2.1 dX1_give_96 (by decide) ?_
          exact bM_give_97 C Wd hf (lv_sub hl [0, 1] rfl)
        · replace hf := hf.2 hc
          refine lv_iconst (v := 1) C.1 C.2.1 dX1_give_92 (by decide) ?_
          refine lv_goto (tgt := 97) C.1 C.2.1 dX1_give_93 (by decide) ?_
          exact bM_give_97 C Wd hf (lv_sub hl [0, 1] rfl)
set_option maxHeartbeats 4000000 in
set_option maxRecDepth 100000 in
theorem bM_give_52 {p : Program} {l : Launch} {e : Env} {s : State} {m : MethodId} {args : Array Value} {below : List Frame} {meth : Method} {c : Code} {D : va_G} {ad : MA} {A : Nat → Prop} (C : m_C p s m args meth c cX1_give 4 none) {post : MS → Prop} {σ : MS} {H : Heap} {locs : List Loc} {ls : Array Slot} {v2 : Int32} {k0 : Int32} (Wd : m_W D ad σ A s H locs) (hf : wM_give_52 (m_lim ad) σ v2 k0 post) (hl : lv_has ls 4 [(0, .ref (m_h ad)), (2, .int v2)]) : W p l e { frames := 1, cells := 0, slots := 0, locals := 22 } s m args below meth c H locs 0 0 (m_Qv below D ad A args s post) (F0 m 52 ls [.int k0]) := by
  refine lv_istore_n (lv' := [(3, .int k0), (0, .ref (m_h ad)), (2, .int v2)]) C.1 C.2.1 dX1_give_52 rfl hl (by decide) rfl (fun ls hl => ?_)
  refine lv_aload_n C.1 C.2.1 dX1_give_53 rfl (lv_at hl 1 rfl) ?_
  refine lv_iload_n C.1 C.2.1 dX1_give_54 rfl (lv_at hl 2 rfl) ?_
  refine m_callvv (As := [.int v2]) (rest := []) C Wd (cM_join l D ad v2) sM_join (by decide) rfl hl.1 rfl (Nat.le_of_ble_eq_true rfl) (by decide) dX1_give_55 hf (fun σ55 H locs hf Wd => ?_)
  exact bM_give_58 C Wd hf (lv_sub hl [1, 2, 0] rfl)
set_option maxHeartbeats 4000000 in
set_option maxRecDepth 100000 in
theorem cM_give (l : Launch) (D : va_G) (ad : MA) (v1 : Int32) : m_Mv l D yX1_give cX1_give 4 none { frames := 1, cells := 0, slots := 0, locals := 22 } ad [.ref (m_h ad), .int v1] (fun σ post => wM_give (m_lim ad) σ v1 post) := by
  refine m_ofv ⟨by decide, rfl, Nat.le_of_ble_eq_true rfl⟩ (fun {p e s m args below meth c σ A post ls} C Wd hf hl => ?_)
  replace hl : lv_has ls 4 [(0, .ref (m_h ad)), (1, .int v1)] := hl
  refine lv_iload_n C.1 C.2.1 dX1_give_0 rfl (lv_at hl 1 rfl) ?_
  refine lv_istore_n (lv' := [(2, .int v1), (0, .ref (m_h ad)), (1, .int v1)]) C.1 C.2.1 dX1_give_1 rfl hl (by decide) rfl (fun ls hl => ?_)
  refine lv_aload_n C.1 C.2.1 dX1_give_2 rfl (lv_at hl 1 rfl) ?_
  refine m_get_us C Wd dX1_give_3 ?_
  refine lv_iload_n C.1 C.2.1 dX1_give_6 rfl (lv_at hl 0 rfl) ?_
  refine lv_iconst (v := 0) C.1 C.2.1 dX1_give_7 (by decide) ?_
  refine m_ast_us C Wd hf.1 rfl dX1_give_8 (fun H locs Wd => ?_)
  replace hf := hf.2
  refine lv_iconst (v := 0) C.1 C.2.1 dX1_give_9 (by decide) ?_
  refine lv_istore_n (lv' := [(3, .int 0), (2, .int v1), (0, .ref (m_h ad)), (1, .int v1)]) C.1 C.2.1 dX1_give_10 rfl hl (by decide) rfl (fun ls hl => ?_)
  refine lv_iload_n C.1 C.2.1 dX1_give_11 rfl (lv_at hl 1 rfl) ?_
  refine lv_iconst (v := 1) C.1 C.2.1 dX1_give_12 (by decide) ?_
  refine lv_iadd C.1 C.2.1 dX1_give_13 ?_
  refine lv_aload_n C.1 C.2.1 dX1_give_14 rfl (lv_at hl 2 rfl) ?_
  refine m_get_ch C Wd dX1_give_15 ?_
  refine lv_icmp_ge (tgt := 58) C.1 C.2.1 dX1_give_18 (by decide) (fun hc => ?_) (fun hc => ?_)
  · replace hf := hf.1 hc
    exact bM_give_58 C Wd hf (lv_sub hl [2, 1, 0] rfl)
  · replace hf := hf.2 hc
    refine lv_aload_n C.1 C.2.1 dX1_give_21 rfl (lv_at hl 2 rfl) ?_
    refine m_get_us C Wd dX1_give_22 ?_
    refine lv_iload_n C.1 C.2.1 dX1_give_25 rfl (lv_at hl 1 rfl) ?_
    refine lv_iconst (v := 1) C.1 C.2.1 dX1_give_26 (by decide) ?_
    refine lv_iadd C.1 C.2.1 dX1_give_27 ?_
    refine m_ald_us C Wd hf.1 dX1_give_28 ?_
    replace hf := hf.2
    refine lv_if_ne (tgt := 58) C.1 C.2.1 dX1_give_29 (by decide) (fun hc => ?_) (fun hc => ?_)
    · replace hf := hf.1 hc
      exact bM_give_58 C Wd hf (lv_sub hl [2, 1, 0] rfl)
    · replace hf := hf.2 hc
      refine lv_aload_n C.1 C.2.1 dX1_give_32 rfl (lv_at hl 2 rfl) ?_
      refine m_get_fi C Wd dX1_give_33 ?_
      refine lv_iload_n C.1 C.2.1 dX1_give_36 rfl (lv_at hl 1 rfl) ?_
      refine lv_iconst (v := 1) C.1 C.2.1 dX1_give_37 (by decide) ?_
      refine lv_iadd C.1 C.2.1 dX1_give_38 ?_
      refine m_ald_fi C Wd hf.1 dX1_give_39 ?_
      replace hf := hf.2
      refine lv_aload_n C.1 C.2.1 dX1_give_40 rfl (lv_at hl 2 rfl) ?_
      refine m_get_vi C Wd dX1_give_41 ?_
      refine lv_icmp_ne (tgt := 51) C.1 C.2.1 dX1_give_44 (by decide) (fun hc => ?_) (fun hc => ?_)
      · replace hf := hf.1 hc
        refine lv_iconst (v := 0) C.1 C.2.1 dX1_give_51 (by decide) ?_
        exact bM_give_52 C Wd hf (lv_sub hl [2, 1] rfl)
      · replace hf := hf.2 hc
        refine lv_iconst (v := 1) C.1 C.2.1 dX1_give_47 (by decide) ?_
        refine lv_goto (tgt := 52) C.1 C.2.1 dX1_give_48 (by decide) ?_
        exact bM_give_52 C Wd hf (lv_sub hl [2, 1] rfl)
set_option maxHeartbeats 4000000 in
set_option maxRecDepth 100000 in
theorem bM_malloc_22 {p : Program} {l : Launch} {e : Env} {s : State} {m : MethodId} {args : Array Value} {below : List Frame} {meth : Method} {c : Code} {D : va_G} {ad : MA} {A : Nat → Prop} (C : m_C p s m args meth c cX1_malloc 3 (some .int)) {post : Int32 → MS → Prop} {σ : MS} {H : Heap} {locs : List Loc} {ls : Array Slot} {k0 : Int32} (Wd : m_W D ad σ A s H locs) (hf : wM_malloc_22 (m_lim ad) σ k0 post) (hl : lv_has ls 3 [(0, .ref (m_h ad))]) : W p l e { frames := 5, cells := 0, slots := 0, locals := 115 } s m args below meth c H locs 0 0 (m_Qi below D ad A args s post) (F0 m 22 ls [.int k0, .ref (m_h ad)]) := by
  refine m_calliv (As := [.int k0]) (rest := []) C Wd (cM_take l D ad k0) sM_take (by decide) rfl hl.1 rfl (Nat.le_of_ble_eq_true rfl) (by decide) dX1_malloc_22 hf (fun r22 σ22 H locs hf Wd => ?_)
  refine lv_istore_n (lv' := [(2, .int r22), (0, .ref (m_h ad))]) C.1 C.2.1 dX1_malloc_25 rfl hl (by decide) rfl (fun ls hl => ?_)
  refine lv_iload_n C.1 C.2.1 dX1_malloc_26 rfl (lv_at hl 0 rfl) ?_
  refine lv_if_ge (tgt := 34) C.1 C.2.1 dX1_malloc_27 (by decide) (fun hc => ?_) (fun hc => ?_)
  · replace hf := hf.1 hc
    refine lv_aload_n C.1 C.2.1 dX1_malloc_34 rfl (lv_at hl 1 rfl) ?_
    refine m_get_fi C Wd dX1_malloc_35 ?_
    refine lv_iload_n C.1 C.2.1 dX1_malloc_38 rfl (lv_at hl 0 rfl) ?_
    refine m_ald_fi C Wd hf.1 dX1_malloc_39 ?_
    replace hf := hf.2
    refine lv_iconst (v := 1) C.1 C.2.1 dX1_malloc_40 (by decide) ?_
    refine lv_iadd C.1 C.2.1 dX1_malloc_41 ?_
    exact m_iret C Wd hf dX1_malloc_42
  · replace hf := hf.2 hc
    refine lv_iconst (v := 0) C.1 C.2.1 dX1_malloc_30 (by decide) ?_
    refine lv_goto (tgt := 42) C.1 C.2.1 dX1_malloc_31 (by decide) ?_
    exact m_iret C Wd hf dX1_malloc_42
set_option maxHeartbeats 4000000 in
set_option maxRecDepth 100000 in
theorem cM_malloc (l : Launch) (D : va_G) (ad : MA) (v1 : Int32) : m_Mi l D yX1_malloc cX1_malloc 3 (some .int) { frames := 5, cells := 0, slots := 0, locals := 115 } ad [.ref (m_h ad), .int v1] (fun σ post => wM_malloc (m_lim ad) σ v1 post) := by
  refine m_ofi ⟨by decide, rfl, Nat.le_of_ble_eq_true rfl⟩ (fun {p e s m args below meth c σ A post ls} C Wd hf hl => ?_)
  replace hl : lv_has ls 3 [(0, .ref (m_h ad)), (1, .int v1)] := hl
  refine lv_iload_n C.1 C.2.1 dX1_malloc_0 rfl (lv_at hl 1 rfl) ?_
  refine lv_sipush (v := 511) C.1 C.2.1 dX1_malloc_1 (by decide) ?_
  refine lv_icmp_le (tgt := 9) C.1 C.2.1 dX1_malloc_4 (by decide) (fun hc => ?_) (fun hc => ?_)
  · replace hf := hf.1 hc
    refine lv_aload_n C.1 C.2.1 dX1_malloc_9 rfl (lv_at hl 0 rfl) ?_
    refine lv_iload_n C.1 C.2.1 dX1_malloc_10 rfl (lv_at hl 1 rfl) ?_
    refine lv_iconst (v := 1) C.1 C.2.1 dX1_malloc_11 (by decide) ?_
    refine lv_icmp_ge (tgt := 19) C.1 C.2.1 dX1_malloc_12 (by decide) (fun hc => ?_) (fun hc => ?_)
    · replace hf := hf.1 hc
      refine lv_iload_n C.1 C.2.1 dX1_malloc_19 rfl (lv_at hl 1 rfl) ?_
      refine lv_iconst (v := 1) C.1 C.2.1 dX1_malloc_20 (by decide) ?_
      refine lv_iadd C.1 C.2.1 dX1_malloc_21 ?_
      exact bM_malloc_22 C Wd hf (lv_sub hl [0] rfl)
    · replace hf := hf.2 hc
      refine lv_iconst (v := 2) C.1 C.2.1 dX1_malloc_15 (by decide) ?_
      refine lv_goto (tgt := 22) C.1 C.2.1 dX1_malloc_16 (by decide) ?_
      exact bM_malloc_22 C Wd hf (lv_sub hl [0] rfl)
  · replace hf := hf.2 hc
    refine lv_iconst (v := 0) C.1 C.2.1 dX1_malloc_7 (by decide) ?_
    exact m_iret C Wd hf dX1_malloc_8
set_option maxHeartbeats 4000000 in
set_option maxRecDepth 100000 in
theorem bM_calloc_15_f {p : Program} {l : Launch} {e : Env} {s : State} {m : MethodId} {args : Array Value} {below : List Frame} {meth : Method} {c : Code} {D : va_G} {ad : MA} {A : Nat → Prop} (C : m_C p s m args meth c cX1_calloc 5 (some .int)) {post : Int32 → MS → Prop} : ∀ (f : Nat) (σ : MS) (H : Heap) (locs : List Loc) (ls : Array Slot) (v2 : Int32) (v3 : Int32) (v4 : Int32), m_W D ad σ A s H locs → wM_calloc_15 (m_lim ad) post f σ v2 v3 v4 → lv_has ls 5 [(0, .ref (m_h ad)), (2, .int v2), (3, .int v3), (4, .int v4)] → W p l e { frames := 6, cells := 0, slots := 0, locals := 137 } s m args below meth c H locs 0 0 (m_Qi below D ad A args s post) (F0 m 15 ls []) := by
  intro f
  induction f with
  | zero => intro σ H locs ls v2 v3 v4 Wd hf hl; exact False.elim hf
  | succ f ih =>
    intro σ H locs ls v2 v3 v4 Wd hf hl
    replace hf : wM_calloc_15_s (m_lim ad) post (wM_calloc_15 (m_lim ad) post f) σ v2 v3 v4 := hf
    refine lv_iload_n C.1 C.2.1 dX1_calloc_15 rfl (lv_at hl 2 rfl) ?_
    refine lv_if_lt (tgt := 51) C.1 C.2.1 dX1_calloc_16 (by decide) (fun hc => ?_) (fun hc => ?_)
    · replace hf := hf.1 hc
      refine lv_iload_n C.1 C.2.1 dX1_calloc_51 rfl (lv_at hl 1 rfl) ?_
      exact m_iret C Wd hf dX1_calloc_52
    · replace hf := hf.2 hc
      refine lv_iload C.1 C.2.1 dX1_calloc_19 (lv_at hl 3 rfl) ?_
      refine lv_aload_n C.1 C.2.1 dX1_calloc_21 rfl (lv_at hl 0 rfl) ?_
      refine m_get_fi C Wd dX1_calloc_22 ?_
      refine lv_iload_n C.1 C.2.1 dX1_calloc_25 rfl (lv_at hl 2 rfl) ?_
      refine m_ald_fi C Wd hf.1 dX1_calloc_26 ?_
      replace hf := hf.2
      refine lv_aload_n C.1 C.2.1 dX1_calloc_27 rfl (lv_at hl 0 rfl) ?_
      refine m_get_sz C Wd dX1_calloc_28 ?_
      refine lv_iload_n C.1 C.2.1 dX1_calloc_31 rfl (lv_at hl 2 rfl) ?_
      refine m_ald_sz C Wd hf.1 dX1_calloc_32 ?_
      replace hf := hf.2
      refine lv_iadd C.1 C.2.1 dX1_calloc_33 ?_
      refine lv_icmp_ge (tgt := 51) C.1 C.2.1 dX1_calloc_34 (by decide) (fun hc => ?_) (fun hc => ?_)
      · replace hf := hf.1 hc
        refine lv_iload_n C.1 C.2.1 dX1_calloc_51 rfl (lv_at hl 1 rfl) ?_
        exact m_iret C Wd hf dX1_calloc_52
      · replace hf := hf.2 hc
        refine lv_aload_n C.1 C.2.1 dX1_calloc_37 rfl (lv_at hl 0 rfl) ?_
        refine m_get_un C Wd dX1_calloc_38 ?_
        refine lv_iload C.1 C.2.1 dX1_calloc_41 (lv_at hl 3 rfl) ?_
        refine lv_iconst (v := 0) C.1 C.2.1 dX1_calloc_43 (by decide) ?_
        refine m_ast_un C Wd hf.1 dX1_calloc_44 (fun H locs Wd => ?_)
        replace hf := hf.2
        refine lv_iinc (v := v4 + 1) (lv' := [(4, .int (v4 + 1)), (0, .ref (m_h ad)), (2, .int v2), (3, .int v3)]) C.1 C.2.1 dX1_calloc_45 hl (k := 3) rfl rfl (by decide) rfl (fun ls hl => ?_)
        refine lv_goto (tgt := 15) C.1 C.2.1 dX1_calloc_48 (by decide) ?_
        exact ih _ _ _ _ _ _ _  Wd hf (lv_sub hl [1, 2, 3, 0] rfl)
theorem bM_calloc_15 {p : Program} {l : Launch} {e : Env} {s : State} {m : MethodId} {args : Array Value} {below : List Frame} {meth : Method} {c : Code} {D : va_G} {ad : MA} {A : Nat → Prop} (C : m_C p s m args meth c cX1_calloc 5 (some .int)) {post : Int32 → MS → Prop} {σ : MS} {H : Heap} {locs : List Loc} {ls : Array Slot} {v2 : Int32} {v3 : Int32} {v4 : Int32} (Wd : m_W D ad σ A s H locs) (hf : ∃ f : Nat, wM_calloc_15 (m_lim ad) post f σ v2 v3 v4) (hl : lv_has ls 5 [(0, .ref (m_h ad)), (2, .int v2), (3, .int v3), (4, .int v4)]) : W p l e { frames := 6, cells := 0, slots := 0, locals := 137 } s m args below meth c H locs 0 0 (m_Qi below D ad A args s post) (F0 m 15 ls []) := by
  obtain ⟨f, hf⟩ := hf
  exact bM_calloc_15_f C f σ H locs ls v2 v3 v4 Wd hf hl
set_option maxHeartbeats 4000000 in
set_option maxRecDepth 100000 in
theorem cM_calloc (l : Launch) (D : va_G) (ad : MA) (v1 : Int32) : m_Mi l D yX1_calloc cX1_calloc 5 (some .int) { frames := 6, cells := 0, slots := 0, locals := 137 } ad [.ref (m_h ad), .int v1] (fun σ post => wM_calloc (m_lim ad) σ v1 post) := by
  refine m_ofi ⟨by decide, rfl, Nat.le_of_ble_eq_true rfl⟩ (fun {p e s m args below meth c σ A post ls} C Wd hf hl => ?_)
  replace hl : lv_has ls 5 [(0, .ref (m_h ad)), (1, .int v1)] := hl
  refine lv_aload_n C.1 C.2.1 dX1_calloc_0 rfl (lv_at hl 0 rfl) ?_
  refine lv_iload_n C.1 C.2.1 dX1_calloc_1 rfl (lv_at hl 1 rfl) ?_
  refine m_calliv (As := [.int v1]) (rest := []) C Wd (cM_malloc l D ad v1) sM_malloc (by decide) rfl hl.1 rfl (Nat.le_of_ble_eq_true rfl) (by decide) dX1_calloc_2 hf (fun r2 σ2 H locs hf Wd => ?_)
  refine lv_istore_n (lv' := [(2, .int r2), (0, .ref (m_h ad)), (1, .int v1)]) C.1 C.2.1 dX1_calloc_5 rfl hl (by decide) rfl (fun ls hl => ?_)
  refine lv_aload_n C.1 C.2.1 dX1_calloc_6 rfl (lv_at hl 1 rfl) ?_
  refine lv_iload_n C.1 C.2.1 dX1_calloc_7 rfl (lv_at hl 0 rfl) ?_
  refine m_calliv (As := [.int r2]) (rest := []) C Wd (cM_holder l D ad r2) sM_holder (by decide) rfl hl.1 rfl (Nat.le_of_ble_eq_true rfl) (by decide) dX1_calloc_8 hf (fun r8 σ8 H locs hf Wd => ?_)
  refine lv_istore_n (lv' := [(3, .int r8), (2, .int r2), (0, .ref (m_h ad)), (1, .int v1)]) C.1 C.2.1 dX1_calloc_11 rfl hl (by decide) rfl (fun ls hl => ?_)
  refine lv_iload_n C.1 C.2.1 dX1_calloc_12 rfl (lv_at hl 1 rfl) ?_
  refine lv_istore (lv' := [(4, .int r2), (3, .int r8), (2, .int r2), (0, .ref (m_h ad)), (1, .int v1)]) C.1 C.2.1 dX1_calloc_13 hl (by decide) rfl (fun ls hl => ?_)
  exact bM_calloc_15 C Wd hf (lv_sub hl [3, 2, 1, 0] rfl)
set_option maxHeartbeats 4000000 in
set_option maxRecDepth 100000 in
theorem cM_free (l : Launch) (D : va_G) (ad : MA) (v1 : Int32) : m_Mi l D yX1_free cX1_free 3 (some .boolean) { frames := 2, cells := 0, slots := 0, locals := 45 } ad [.ref (m_h ad), .int v1] (fun σ post => wM_free (m_lim ad) σ v1 post) := by
  refine m_ofi ⟨by decide, rfl, Nat.le_of_ble_eq_true rfl⟩ (fun {p e s m args below meth c σ A post ls} C Wd hf hl => ?_)
  replace hl : lv_has ls 3 [(0, .ref (m_h ad)), (1, .int v1)] := hl
  refine lv_aload_n C.1 C.2.1 dX1_free_0 rfl (lv_at hl 0 rfl) ?_
  refine lv_iload_n C.1 C.2.1 dX1_free_1 rfl (lv_at hl 1 rfl) ?_
  refine m_calliv (As := [.int v1]) (rest := []) C Wd (cM_holder l D ad v1) sM_holder (by decide) rfl hl.1 rfl (Nat.le_of_ble_eq_true rfl) (by decide) dX1_free_2 hf (fun r2 σ2 H locs hf Wd => ?_)
  refine lv_istore_n (lv' := [(2, .int r2), (0, .ref (m_h ad)), (1, .int v1)]) C.1 C.2.1 dX1_free_5 rfl hl (by decide) rfl (fun ls hl => ?_)
  refine lv_iload_n C.1 C.2.1 dX1_free_6 rfl (lv_at hl 0 rfl) ?_
  refine lv_if_ge (tgt := 12) C.1 C.2.1 dX1_free_7 (by decide) (fun hc => ?_) (fun hc => ?_)
  · replace hf := hf.1 hc
    refine lv_aload_n C.1 C.2.1 dX1_free_12 rfl (lv_at hl 1 rfl) ?_
    refine lv_iload_n C.1 C.2.1 dX1_free_13 rfl (lv_at hl 0 rfl) ?_
    refine m_callvv (As := [.int r2]) (rest := []) C Wd (cM_give l D ad r2) sM_give (by decide) rfl hl.1 rfl (Nat.le_of_ble_eq_true rfl) (by decide) dX1_free_14 hf (fun σ14 H locs hf Wd => ?_)
    refine lv_iconst (v := 1) C.1 C.2.1 dX1_free_17 (by decide) ?_
    exact m_zret C Wd (by decide) hf dX1_free_18
  · replace hf := hf.2 hc
    refine lv_iconst (v := 0) C.1 C.2.1 dX1_free_10 (by decide) ?_
    exact m_zret C Wd (by decide) hf dX1_free_11
set_option maxHeartbeats 4000000 in
set_option maxRecDepth 100000 in
theorem cM_shorten (l : Launch) (D : va_G) (ad : MA) (v1 : Int32) (v2 : Int32) : m_Mv l D yX1_shorten cX1_shorten 3 none { frames := 2, cells := 0, slots := 0, locals := 45 } ad [.ref (m_h ad), .int v1, .int v2] (fun σ post => wM_shorten (m_lim ad) σ v1 v2 post) := by
  refine m_ofv ⟨by decide, rfl, Nat.le_of_ble_eq_true rfl⟩ (fun {p e s m args below meth c σ A post ls} C Wd hf hl => ?_)
  replace hl : lv_has ls 3 [(0, .ref (m_h ad)), (1, .int v1), (2, .int v2)] := hl
  refine lv_aload_n C.1 C.2.1 dX1_shorten_0 rfl (lv_at hl 0 rfl) ?_
  refine m_get_sz C Wd dX1_shorten_1 ?_
  refine lv_iload_n C.1 C.2.1 dX1_shorten_4 rfl (lv_at hl 1 rfl) ?_
  refine m_ald_sz C Wd hf.1 dX1_shorten_5 ?_
  replace hf := hf.2
  refine lv_iload_n C.1 C.2.1 dX1_shorten_6 rfl (lv_at hl 2 rfl) ?_
  refine lv_isub C.1 C.2.1 dX1_shorten_7 ?_
  refine lv_iconst (v := 2) C.1 C.2.1 dX1_shorten_8 (by decide) ?_
  refine lv_icmp_lt (tgt := 25) C.1 C.2.1 dX1_shorten_9 (by decide) (fun hc => ?_) (fun hc => ?_)
  · replace hf := hf.1 hc
    exact m_vret C Wd hf dX1_shorten_25
  · replace hf := hf.2 hc
    refine lv_aload_n C.1 C.2.1 dX1_shorten_12 rfl (lv_at hl 0 rfl) ?_
    refine lv_iload_n C.1 C.2.1 dX1_shorten_13 rfl (lv_at hl 1 rfl) ?_
    refine lv_iload_n C.1 C.2.1 dX1_shorten_14 rfl (lv_at hl 2 rfl) ?_
    refine m_callvv (As := [.int v1, .int v2]) (rest := []) C Wd (cM_part l D ad v1 v2) sM_part (by decide) rfl hl.1 rfl (Nat.le_of_ble_eq_true rfl) (by decide) dX1_shorten_15 hf (fun σ15 H locs hf Wd => ?_)
    refine lv_aload_n C.1 C.2.1 dX1_shorten_18 rfl (lv_at hl 0 rfl) ?_
    refine lv_iload_n C.1 C.2.1 dX1_shorten_19 rfl (lv_at hl 1 rfl) ?_
    refine lv_iconst (v := 1) C.1 C.2.1 dX1_shorten_20 (by decide) ?_
    refine lv_iadd C.1 C.2.1 dX1_shorten_21 ?_
    refine m_callvv (As := [.int (v1 + 1)]) (rest := []) C Wd (cM_give l D ad (v1 + 1)) sM_give (by decide) rfl hl.1 rfl (Nat.le_of_ble_eq_true rfl) (by decide) dX1_shorten_22 hf (fun σ22 H locs hf Wd => ?_)
    exact m_vret C Wd hf dX1_shorten_25
end
section
set_option maxHeartbeats 4000000 in
set_option maxRecDepth 100000 in
theorem bM_lengthen_87 {p : Program} {l : Launch} {e : Env} {s : State} {m : MethodId} {args : Array Value} {below : List Frame} {meth : Method} {c : Code} {D : va_G} {ad : MA} {A : Nat → Prop} (C : m_C p s m args meth c cX1_lengthen 7 (some .boolean)) {post : Int32 → MS → Prop} {σ : MS} {H : Heap} {locs : List Loc} {ls : Array Slot} {v1 : Int32} {v2 : Int32} (Wd : m_W D ad σ A s H locs) (hf : wM_lengthen_87 (m_lim ad) σ v1 v2 post) (hl : lv_has ls 7 [(0, .ref (m_h ad)), (1, .int v1), (2, .int v2)]) : W p l e { frames := 2, cells := 0, slots := 0, locals := 45 } s m args below meth c H locs 0 0 (m_Qi below D ad A args s post) (F0 m 87 ls []) := by
  refine lv_iload_n C.1 C.2.1 dX1_lengthen_87 rfl (lv_at hl 1 rfl) ?_
  refine lv_iconst (v := 1) C.1 C.2.1 dX1_lengthen_88 (by decide) ?_
  refine lv_iadd C.1 C.2.1 dX1_lengthen_89 ?_
  refine lv_aload_n C.1 C.2.1 dX1_lengthen_90 rfl (lv_at hl 0 rfl) ?_
  refine m_get_ch C Wd dX1_lengthen_91 ?_
  refine lv_icmp_ge (tgt := 127) C.1 C.2.1 dX1_lengthen_94 (by decide) (fun hc => ?_) (fun hc => ?_)
  · replace hf := hf.1 hc
    refine lv_iconst (v := 0) C.1 C.2.1 dX1_lengthen_127 (by decide) ?_
    exact m_zret C Wd (by decide) hf dX1_lengthen_128
  · replace hf := hf.2 hc
    refine lv_aload_n C.1 C.2.1 dX1_lengthen_97 rfl (lv_at hl 0 rfl) ?_
    refine m_get_us C Wd dX1_lengthen_98 ?_
    refine lv_iload_n C.1 C.2.1 dX1_lengthen_101 rfl (lv_at hl 1 rfl) ?_
    refine lv_iconst (v := 1) C.1 C.2.1 dX1_lengthen_102 (by decide) ?_
    refine lv_iadd C.1 C.2.1 dX1_lengthen_103 ?_
    refine m_ald_us C Wd hf.1 dX1_lengthen_104 ?_
    replace hf := hf.2
    refine lv_if_ne (tgt := 127) C.1 C.2.1 dX1_lengthen_105 (by decide) (fun hc => ?_) (fun hc => ?_)
    · replace hf := hf.1 hc
      refine lv_iconst (v := 0) C.1 C.2.1 dX1_lengthen_127 (by decide) ?_
      exact m_zret C Wd (by decide) hf dX1_lengthen_128
    · replace hf := hf.2 hc
      refine lv_aload_n C.1 C.2.1 dX1_lengthen_108 rfl (lv_at hl 0 rfl) ?_
      refine m_get_sz C Wd dX1_lengthen_109 ?_
      refine lv_iload_n C.1 C.2.1 dX1_lengthen_112 rfl (lv_at hl 1 rfl) ?_
      refine m_ald_sz C Wd hf.1 dX1_lengthen_113 ?_
      replace hf := hf.2
      refine lv_aload_n C.1 C.2.1 dX1_lengthen_114 rfl (lv_at hl 0 rfl) ?_
      refine m_get_sz C Wd dX1_lengthen_115 ?_
      refine lv_iload_n C.1 C.2.1 dX1_lengthen_118 rfl (lv_at hl 1 rfl) ?_
      refine lv_iconst (v := 1) C.1 C.2.1 dX1_lengthen_119 (by decide) ?_
      refine lv_iadd C.1 C.2.1 dX1_lengthen_120 ?_
      refine m_ald_sz C Wd hf.1 dX1_lengthen_121 ?_
      replace hf := hf.2
      refine lv_iadd C.1 C.2.1 dX1_lengthen_122 ?_
      refine lv_iload_n C.1 C.2.1 dX1_lengthen_123 rfl (lv_at hl 2 rfl) ?_
      refine lv_icmp_ge (tgt := 129) C.1 C.2.1 dX1_lengthen_124 (by decide) (fun hc => ?_) (fun hc => ?_)
      · replace hf := hf.1 hc
        refine lv_aload_n C.1 C.2.1 dX1_lengthen_129 rfl (lv_at hl 0 rfl) ?_
        refine lv_iload_n C.1 C.2.1 dX1_lengthen_130 rfl (lv_at hl 1 rfl) ?_
        refine lv_iconst (v := 1) C.1 C.2.1 dX1_lengthen_131 (by decide) ?_
        refine lv_iadd C.1 C.2.1 dX1_lengthen_132 ?_
        refine m_calliv (As := [.int (v1 + 1)]) (rest := []) C Wd (cM_stateOf l D ad (v1 + 1)) sM_stateOf (by decide) rfl hl.1 rfl (Nat.le_of_ble_eq_true rfl) (by decide) dX1_lengthen_133 hf (fun r133 σ133 H locs hf Wd => ?_)
        refine lv_istore (lv' := [(5, .int r133), (0, .ref (m_h ad)), (1, .int v1), (2, .int v2)]) C.1 C.2.1 dX1_lengthen_136 hl (by decide) rfl (fun ls hl => ?_)
        refine lv_aload_n C.1 C.2.1 dX1_lengthen_138 rfl (lv_at hl 1 rfl) ?_
        refine lv_iload_n C.1 C.2.1 dX1_lengthen_139 rfl (lv_at hl 2 rfl) ?_
        refine m_callvv (As := [.int v1]) (rest := []) C Wd (cM_join l D ad v1) sM_join (by decide) rfl hl.1 rfl (Nat.le_of_ble_eq_true rfl) (by decide) dX1_lengthen_140 hf (fun σ140 H locs hf Wd => ?_)
        refine lv_aload_n C.1 C.2.1 dX1_lengthen_143 rfl (lv_at hl 1 rfl) ?_
        refine lv_iload_n C.1 C.2.1 dX1_lengthen_144 rfl (lv_at hl 2 rfl) ?_
        refine lv_iload_n C.1 C.2.1 dX1_lengthen_145 rfl (lv_at hl 3 rfl) ?_
        refine m_calliv (As := [.int v1, .int v2]) (rest := []) C Wd (cM_cut l D ad v1 v2) sM_cut (by decide) rfl hl.1 rfl (Nat.le_of_ble_eq_true rfl) (by decide) dX1_lengthen_146 hf (fun r146 σ146 H locs hf Wd => ?_)
        refine lv_istore (lv' := [(6, .int r146), (5, .int r133), (0, .ref (m_h ad)), (1, .int v1), (2, .int v2)]) C.1 C.2.1 dX1_lengthen_149 hl (by decide) rfl (fun ls hl => ?_)
        refine lv_iload C.1 C.2.1 dX1_lengthen_151 (lv_at hl 1 rfl) ?_
        refine lv_iconst (v := 3) C.1 C.2.1 dX1_lengthen_153 (by decide) ?_
        refine lv_icmp_ne (tgt := 181) C.1 C.2.1 dX1_lengthen_154 (by decide) (fun hc => ?_) (fun hc => ?_)
        · replace hf := hf.1 hc
          refine lv_iload C.1 C.2.1 dX1_lengthen_181 (lv_at hl 0 rfl) ?_
          refine lv_if_eq (tgt := 199) C.1 C.2.1 dX1_lengthen_183 (by decide) (fun hc => ?_) (fun hc => ?_)
          · replace hf := hf.1 hc
            refine lv_iconst (v := 1) C.1 C.2.1 dX1_lengthen_199 (by decide) ?_
            exact m_zret C Wd (by decide) hf dX1_lengthen_200
          · replace hf := hf.2 hc
            refine lv_iload C.1 C.2.1 dX1_lengthen_186 (lv_at hl 1 rfl) ?_
            refine lv_iconst (v := 4) C.1 C.2.1 dX1_lengthen_188 (by decide) ?_
            refine lv_icmp_eq (tgt := 199) C.1 C.2.1 dX1_lengthen_189 (by decide) (fun hc => ?_) (fun hc => ?_)
            · replace hf := hf.1 hc
              refine lv_iconst (v := 1) C.1 C.2.1 dX1_lengthen_199 (by decide) ?_
              exact m_zret C Wd (by decide) hf dX1_lengthen_200
            · replace hf := hf.2 hc
              refine lv_aload_n C.1 C.2.1 dX1_lengthen_192 rfl (lv_at hl 2 rfl) ?_
              refine lv_iload_n C.1 C.2.1 dX1_lengthen_193 rfl (lv_at hl 3 rfl) ?_
              refine lv_iconst (v := 1) C.1 C.2.1 dX1_lengthen_194 (by decide) ?_
              refine lv_iadd C.1 C.2.1 dX1_lengthen_195 ?_
              refine m_callvv (As := [.int (v1 + 1)]) (rest := []) C Wd (cM_store l D ad (v1 + 1)) sM_store (by decide) rfl hl.1 rfl (Nat.le_of_ble_eq_true rfl) (by decide) dX1_lengthen_196 hf (fun σ196 H locs hf Wd => ?_)
              refine lv_iconst (v := 1) C.1 C.2.1 dX1_lengthen_199 (by decide) ?_
              exact m_zret C Wd (by decide) hf dX1_lengthen_200
        · replace hf := hf.2 hc
          refine lv_aload_n C.1 C.2.1 dX1_lengthen_157 rfl (lv_at hl 2 rfl) ?_
          refine lv_iload C.1 C.2.1 dX1_lengthen_158 (lv_at hl 0 rfl) ?_
          refine lv_if_eq (tgt := 174) C.1 C.2.1 dX1_lengthen_160 (by decide) (fun hc => ?_) (fun hc => ?_)
          · replace hf := hf.1 hc
            refine lv_iconst (v := (-1)) C.1 C.2.1 dX1_lengthen_174 (by decide) ?_
            refine m_put_vi C Wd dX1_lengthen_175 (fun H locs Wd => ?_)
            refine lv_goto (tgt := 199) C.1 C.2.1 dX1_lengthen_178 (by decide) ?_
            refine lv_iconst (v := 1) C.1 C.2.1 dX1_lengthen_199 (by decide) ?_
            exact m_zret C Wd (by decide) hf dX1_lengthen_200
          · replace hf := hf.2 hc
            refine lv_aload_n C.1 C.2.1 dX1_lengthen_163 rfl (lv_at hl 2 rfl) ?_
            refine m_get_fi C Wd dX1_lengthen_164 ?_
            refine lv_iload_n C.1 C.2.1 dX1_lengthen_167 rfl (lv_at hl 3 rfl) ?_
            refine lv_iconst (v := 1) C.1 C.2.1 dX1_lengthen_168 (by decide) ?_
            refine lv_iadd C.1 C.2.1 dX1_lengthen_169 ?_
            refine m_ald_fi C Wd hf.1 dX1_lengthen_170 ?_
            replace hf := hf.2
            refine lv_goto (tgt := 175) C.1 C.2.1 dX1_lengthen_171 (by decide) ?_
            refine m_put_vi C Wd dX1_lengthen_175 (fun H locs Wd => ?_)
            refine lv_goto (tgt := 199) C.1 C.2.1 dX1_lengthen_178 (by decide) ?_
            refine lv_iconst (v := 1) C.1 C.2.1 dX1_lengthen_199 (by decide) ?_
            exact m_zret C Wd (by decide) hf dX1_lengthen_200
      · replace hf := hf.2 hc
        refine lv_iconst (v := 0) C.1 C.2.1 dX1_lengthen_127 (by decide) ?_
        exact m_zret C Wd (by decide) hf dX1_lengthen_128
set_option maxHeartbeats 4000000 in
set_option maxRecDepth 100000 in
theorem bM_lengthen_61 {p : Program} {l : Launch} {e : Env} {s : State} {m : MethodId} {args : Array Value} {below : List Frame} {meth : Method} {c : Code} {D : va_G} {ad : MA} {A : Nat → Prop} (C : m_C p s m args meth c cX1_lengthen 7 (some .boolean)) {post : Int32 → MS → Prop} {σ : MS} {H : Heap} {locs : List Loc} {ls : Array Slot} {v1 : Int32} {v2 : Int32} {k0 : Int32} (Wd : m_W D ad σ A s H locs) (hf : wM_lengthen_61 (m_lim ad) σ v1 v2 k0 post) (hl : lv_has ls 7 [(0, .ref (m_h ad)), (1, .int v1), (2, .int v2)]) : W p l e { frames := 2, cells := 0, slots := 0, locals := 45 } s m args below meth c H locs 0 0 (m_Qi below D ad A args s post) (F0 m 61 ls [.int k0]) := by
  refine lv_istore (lv' := [(5, .int k0), (0, .ref (m_h ad)), (1, .int v1), (2, .int v2)]) C.1 C.2.1 dX1_lengthen_61 hl (by decide) rfl (fun ls hl => ?_)
  refine lv_iload C.1 C.2.1 dX1_lengthen_63 (lv_at hl 0 rfl) ?_
  refine lv_iload_n C.1 C.2.1 dX1_lengthen_65 rfl (lv_at hl 3 rfl) ?_
  refine lv_icmp_ge (tgt := 80) C.1 C.2.1 dX1_lengthen_66 (by decide) (fun hc => ?_) (fun hc => ?_)
  · replace hf := hf.1 hc
    refine lv_iconst (v := 1) C.1 C.2.1 dX1_lengthen_80 (by decide) ?_
    refine lv_goto (tgt := 85) C.1 C.2.1 dX1_lengthen_81 (by decide) ?_
    refine lv_istore (lv' := [(6, .int 1), (5, .int k0), (0, .ref (m_h ad)), (1, .int v1), (2, .int v2)]) C.1 C.2.1 dX1_lengthen_85 hl (by decide) rfl (fun ls hl => ?_)
    exact bM_lengthen_87 C Wd hf (lv_sub hl [2, 3, 4] rfl)
  · replace hf := hf.2 hc
    refine lv_aload_n C.1 C.2.1 dX1_lengthen_69 rfl (lv_at hl 1 rfl) ?_
    refine lv_iload_n C.1 C.2.1 dX1_lengthen_70 rfl (lv_at hl 3 rfl) ?_
    refine lv_iload C.1 C.2.1 dX1_lengthen_71 (lv_at hl 0 rfl) ?_
    refine lv_isub C.1 C.2.1 dX1_lengthen_73 ?_
    refine m_calliv (As := [.int (v2 - k0)]) (rest := []) C Wd (cM_grow l D ad (v2 - k0)) sM_grow (by decide) rfl hl.1 rfl (Nat.le_of_ble_eq_true rfl) (by decide) dX1_lengthen_74 hf (fun r74 σ74 H locs hf Wd => ?_)
    refine lv_if_eq (tgt := 84) C.1 C.2.1 dX1_lengthen_77 (by decide) (fun hc => ?_) (fun hc => ?_)
    · replace hf := hf.1 hc
      refine lv_iconst (v := 0) C.1 C.2.1 dX1_lengthen_84 (by decide) ?_
      refine lv_istore (lv' := [(6, .int 0), (5, .int k0), (0, .ref (m_h ad)), (1, .int v1), (2, .int v2)]) C.1 C.2.1 dX1_lengthen_85 hl (by decide) rfl (fun ls hl => ?_)
      exact bM_lengthen_87 C Wd hf (lv_sub hl [2, 3, 4] rfl)
    · replace hf := hf.2 hc
      refine lv_iconst (v := 1) C.1 C.2.1 dX1_lengthen_80 (by decide) ?_
      refine lv_goto (tgt := 85) C.1 C.2.1 dX1_lengthen_81 (by decide) ?_
      refine lv_istore (lv' := [(6, .int 1), (5, .int k0), (0, .ref (m_h ad)), (1, .int v1), (2, .int v2)]) C.1 C.2.1 dX1_lengthen_85 hl (by decide) rfl (fun ls hl => ?_)
      exact bM_lengthen_87 C Wd hf (lv_sub hl [2, 3, 4] rfl)
set_option maxHeartbeats 4000000 in
set_option maxRecDepth 100000 in
theorem bM_lengthen_34 {p : Program} {l : Launch} {e : Env} {s : State} {m : MethodId} {args : Array Value} {below : List Frame} {meth : Method} {c : Code} {D : va_G} {ad : MA} {A : Nat → Prop} (C : m_C p s m args meth c cX1_lengthen 7 (some .boolean)) {post : Int32 → MS → Prop} {σ : MS} {H : Heap} {locs : List Loc} {ls : Array Slot} {v1 : Int32} {v2 : Int32} {v3 : Int32} {v4 : Int32} (Wd : m_W D ad σ A s H locs) (hf : wM_lengthen_34 (m_lim ad) σ v1 v2 v3 v4 post) (hl : lv_has ls 7 [(0, .ref (m_h ad)), (1, .int v1), (2, .int v2), (3, .int v3), (4, .int v4)]) : W p l e { frames := 2, cells := 0, slots := 0, locals := 45 } s m args below meth c H locs 0 0 (m_Qi below D ad A args s post) (F0 m 34 ls []) := by
  refine lv_iload C.1 C.2.1 dX1_lengthen_34 (lv_at hl 4 rfl) ?_
  refine lv_if_eq (tgt := 48) C.1 C.2.1 dX1_lengthen_36 (by decide) (fun hc => ?_) (fun hc => ?_)
  · replace hf := hf.1 hc
    refine lv_aload_n C.1 C.2.1 dX1_lengthen_48 rfl (lv_at hl 0 rfl) ?_
    refine m_get_sz C Wd dX1_lengthen_49 ?_
    refine lv_iload_n C.1 C.2.1 dX1_lengthen_52 rfl (lv_at hl 1 rfl) ?_
    refine m_ald_sz C Wd hf.1 dX1_lengthen_53 ?_
    replace hf := hf.2
    refine lv_aload_n C.1 C.2.1 dX1_lengthen_54 rfl (lv_at hl 0 rfl) ?_
    refine m_get_sz C Wd dX1_lengthen_55 ?_
    refine lv_iload_n C.1 C.2.1 dX1_lengthen_58 rfl (lv_at hl 3 rfl) ?_
    refine m_ald_sz C Wd hf.1 dX1_lengthen_59 ?_
    replace hf := hf.2
    refine lv_iadd C.1 C.2.1 dX1_lengthen_60 ?_
    exact bM_lengthen_61 C Wd hf (lv_sub hl [0, 1, 2] rfl)
  · replace hf := hf.2 hc
    refine lv_aload_n C.1 C.2.1 dX1_lengthen_39 rfl (lv_at hl 0 rfl) ?_
    refine m_get_sz C Wd dX1_lengthen_40 ?_
    refine lv_iload_n C.1 C.2.1 dX1_lengthen_43 rfl (lv_at hl 1 rfl) ?_
    refine m_ald_sz C Wd hf.1 dX1_lengthen_44 ?_
    replace hf := hf.2
    refine lv_goto (tgt := 61) C.1 C.2.1 dX1_lengthen_45 (by decide) ?_
    exact bM_lengthen_61 C Wd hf (lv_sub hl [0, 1, 2] rfl)
set_option maxHeartbeats 4000000 in
set_option maxRecDepth 100000 in
theorem bM_lengthen_20 {p : Program} {l : Launch} {e : Env} {s : State} {m : MethodId} {args : Array Value} {below : List Frame} {meth : Method} {c : Code} {D : va_G} {ad : MA} {A : Nat → Prop} (C : m_C p s m args meth c cX1_lengthen 7 (some .boolean)) {post : Int32 → MS → Prop} {σ : MS} {H : Heap} {locs : List Loc} {ls : Array Slot} {v1 : Int32} {v2 : Int32} {v3 : Int32} {k0 : Int32} (Wd : m_W D ad σ A s H locs) (hf : wM_lengthen_20 (m_lim ad) σ v1 v2 v3 k0 post) (hl : lv_has ls 7 [(0, .ref (m_h ad)), (1, .int v1), (2, .int v2), (3, .int v3)]) : W p l e { frames := 2, cells := 0, slots := 0, locals := 45 } s m args below meth c H locs 0 0 (m_Qi below D ad A args s post) (F0 m 20 ls [.int k0]) := by
  refine lv_istore (lv' := [(4, .int k0), (0, .ref (m_h ad)), (1, .int v1), (2, .int v2), (3, .int v3)]) C.1 C.2.1 dX1_lengthen_20 hl (by decide) rfl (fun ls hl => ?_)
  refine lv_iload C.1 C.2.1 dX1_lengthen_22 (lv_at hl 0 rfl) ?_
  refine lv_if_ne (tgt := 34) C.1 C.2.1 dX1_lengthen_24 (by decide) (fun hc => ?_) (fun hc => ?_)
  · replace hf := hf.1 hc
    exact bM_lengthen_34 C Wd hf (lv_sub hl [1, 2, 3, 4, 0] rfl)
  · replace hf := hf.2 hc
    refine lv_iload_n C.1 C.2.1 dX1_lengthen_27 rfl (lv_at hl 4 rfl) ?_
    refine lv_iload_n C.1 C.2.1 dX1_lengthen_28 rfl (lv_at hl 2 rfl) ?_
    refine lv_iconst (v := 1) C.1 C.2.1 dX1_lengthen_29 (by decide) ?_
    refine lv_iadd C.1 C.2.1 dX1_lengthen_30 ?_
    refine lv_icmp_ne (tgt := 87) C.1 C.2.1 dX1_lengthen_31 (by decide) (fun hc => ?_) (fun hc => ?_)
    · replace hf := hf.1 hc
      exact bM_lengthen_87 C Wd hf (lv_sub hl [1, 2, 3] rfl)
    · replace hf := hf.2 hc
      exact bM_lengthen_34 C Wd hf (lv_sub hl [1, 2, 3, 4, 0] rfl)
set_option maxHeartbeats 4000000 in
set_option maxRecDepth 100000 in
theorem cM_lengthen (l : Launch) (D : va_G) (ad : MA) (v1 : Int32) (v2 : Int32) : m_Mi l D yX1_lengthen cX1_lengthen 7 (some .boolean) { frames := 2, cells := 0, slots := 0, locals := 45 } ad [.ref (m_h ad), .int v1, .int v2] (fun σ post => wM_lengthen (m_lim ad) σ v1 v2 post) := by
  refine m_ofi ⟨by decide, rfl, Nat.le_of_ble_eq_true rfl⟩ (fun {p e s m args below meth c σ A post ls} C Wd hf hl => ?_)
  replace hl : lv_has ls 7 [(0, .ref (m_h ad)), (1, .int v1), (2, .int v2)] := hl
  refine lv_aload_n C.1 C.2.1 dX1_lengthen_0 rfl (lv_at hl 0 rfl) ?_
  refine m_calliv (As := []) (rest := []) C Wd (cM_top l D ad ) sM_top (by decide) rfl hl.1 rfl (Nat.le_of_ble_eq_true rfl) (by decide) dX1_lengthen_1 hf (fun r1 σ1 H locs hf Wd => ?_)
  refine lv_istore_n (lv' := [(3, .int r1), (0, .ref (m_h ad)), (1, .int v1), (2, .int v2)]) C.1 C.2.1 dX1_lengthen_4 rfl hl (by decide) rfl (fun ls hl => ?_)
  refine lv_iload_n C.1 C.2.1 dX1_lengthen_5 rfl (lv_at hl 2 rfl) ?_
  refine lv_aload_n C.1 C.2.1 dX1_lengthen_6 rfl (lv_at hl 1 rfl) ?_
  refine m_get_ch C Wd dX1_lengthen_7 ?_
  refine lv_iconst (v := 1) C.1 C.2.1 dX1_lengthen_10 (by decide) ?_
  refine lv_isub C.1 C.2.1 dX1_lengthen_11 ?_
  refine lv_icmp_ne (tgt := 19) C.1 C.2.1 dX1_lengthen_12 (by decide) (fun hc => ?_) (fun hc => ?_)
  · replace hf := hf.1 hc
    refine lv_iconst (v := 0) C.1 C.2.1 dX1_lengthen_19 (by decide) ?_
    exact bM_lengthen_20 C Wd hf (lv_sub hl [1, 2, 3, 0] rfl)
  · replace hf := hf.2 hc
    refine lv_iconst (v := 1) C.1 C.2.1 dX1_lengthen_15 (by decide) ?_
    refine lv_goto (tgt := 20) C.1 C.2.1 dX1_lengthen_16 (by decide) ?_
    exact bM_lengthen_20 C Wd hf (lv_sub hl [1, 2, 3, 0] rfl)
set_option maxHeartbeats 4000000 in
set_option maxRecDepth 100000 in
theorem bM_moveTo_73 {p : Program} {l : Launch} {e : Env} {s : State} {m : MethodId} {args : Array Value} {below : List Frame} {meth : Method} {c : Code} {D : va_G} {ad : MA} {A : Nat → Prop} (C : m_C p s m args meth c cX1_moveTo 7 (some .int)) {post : Int32 → MS → Prop} {σ : MS} {H : Heap} {locs : List Loc} {ls : Array Slot} {v4 : Int32} {v5 : Int32} (Wd : m_W D ad σ A s H locs) (hf : wM_moveTo_73 (m_lim ad) σ v4 v5 post) (hl : lv_has ls 7 [(0, .ref (m_h ad)), (4, .int v4), (5, .int v5)]) : W p l e { frames := 5, cells := 0, slots := 0, locals := 115 } s m args below meth c H locs 0 0 (m_Qi below D ad A args s post) (F0 m 73 ls []) := by
  refine lv_aload_n C.1 C.2.1 dX1_moveTo_73 rfl (lv_at hl 0 rfl) ?_
  refine lv_iload C.1 C.2.1 dX1_moveTo_74 (lv_at hl 2 rfl) ?_
  refine m_callvv (As := [.int v5]) (rest := []) C Wd (cM_give l D ad v5) sM_give (by decide) rfl hl.1 rfl (Nat.le_of_ble_eq_true rfl) (by decide) dX1_moveTo_76 hf (fun σ76 H locs hf Wd => ?_)
  refine lv_iload C.1 C.2.1 dX1_moveTo_79 (lv_at hl 1 rfl) ?_
  exact m_iret C Wd hf dX1_moveTo_81
set_option maxHeartbeats 4000000 in
set_option maxRecDepth 100000 in
theorem bM_moveTo_34_f {p : Program} {l : Launch} {e : Env} {s : State} {m : MethodId} {args : Array Value} {below : List Frame} {meth : Method} {c : Code} {D : va_G} {ad : MA} {A : Nat → Prop} (C : m_C p s m args meth c cX1_moveTo 7 (some .int)) {post : Int32 → MS → Prop} : ∀ (f : Nat) (σ : MS) (H : Heap) (locs : List Loc) (ls : Array Slot) (v1 : Int32) (v4 : Int32) (v5 : Int32) (v6 : Int32), m_W D ad σ A s H locs → wM_moveTo_34 (m_lim ad) post f σ v1 v4 v5 v6 → lv_has ls 7 [(0, .ref (m_h ad)), (1, .int v1), (4, .int v4), (5, .int v5), (6, .int v6)] → W p l e { frames := 5, cells := 0, slots := 0, locals := 115 } s m args below meth c H locs 0 0 (m_Qi below D ad A args s post) (F0 m 34 ls []) := by
  intro f
  induction f with
  | zero => intro σ H locs ls v1 v4 v5 v6 Wd hf hl; exact False.elim hf
  | succ f ih =>
    intro σ H locs ls v1 v4 v5 v6 Wd hf hl
    replace hf : wM_moveTo_34_s (m_lim ad) post (wM_moveTo_34 (m_lim ad) post f) σ v1 v4 v5 v6 := hf
    refine lv_iload C.1 C.2.1 dX1_moveTo_34 (lv_at hl 4 rfl) ?_
    refine lv_aload_n C.1 C.2.1 dX1_moveTo_36 rfl (lv_at hl 0 rfl) ?_
    refine m_get_sz C Wd dX1_moveTo_37 ?_
    refine lv_iload C.1 C.2.1 dX1_moveTo_40 (lv_at hl 3 rfl) ?_
    refine m_ald_sz C Wd hf.1 dX1_moveTo_42 ?_
    replace hf := hf.2
    refine lv_iconst (v := 1) C.1 C.2.1 dX1_moveTo_43 (by decide) ?_
    refine lv_isub C.1 C.2.1 dX1_moveTo_44 ?_
    refine lv_icmp_ge (tgt := 73) C.1 C.2.1 dX1_moveTo_45 (by decide) (fun hc => ?_) (fun hc => ?_)
    · replace hf := hf.1 hc
      exact bM_moveTo_73 C Wd hf (lv_sub hl [0, 2, 3] rfl)
    · replace hf := hf.2 hc
      refine lv_aload_n C.1 C.2.1 dX1_moveTo_48 rfl (lv_at hl 0 rfl) ?_
      refine m_get_un C Wd dX1_moveTo_49 ?_
      refine lv_iload C.1 C.2.1 dX1_moveTo_52 (lv_at hl 2 rfl) ?_
      refine lv_iload C.1 C.2.1 dX1_moveTo_54 (lv_at hl 4 rfl) ?_
      refine lv_iadd C.1 C.2.1 dX1_moveTo_56 ?_
      refine lv_aload_n C.1 C.2.1 dX1_moveTo_57 rfl (lv_at hl 0 rfl) ?_
      refine m_get_un C Wd dX1_moveTo_58 ?_
      refine lv_iload_n C.1 C.2.1 dX1_moveTo_61 rfl (lv_at hl 1 rfl) ?_
      refine lv_iload C.1 C.2.1 dX1_moveTo_62 (lv_at hl 4 rfl) ?_
      refine lv_iadd C.1 C.2.1 dX1_moveTo_64 ?_
      refine m_ald_un C Wd hf.1 dX1_moveTo_65 ?_
      replace hf := hf.2
      refine m_ast_un C Wd hf.1 dX1_moveTo_66 (fun H locs Wd => ?_)
      replace hf := hf.2
      refine lv_iinc (v := v6 + 1) (lv' := [(6, .int (v6 + 1)), (0, .ref (m_h ad)), (1, .int v1), (4, .int v4), (5, .int v5)]) C.1 C.2.1 dX1_moveTo_67 hl (k := 4) rfl rfl (by decide) rfl (fun ls hl => ?_)
      refine lv_goto (tgt := 34) C.1 C.2.1 dX1_moveTo_70 (by decide) ?_
      exact ih _ _ _ _ _ _ _ _  Wd hf (lv_sub hl [1, 2, 3, 4, 0] rfl)
theorem bM_moveTo_34 {p : Program} {l : Launch} {e : Env} {s : State} {m : MethodId} {args : Array Value} {below : List Frame} {meth : Method} {c : Code} {D : va_G} {ad : MA} {A : Nat → Prop} (C : m_C p s m args meth c cX1_moveTo 7 (some .int)) {post : Int32 → MS → Prop} {σ : MS} {H : Heap} {locs : List Loc} {ls : Array Slot} {v1 : Int32} {v4 : Int32} {v5 : Int32} {v6 : Int32} (Wd : m_W D ad σ A s H locs) (hf : ∃ f : Nat, wM_moveTo_34 (m_lim ad) post f σ v1 v4 v5 v6) (hl : lv_has ls 7 [(0, .ref (m_h ad)), (1, .int v1), (4, .int v4), (5, .int v5), (6, .int v6)]) : W p l e { frames := 5, cells := 0, slots := 0, locals := 115 } s m args below meth c H locs 0 0 (m_Qi below D ad A args s post) (F0 m 34 ls []) := by
  obtain ⟨f, hf⟩ := hf
  exact bM_moveTo_34_f C f σ H locs ls v1 v4 v5 v6 Wd hf hl
set_option maxHeartbeats 4000000 in
set_option maxRecDepth 100000 in
theorem cM_moveTo (l : Launch) (D : va_G) (ad : MA) (v1 : Int32) (v2 : Int32) : m_Mi l D yX1_moveTo cX1_moveTo 7 (some .int) { frames := 5, cells := 0, slots := 0, locals := 115 } ad [.ref (m_h ad), .int v1, .int v2] (fun σ post => wM_moveTo (m_lim ad) σ v1 v2 post) := by
  refine m_ofi ⟨by decide, rfl, Nat.le_of_ble_eq_true rfl⟩ (fun {p e s m args below meth c σ A post ls} C Wd hf hl => ?_)
  replace hl : lv_has ls 7 [(0, .ref (m_h ad)), (1, .int v1), (2, .int v2)] := hl
  refine lv_aload_n C.1 C.2.1 dX1_moveTo_0 rfl (lv_at hl 0 rfl) ?_
  refine lv_iload_n C.1 C.2.1 dX1_moveTo_1 rfl (lv_at hl 2 rfl) ?_
  refine m_calliv (As := [.int v2]) (rest := []) C Wd (cM_take l D ad v2) sM_take (by decide) rfl hl.1 rfl (Nat.le_of_ble_eq_true rfl) (by decide) dX1_moveTo_2 hf (fun r2 σ2 H locs hf Wd => ?_)
  refine lv_istore_n (lv' := [(3, .int r2), (0, .ref (m_h ad)), (1, .int v1), (2, .int v2)]) C.1 C.2.1 dX1_moveTo_5 rfl hl (by decide) rfl (fun ls hl => ?_)
  refine lv_iload_n C.1 C.2.1 dX1_moveTo_6 rfl (lv_at hl 0 rfl) ?_
  refine lv_if_ge (tgt := 12) C.1 C.2.1 dX1_moveTo_7 (by decide) (fun hc => ?_) (fun hc => ?_)
  · replace hf := hf.1 hc
    refine lv_aload_n C.1 C.2.1 dX1_moveTo_12 rfl (lv_at hl 1 rfl) ?_
    refine m_get_fi C Wd dX1_moveTo_13 ?_
    refine lv_iload_n C.1 C.2.1 dX1_moveTo_16 rfl (lv_at hl 0 rfl) ?_
    refine m_ald_fi C Wd hf.1 dX1_moveTo_17 ?_
    replace hf := hf.2
    refine lv_iconst (v := 1) C.1 C.2.1 dX1_moveTo_18 (by decide) ?_
    refine lv_iadd C.1 C.2.1 dX1_moveTo_19 ?_
    refine lv_istore (lv' := [(4, .int ((m_fi σ2 r2.toNatClampNeg) + 1)), (3, .int r2), (0, .ref (m_h ad)), (1, .int v1), (2, .int v2)]) C.1 C.2.1 dX1_moveTo_20 hl (by decide) rfl (fun ls hl => ?_)
    refine lv_aload_n C.1 C.2.1 dX1_moveTo_22 rfl (lv_at hl 2 rfl) ?_
    refine lv_iload_n C.1 C.2.1 dX1_moveTo_23 rfl (lv_at hl 3 rfl) ?_
    refine lv_iconst (v := 1) C.1 C.2.1 dX1_moveTo_24 (by decide) ?_
    refine lv_isub C.1 C.2.1 dX1_moveTo_25 ?_
    refine m_calliv (As := [.int (v1 - 1)]) (rest := []) C Wd (cM_at l D ad (v1 - 1)) sM_at (by decide) rfl hl.1 rfl (Nat.le_of_ble_eq_true rfl) (by decide) dX1_moveTo_26 hf (fun r26 σ26 H locs hf Wd => ?_)
    refine lv_istore (lv' := [(5, .int r26), (4, .int ((m_fi σ2 r2.toNatClampNeg) + 1)), (3, .int r2), (0, .ref (m_h ad)), (1, .int v1), (2, .int v2)]) C.1 C.2.1 dX1_moveTo_29 hl (by decide) rfl (fun ls hl => ?_)
    refine lv_iconst (v := 0) C.1 C.2.1 dX1_moveTo_31 (by decide) ?_
    refine lv_istore (lv' := [(6, .int 0), (5, .int r26), (4, .int ((m_fi σ2 r2.toNatClampNeg) + 1)), (3, .int r2), (0, .ref (m_h ad)), (1, .int v1), (2, .int v2)]) C.1 C.2.1 dX1_moveTo_32 hl (by decide) rfl (fun ls hl => ?_)
    exact bM_moveTo_34 C Wd hf (lv_sub hl [4, 5, 2, 1, 0] rfl)
  · replace hf := hf.2 hc
    refine lv_iconst (v := 0) C.1 C.2.1 dX1_moveTo_10 (by decide) ?_
    exact m_iret C Wd hf dX1_moveTo_11
set_option maxHeartbeats 4000000 in
set_option maxRecDepth 100000 in
theorem bM_realloc_31 {p : Program} {l : Launch} {e : Env} {s : State} {m : MethodId} {args : Array Value} {below : List Frame} {meth : Method} {c : Code} {D : va_G} {ad : MA} {A : Nat → Prop} (C : m_C p s m args meth c cX1_realloc 5 (some .int)) {post : Int32 → MS → Prop} {σ : MS} {H : Heap} {locs : List Loc} {ls : Array Slot} {v1 : Int32} {v3 : Int32} {k0 : Int32} (Wd : m_W D ad σ A s H locs) (hf : wM_realloc_31 (m_lim ad) σ v1 v3 k0 post) (hl : lv_has ls 5 [(0, .ref (m_h ad)), (1, .int v1), (3, .int v3)]) : W p l e { frames := 6, cells := 0, slots := 0, locals := 141 } s m args below meth c H locs 0 0 (m_Qi below D ad A args s post) (F0 m 31 ls [.int k0]) := by
  refine lv_istore (lv' := [(4, .int k0), (0, .ref (m_h ad)), (1, .int v1), (3, .int v3)]) C.1 C.2.1 dX1_realloc_31 hl (by decide) rfl (fun ls hl => ?_)
  refine lv_aload_n C.1 C.2.1 dX1_realloc_33 rfl (lv_at hl 1 rfl) ?_
  refine m_get_sz C Wd dX1_realloc_34 ?_
  refine lv_iload_n C.1 C.2.1 dX1_realloc_37 rfl (lv_at hl 3 rfl) ?_
  refine m_ald_sz C Wd hf.1 dX1_realloc_38 ?_
  replace hf := hf.2
  refine lv_iload C.1 C.2.1 dX1_realloc_39 (lv_at hl 0 rfl) ?_
  refine lv_icmp_lt (tgt := 53) C.1 C.2.1 dX1_realloc_41 (by decide) (fun hc => ?_) (fun hc => ?_)
  · replace hf := hf.1 hc
    refine lv_aload_n C.1 C.2.1 dX1_realloc_53 rfl (lv_at hl 1 rfl) ?_
    refine lv_iload_n C.1 C.2.1 dX1_realloc_54 rfl (lv_at hl 3 rfl) ?_
    refine lv_iload C.1 C.2.1 dX1_realloc_55 (lv_at hl 0 rfl) ?_
    refine m_calliv (As := [.int v3, .int k0]) (rest := []) C Wd (cM_lengthen l D ad v3 k0) sM_lengthen (by decide) rfl hl.1 rfl (Nat.le_of_ble_eq_true rfl) (by decide) dX1_realloc_57 hf (fun r57 σ57 H locs hf Wd => ?_)
    refine lv_if_eq (tgt := 67) C.1 C.2.1 dX1_realloc_60 (by decide) (fun hc => ?_) (fun hc => ?_)
    · replace hf := hf.1 hc
      refine lv_aload_n C.1 C.2.1 dX1_realloc_67 rfl (lv_at hl 1 rfl) ?_
      refine lv_iload_n C.1 C.2.1 dX1_realloc_68 rfl (lv_at hl 2 rfl) ?_
      refine lv_iload C.1 C.2.1 dX1_realloc_69 (lv_at hl 0 rfl) ?_
      refine m_calliv (As := [.int v1, .int k0]) (rest := []) C Wd (cM_moveTo l D ad v1 k0) sM_moveTo (by decide) rfl hl.1 rfl (Nat.le_of_ble_eq_true rfl) (by decide) dX1_realloc_71 hf (fun r71 σ71 H locs hf Wd => ?_)
      exact m_iret C Wd hf dX1_realloc_74
    · replace hf := hf.2 hc
      refine lv_iload_n C.1 C.2.1 dX1_realloc_63 rfl (lv_at hl 2 rfl) ?_
      refine lv_goto (tgt := 74) C.1 C.2.1 dX1_realloc_64 (by decide) ?_
      exact m_iret C Wd hf dX1_realloc_74
  · replace hf := hf.2 hc
    refine lv_aload_n C.1 C.2.1 dX1_realloc_44 rfl (lv_at hl 1 rfl) ?_
    refine lv_iload_n C.1 C.2.1 dX1_realloc_45 rfl (lv_at hl 3 rfl) ?_
    refine lv_iload C.1 C.2.1 dX1_realloc_46 (lv_at hl 0 rfl) ?_
    refine m_callvv (As := [.int v3, .int k0]) (rest := []) C Wd (cM_shorten l D ad v3 k0) sM_shorten (by decide) rfl hl.1 rfl (Nat.le_of_ble_eq_true rfl) (by decide) dX1_realloc_48 hf (fun σ48 H locs hf Wd => ?_)
    refine lv_iload_n C.1 C.2.1 dX1_realloc_51 rfl (lv_at hl 2 rfl) ?_
    exact m_iret C Wd hf dX1_realloc_52
set_option maxHeartbeats 4000000 in
set_option maxRecDepth 100000 in
theorem cM_realloc (l : Launch) (D : va_G) (ad : MA) (v1 : Int32) (v2 : Int32) : m_Mi l D yX1_realloc cX1_realloc 5 (some .int) { frames := 6, cells := 0, slots := 0, locals := 141 } ad [.ref (m_h ad), .int v1, .int v2] (fun σ post => wM_realloc (m_lim ad) σ v1 v2 post) := by
  refine m_ofi ⟨by decide, rfl, Nat.le_of_ble_eq_true rfl⟩ (fun {p e s m args below meth c σ A post ls} C Wd hf hl => ?_)
  replace hl : lv_has ls 5 [(0, .ref (m_h ad)), (1, .int v1), (2, .int v2)] := hl
  refine lv_aload_n C.1 C.2.1 dX1_realloc_0 rfl (lv_at hl 0 rfl) ?_
  refine lv_iload_n C.1 C.2.1 dX1_realloc_1 rfl (lv_at hl 1 rfl) ?_
  refine m_calliv (As := [.int v1]) (rest := []) C Wd (cM_holder l D ad v1) sM_holder (by decide) rfl hl.1 rfl (Nat.le_of_ble_eq_true rfl) (by decide) dX1_realloc_2 hf (fun r2 σ2 H locs hf Wd => ?_)
  refine lv_istore_n (lv' := [(3, .int r2), (0, .ref (m_h ad)), (1, .int v1), (2, .int v2)]) C.1 C.2.1 dX1_realloc_5 rfl hl (by decide) rfl (fun ls hl => ?_)
  refine lv_iload_n C.1 C.2.1 dX1_realloc_6 rfl (lv_at hl 0 rfl) ?_
  refine lv_if_lt (tgt := 17) C.1 C.2.1 dX1_realloc_7 (by decide) (fun hc => ?_) (fun hc => ?_)
  · replace hf := hf.1 hc
    refine lv_iconst (v := 0) C.1 C.2.1 dX1_realloc_17 (by decide) ?_
    exact m_iret C Wd hf dX1_realloc_18
  · replace hf := hf.2 hc
    refine lv_iload_n C.1 C.2.1 dX1_realloc_10 rfl (lv_at hl 3 rfl) ?_
    refine lv_sipush (v := 511) C.1 C.2.1 dX1_realloc_11 (by decide) ?_
    refine lv_icmp_le (tgt := 19) C.1 C.2.1 dX1_realloc_14 (by decide) (fun hc => ?_) (fun hc => ?_)
    · replace hf := hf.1 hc
      refine lv_iload_n C.1 C.2.1 dX1_realloc_19 rfl (lv_at hl 3 rfl) ?_
      refine lv_iconst (v := 1) C.1 C.2.1 dX1_realloc_20 (by decide) ?_
      refine lv_icmp_ge (tgt := 28) C.1 C.2.1 dX1_realloc_21 (by decide) (fun hc => ?_) (fun hc => ?_)
      · replace hf := hf.1 hc
        refine lv_iload_n C.1 C.2.1 dX1_realloc_28 rfl (lv_at hl 3 rfl) ?_
        refine lv_iconst (v := 1) C.1 C.2.1 dX1_realloc_29 (by decide) ?_
        refine lv_iadd C.1 C.2.1 dX1_realloc_30 ?_
        exact bM_realloc_31 C Wd hf (lv_sub hl [1, 2, 0] rfl)
      · replace hf := hf.2 hc
        refine lv_iconst (v := 2) C.1 C.2.1 dX1_realloc_24 (by decide) ?_
        refine lv_goto (tgt := 31) C.1 C.2.1 dX1_realloc_25 (by decide) ?_
        exact bM_realloc_31 C Wd hf (lv_sub hl [1, 2, 0] rfl)
    · replace hf := hf.2 hc
      refine lv_iconst (v := 0) C.1 C.2.1 dX1_realloc_17 (by decide) ?_
      exact m_iret C Wd hf dX1_realloc_18
end
section
set_option maxHeartbeats 4000000 in
set_option maxRecDepth 100000 in
theorem bM_align_128 {p : Program} {l : Launch} {e : Env} {s : State} {m : MethodId} {args : Array Value} {below : List Frame} {meth : Method} {c : Code} {D : va_G} {ad : MA} {A : Nat → Prop} (C : m_C p s m args meth c cX1_align 7 (some .int)) {post : Int32 → MS → Prop} {σ : MS} {H : Heap} {locs : List Loc} {ls : Array Slot} {v3 : Int32} {v5 : Int32} (Wd : m_W D ad σ A s H locs) (hf : wM_align_128 (m_lim ad) σ v3 v5 post) (hl : lv_has ls 7 [(0, .ref (m_h ad)), (3, .int v3), (5, .int v5)]) : W p l e { frames := 5, cells := 0, slots := 0, locals := 115 } s m args below meth c H locs 0 0 (m_Qi below D ad A args s post) (F0 m 128 ls []) := by
  refine lv_aload_n C.1 C.2.1 dX1_align_128 rfl (lv_at hl 0 rfl) ?_
  refine lv_iload C.1 C.2.1 dX1_align_129 (lv_at hl 2 rfl) ?_
  refine lv_iconst (v := 1) C.1 C.2.1 dX1_align_131 (by decide) ?_
  refine lv_isub C.1 C.2.1 dX1_align_132 ?_
  refine m_calliv (As := [.int (v5 - 1)]) (rest := []) C Wd (cM_at l D ad (v5 - 1)) sM_at (by decide) rfl hl.1 rfl (Nat.le_of_ble_eq_true rfl) (by decide) dX1_align_133 hf (fun r133 σ133 H locs hf Wd => ?_)
  refine lv_istore (lv' := [(6, .int r133), (0, .ref (m_h ad)), (3, .int v3), (5, .int v5)]) C.1 C.2.1 dX1_align_136 hl (by decide) rfl (fun ls hl => ?_)
  refine lv_aload_n C.1 C.2.1 dX1_align_138 rfl (lv_at hl 1 rfl) ?_
  refine lv_iload C.1 C.2.1 dX1_align_139 (lv_at hl 0 rfl) ?_
  refine lv_iload_n C.1 C.2.1 dX1_align_141 rfl (lv_at hl 2 rfl) ?_
  refine lv_iconst (v := 1) C.1 C.2.1 dX1_align_142 (by decide) ?_
  refine lv_iadd C.1 C.2.1 dX1_align_143 ?_
  refine m_callvv (As := [.int r133, .int (v3 + 1)]) (rest := []) C Wd (cM_shorten l D ad r133 (v3 + 1)) sM_shorten (by decide) rfl hl.1 rfl (Nat.le_of_ble_eq_true rfl) (by decide) dX1_align_144 hf (fun σ144 H locs hf Wd => ?_)
  refine lv_iload C.1 C.2.1 dX1_align_147 (lv_at hl 3 rfl) ?_
  exact m_iret C Wd hf dX1_align_149
set_option maxHeartbeats 4000000 in
set_option maxRecDepth 100000 in
theorem bM_align_97 {p : Program} {l : Launch} {e : Env} {s : State} {m : MethodId} {args : Array Value} {below : List Frame} {meth : Method} {c : Code} {D : va_G} {ad : MA} {A : Nat → Prop} (C : m_C p s m args meth c cX1_align 7 (some .int)) {post : Int32 → MS → Prop} {σ : MS} {H : Heap} {locs : List Loc} {ls : Array Slot} {v3 : Int32} {v4 : Int32} {v5 : Int32} {v6 : Int32} (Wd : m_W D ad σ A s H locs) (hf : wM_align_97 (m_lim ad) σ v3 v4 v5 v6 post) (hl : lv_has ls 7 [(0, .ref (m_h ad)), (3, .int v3), (4, .int v4), (5, .int v5), (6, .int v6)]) : W p l e { frames := 5, cells := 0, slots := 0, locals := 115 } s m args below meth c H locs 0 0 (m_Qi below D ad A args s post) (F0 m 97 ls []) := by
  refine lv_aload_n C.1 C.2.1 dX1_align_97 rfl (lv_at hl 0 rfl) ?_
  refine lv_iload C.1 C.2.1 dX1_align_98 (lv_at hl 2 rfl) ?_
  refine lv_iload C.1 C.2.1 dX1_align_100 (lv_at hl 4 rfl) ?_
  refine m_callvv (As := [.int v4, .int v6]) (rest := []) C Wd (cM_part l D ad v4 v6) sM_part (by decide) rfl hl.1 rfl (Nat.le_of_ble_eq_true rfl) (by decide) dX1_align_102 hf (fun σ102 H locs hf Wd => ?_)
  refine lv_aload_n C.1 C.2.1 dX1_align_105 rfl (lv_at hl 0 rfl) ?_
  refine m_get_us C Wd dX1_align_106 ?_
  refine lv_iload C.1 C.2.1 dX1_align_109 (lv_at hl 2 rfl) ?_
  refine lv_iconst (v := 1) C.1 C.2.1 dX1_align_111 (by decide) ?_
  refine lv_iadd C.1 C.2.1 dX1_align_112 ?_
  refine lv_iconst (v := 1) C.1 C.2.1 dX1_align_113 (by decide) ?_
  refine m_ast_us C Wd hf.1 rfl dX1_align_114 (fun H locs Wd => ?_)
  replace hf := hf.2
  refine lv_aload_n C.1 C.2.1 dX1_align_115 rfl (lv_at hl 0 rfl) ?_
  refine lv_iload C.1 C.2.1 dX1_align_116 (lv_at hl 2 rfl) ?_
  refine m_callvv (As := [.int v4]) (rest := []) C Wd (cM_give l D ad v4) sM_give (by decide) rfl hl.1 rfl (Nat.le_of_ble_eq_true rfl) (by decide) dX1_align_118 hf (fun σ118 H locs hf Wd => ?_)
  refine lv_iload C.1 C.2.1 dX1_align_121 (lv_at hl 3 rfl) ?_
  refine lv_iload C.1 C.2.1 dX1_align_123 (lv_at hl 4 rfl) ?_
  refine lv_iadd C.1 C.2.1 dX1_align_125 ?_
  refine lv_istore (lv' := [(5, .int (v5 + v6)), (0, .ref (m_h ad)), (3, .int v3), (4, .int v4), (6, .int v6)]) C.1 C.2.1 dX1_align_126 hl (by decide) rfl (fun ls hl => ?_)
  exact bM_align_128 C Wd hf (lv_sub hl [1, 2, 0] rfl)
set_option maxHeartbeats 4000000 in
set_option maxRecDepth 100000 in
theorem bM_align_81_f {p : Program} {l : Launch} {e : Env} {s : State} {m : MethodId} {args : Array Value} {below : List Frame} {meth : Method} {c : Code} {D : va_G} {ad : MA} {A : Nat → Prop} (C : m_C p s m args meth c cX1_align 7 (some .int)) {post : Int32 → MS → Prop} : ∀ (f : Nat) (σ : MS) (H : Heap) (locs : List Loc) (ls : Array Slot) (v2 : Int32) (v3 : Int32) (v4 : Int32) (v5 : Int32) (v6 : Int32), m_W D ad σ A s H locs → wM_align_81 (m_lim ad) post f σ v2 v3 v4 v5 v6 → lv_has ls 7 [(0, .ref (m_h ad)), (2, .int v2), (3, .int v3), (4, .int v4), (5, .int v5), (6, .int v6)] → W p l e { frames := 5, cells := 0, slots := 0, locals := 115 } s m args below meth c H locs 0 0 (m_Qi below D ad A args s post) (F0 m 81 ls []) := by
  intro f
  induction f with
  | zero => intro σ H locs ls v2 v3 v4 v5 v6 Wd hf hl; exact False.elim hf
  | succ f ih =>
    intro σ H locs ls v2 v3 v4 v5 v6 Wd hf hl
    replace hf : wM_align_81_s (m_lim ad) post (wM_align_81 (m_lim ad) post f) σ v2 v3 v4 v5 v6 := hf
    refine lv_iload C.1 C.2.1 dX1_align_81 (lv_at hl 4 rfl) ?_
    refine lv_iload C.1 C.2.1 dX1_align_83 (lv_at hl 5 rfl) ?_
    refine lv_iadd C.1 C.2.1 dX1_align_85 ?_
    refine lv_iload_n C.1 C.2.1 dX1_align_86 rfl (lv_at hl 1 rfl) ?_
    refine lv_irem C.1 C.2.1 dX1_align_87 hf.1 ?_
    replace hf := hf.2
    refine lv_if_eq (tgt := 97) C.1 C.2.1 dX1_align_88 (by decide) (fun hc => ?_) (fun hc => ?_)
    · replace hf := hf.1 hc
      exact bM_align_97 C Wd hf (lv_sub hl [0, 2, 3, 4, 5] rfl)
    · replace hf := hf.2 hc
      refine lv_iinc (v := v6 + 1) (lv' := [(6, .int (v6 + 1)), (0, .ref (m_h ad)), (2, .int v2), (3, .int v3), (4, .int v4), (5, .int v5)]) C.1 C.2.1 dX1_align_91 hl (k := 5) rfl rfl (by decide) rfl (fun ls hl => ?_)
      refine lv_goto (tgt := 81) C.1 C.2.1 dX1_align_94 (by decide) ?_
      exact ih _ _ _ _ _ _ _ _ _  Wd hf (lv_sub hl [1, 2, 3, 4, 5, 0] rfl)
theorem bM_align_81 {p : Program} {l : Launch} {e : Env} {s : State} {m : MethodId} {args : Array Value} {below : List Frame} {meth : Method} {c : Code} {D : va_G} {ad : MA} {A : Nat → Prop} (C : m_C p s m args meth c cX1_align 7 (some .int)) {post : Int32 → MS → Prop} {σ : MS} {H : Heap} {locs : List Loc} {ls : Array Slot} {v2 : Int32} {v3 : Int32} {v4 : Int32} {v5 : Int32} {v6 : Int32} (Wd : m_W D ad σ A s H locs) (hf : ∃ f : Nat, wM_align_81 (m_lim ad) post f σ v2 v3 v4 v5 v6) (hl : lv_has ls 7 [(0, .ref (m_h ad)), (2, .int v2), (3, .int v3), (4, .int v4), (5, .int v5), (6, .int v6)]) : W p l e { frames := 5, cells := 0, slots := 0, locals := 115 } s m args below meth c H locs 0 0 (m_Qi below D ad A args s post) (F0 m 81 ls []) := by
  obtain ⟨f, hf⟩ := hf
  exact bM_align_81_f C f σ H locs ls v2 v3 v4 v5 v6 Wd hf hl
set_option maxHeartbeats 4000000 in
set_option maxRecDepth 100000 in
theorem bM_align_41 {p : Program} {l : Launch} {e : Env} {s : State} {m : MethodId} {args : Array Value} {below : List Frame} {meth : Method} {c : Code} {D : va_G} {ad : MA} {A : Nat → Prop} (C : m_C p s m args meth c cX1_align 7 (some .int)) {post : Int32 → MS → Prop} {σ : MS} {H : Heap} {locs : List Loc} {ls : Array Slot} {v2 : Int32} {k0 : Int32} (Wd : m_W D ad σ A s H locs) (hf : wM_align_41 (m_lim ad) σ v2 k0 post) (hl : lv_has ls 7 [(0, .ref (m_h ad)), (2, .int v2)]) : W p l e { frames := 5, cells := 0, slots := 0, locals := 115 } s m args below meth c H locs 0 0 (m_Qi below D ad A args s post) (F0 m 41 ls [.int k0]) := by
  refine lv_istore_n (lv' := [(3, .int k0), (0, .ref (m_h ad)), (2, .int v2)]) C.1 C.2.1 dX1_align_41 rfl hl (by decide) rfl (fun ls hl => ?_)
  refine lv_aload_n C.1 C.2.1 dX1_align_42 rfl (lv_at hl 1 rfl) ?_
  refine lv_iload_n C.1 C.2.1 dX1_align_43 rfl (lv_at hl 0 rfl) ?_
  refine lv_iload_n C.1 C.2.1 dX1_align_44 rfl (lv_at hl 2 rfl) ?_
  refine lv_iadd C.1 C.2.1 dX1_align_45 ?_
  refine lv_iconst (v := 3) C.1 C.2.1 dX1_align_46 (by decide) ?_
  refine lv_iadd C.1 C.2.1 dX1_align_47 ?_
  refine m_calliv (As := [.int ((k0 + v2) + 3)]) (rest := []) C Wd (cM_take l D ad ((k0 + v2) + 3)) sM_take (by decide) rfl hl.1 rfl (Nat.le_of_ble_eq_true rfl) (by decide) dX1_align_48 hf (fun r48 σ48 H locs hf Wd => ?_)
  refine lv_istore (lv' := [(4, .int r48), (3, .int k0), (0, .ref (m_h ad)), (2, .int v2)]) C.1 C.2.1 dX1_align_51 hl (by decide) rfl (fun ls hl => ?_)
  refine lv_iload C.1 C.2.1 dX1_align_53 (lv_at hl 0 rfl) ?_
  refine lv_if_ge (tgt := 60) C.1 C.2.1 dX1_align_55 (by decide) (fun hc => ?_) (fun hc => ?_)
  · replace hf := hf.1 hc
    refine lv_aload_n C.1 C.2.1 dX1_align_60 rfl (lv_at hl 2 rfl) ?_
    refine m_get_fi C Wd dX1_align_61 ?_
    refine lv_iload C.1 C.2.1 dX1_align_64 (lv_at hl 0 rfl) ?_
    refine m_ald_fi C Wd hf.1 dX1_align_66 ?_
    replace hf := hf.2
    refine lv_iconst (v := 1) C.1 C.2.1 dX1_align_67 (by decide) ?_
    refine lv_iadd C.1 C.2.1 dX1_align_68 ?_
    refine lv_istore (lv' := [(5, .int ((m_fi σ48 r48.toNatClampNeg) + 1)), (4, .int r48), (3, .int k0), (0, .ref (m_h ad)), (2, .int v2)]) C.1 C.2.1 dX1_align_69 hl (by decide) rfl (fun ls hl => ?_)
    refine lv_iload C.1 C.2.1 dX1_align_71 (lv_at hl 0 rfl) ?_
    refine lv_iload_n C.1 C.2.1 dX1_align_73 rfl (lv_at hl 4 rfl) ?_
    refine lv_irem C.1 C.2.1 dX1_align_74 hf.1 ?_
    replace hf := hf.2
    refine lv_if_eq (tgt := 128) C.1 C.2.1 dX1_align_75 (by decide) (fun hc => ?_) (fun hc => ?_)
    · replace hf := hf.1 hc
      exact bM_align_128 C Wd hf (lv_sub hl [3, 2, 0] rfl)
    · replace hf := hf.2 hc
      refine lv_iconst (v := 2) C.1 C.2.1 dX1_align_78 (by decide) ?_
      refine lv_istore (lv' := [(6, .int 2), (5, .int ((m_fi σ48 r48.toNatClampNeg) + 1)), (4, .int r48), (3, .int k0), (0, .ref (m_h ad)), (2, .int v2)]) C.1 C.2.1 dX1_align_79 hl (by decide) rfl (fun ls hl => ?_)
      exact bM_align_81 C Wd hf (lv_sub hl [4, 5, 3, 2, 1, 0] rfl)
  · replace hf := hf.2 hc
    refine lv_iconst (v := 0) C.1 C.2.1 dX1_align_58 (by decide) ?_
    exact m_iret C Wd hf dX1_align_59
set_option maxHeartbeats 4000000 in
set_option maxRecDepth 100000 in
theorem cM_align (l : Launch) (D : va_G) (ad : MA) (v1 : Int32) (v2 : Int32) : m_Mi l D yX1_align cX1_align 7 (some .int) { frames := 5, cells := 0, slots := 0, locals := 115 } ad [.ref (m_h ad), .int v1, .int v2] (fun σ post => wM_align (m_lim ad) σ v1 v2 post) := by
  refine m_ofi ⟨by decide, rfl, Nat.le_of_ble_eq_true rfl⟩ (fun {p e s m args below meth c σ A post ls} C Wd hf hl => ?_)
  replace hl : lv_has ls 7 [(0, .ref (m_h ad)), (1, .int v1), (2, .int v2)] := hl
  refine lv_iload_n C.1 C.2.1 dX1_align_0 rfl (lv_at hl 1 rfl) ?_
  refine lv_sipush (v := 511) C.1 C.2.1 dX1_align_1 (by decide) ?_
  refine lv_icmp_gt (tgt := 29) C.1 C.2.1 dX1_align_4 (by decide) (fun hc => ?_) (fun hc => ?_)
  · replace hf := hf.1 hc
    refine lv_iconst (v := 0) C.1 C.2.1 dX1_align_29 (by decide) ?_
    exact m_iret C Wd hf dX1_align_30
  · replace hf := hf.2 hc
    refine lv_iload_n C.1 C.2.1 dX1_align_7 rfl (lv_at hl 2 rfl) ?_
    refine lv_iconst (v := 2) C.1 C.2.1 dX1_align_8 (by decide) ?_
    refine lv_icmp_eq (tgt := 31) C.1 C.2.1 dX1_align_9 (by decide) (fun hc => ?_) (fun hc => ?_)
    · replace hf := hf.1 hc
      refine lv_iload_n C.1 C.2.1 dX1_align_31 rfl (lv_at hl 1 rfl) ?_
      refine lv_iconst (v := 1) C.1 C.2.1 dX1_align_32 (by decide) ?_
      refine lv_icmp_ge (tgt := 40) C.1 C.2.1 dX1_align_33 (by decide) (fun hc => ?_) (fun hc => ?_)
      · replace hf := hf.1 hc
        refine lv_iload_n C.1 C.2.1 dX1_align_40 rfl (lv_at hl 1 rfl) ?_
        exact bM_align_41 C Wd hf (lv_sub hl [0, 2] rfl)
      · replace hf := hf.2 hc
        refine lv_iconst (v := 1) C.1 C.2.1 dX1_align_36 (by decide) ?_
        refine lv_goto (tgt := 41) C.1 C.2.1 dX1_align_37 (by decide) ?_
        exact bM_align_41 C Wd hf (lv_sub hl [0, 2] rfl)
    · replace hf := hf.2 hc
      refine lv_iload_n C.1 C.2.1 dX1_align_12 rfl (lv_at hl 2 rfl) ?_
      refine lv_iconst (v := 4) C.1 C.2.1 dX1_align_13 (by decide) ?_
      refine lv_icmp_eq (tgt := 31) C.1 C.2.1 dX1_align_14 (by decide) (fun hc => ?_) (fun hc => ?_)
      · replace hf := hf.1 hc
        refine lv_iload_n C.1 C.2.1 dX1_align_31 rfl (lv_at hl 1 rfl) ?_
        refine lv_iconst (v := 1) C.1 C.2.1 dX1_align_32 (by decide) ?_
        refine lv_icmp_ge (tgt := 40) C.1 C.2.1 dX1_align_33 (by decide) (fun hc => ?_) (fun hc => ?_)
        · replace hf := hf.1 hc
          refine lv_iload_n C.1 C.2.1 dX1_align_40 rfl (lv_at hl 1 rfl) ?_
          exact bM_align_41 C Wd hf (lv_sub hl [0, 2] rfl)
        · replace hf := hf.2 hc
          refine lv_iconst (v := 1) C.1 C.2.1 dX1_align_36 (by decide) ?_
          refine lv_goto (tgt := 41) C.1 C.2.1 dX1_align_37 (by decide) ?_
          exact bM_align_41 C Wd hf (lv_sub hl [0, 2] rfl)
      · replace hf := hf.2 hc
        refine lv_iload_n C.1 C.2.1 dX1_align_17 rfl (lv_at hl 2 rfl) ?_
        refine lv_bipush (v := 8) C.1 C.2.1 dX1_align_18 (by decide) ?_
        refine lv_icmp_eq (tgt := 31) C.1 C.2.1 dX1_align_20 (by decide) (fun hc => ?_) (fun hc => ?_)
        · replace hf := hf.1 hc
          refine lv_iload_n C.1 C.2.1 dX1_align_31 rfl (lv_at hl 1 rfl) ?_
          refine lv_iconst (v := 1) C.1 C.2.1 dX1_align_32 (by decide) ?_
          refine lv_icmp_ge (tgt := 40) C.1 C.2.1 dX1_align_33 (by decide) (fun hc => ?_) (fun hc => ?_)
          · replace hf := hf.1 hc
            refine lv_iload_n C.1 C.2.1 dX1_align_40 rfl (lv_at hl 1 rfl) ?_
            exact bM_align_41 C Wd hf (lv_sub hl [0, 2] rfl)
          · replace hf := hf.2 hc
            refine lv_iconst (v := 1) C.1 C.2.1 dX1_align_36 (by decide) ?_
            refine lv_goto (tgt := 41) C.1 C.2.1 dX1_align_37 (by decide) ?_
            exact bM_align_41 C Wd hf (lv_sub hl [0, 2] rfl)
        · replace hf := hf.2 hc
          refine lv_iload_n C.1 C.2.1 dX1_align_23 rfl (lv_at hl 2 rfl) ?_
          refine lv_bipush (v := 16) C.1 C.2.1 dX1_align_24 (by decide) ?_
          refine lv_icmp_eq (tgt := 31) C.1 C.2.1 dX1_align_26 (by decide) (fun hc => ?_) (fun hc => ?_)
          · replace hf := hf.1 hc
            refine lv_iload_n C.1 C.2.1 dX1_align_31 rfl (lv_at hl 1 rfl) ?_
            refine lv_iconst (v := 1) C.1 C.2.1 dX1_align_32 (by decide) ?_
            refine lv_icmp_ge (tgt := 40) C.1 C.2.1 dX1_align_33 (by decide) (fun hc => ?_) (fun hc => ?_)
            · replace hf := hf.1 hc
              refine lv_iload_n C.1 C.2.1 dX1_align_40 rfl (lv_at hl 1 rfl) ?_
              exact bM_align_41 C Wd hf (lv_sub hl [0, 2] rfl)
            · replace hf := hf.2 hc
              refine lv_iconst (v := 1) C.1 C.2.1 dX1_align_36 (by decide) ?_
              refine lv_goto (tgt := 41) C.1 C.2.1 dX1_align_37 (by decide) ?_
              exact bM_align_41 C Wd hf (lv_sub hl [0, 2] rfl)
          · replace hf := hf.2 hc
            refine lv_iconst (v := 0) C.1 C.2.1 dX1_align_29 (by decide) ?_
            exact m_iret C Wd hf dX1_align_30
set_option maxHeartbeats 4000000 in
set_option maxRecDepth 100000 in
theorem bM_trim_60 {p : Program} {l : Launch} {e : Env} {s : State} {m : MethodId} {args : Array Value} {below : List Frame} {meth : Method} {c : Code} {D : va_G} {ad : MA} {A : Nat → Prop} (C : m_C p s m args meth c cX1_trim 4 (some .int)) {post : Int32 → MS → Prop} {σ : MS} {H : Heap} {locs : List Loc} {ls : Array Slot} {v2 : Int32} {v3 : Int32} (Wd : m_W D ad σ A s H locs) (hf : wM_trim_60 (m_lim ad) σ v2 v3 post) (hl : lv_has ls 4 [(0, .ref (m_h ad)), (2, .int v2), (3, .int v3)]) : W p l e { frames := 1, cells := 0, slots := 0, locals := 20 } s m args below meth c H locs 0 0 (m_Qi below D ad A args s post) (F0 m 60 ls []) := by
  refine lv_aload_n C.1 C.2.1 dX1_trim_60 rfl (lv_at hl 0 rfl) ?_
  refine lv_aload_n C.1 C.2.1 dX1_trim_61 rfl (lv_at hl 0 rfl) ?_
  refine m_get_en C Wd dX1_trim_62 ?_
  refine lv_iload_n C.1 C.2.1 dX1_trim_65 rfl (lv_at hl 2 rfl) ?_
  refine lv_isub C.1 C.2.1 dX1_trim_66 ?_
  refine m_put_en C Wd dX1_trim_67 (fun H locs Wd => ?_)
  refine lv_aload_n C.1 C.2.1 dX1_trim_70 rfl (lv_at hl 0 rfl) ?_
  refine m_get_sz C Wd dX1_trim_71 ?_
  refine lv_iload_n C.1 C.2.1 dX1_trim_74 rfl (lv_at hl 1 rfl) ?_
  refine lv_aload_n C.1 C.2.1 dX1_trim_75 rfl (lv_at hl 0 rfl) ?_
  refine m_get_sz C Wd dX1_trim_76 ?_
  refine lv_iload_n C.1 C.2.1 dX1_trim_79 rfl (lv_at hl 1 rfl) ?_
  refine m_ald_sz C Wd hf.1 dX1_trim_80 ?_
  replace hf := hf.2
  refine lv_iload_n C.1 C.2.1 dX1_trim_81 rfl (lv_at hl 2 rfl) ?_
  refine lv_isub C.1 C.2.1 dX1_trim_82 ?_
  refine m_ast_sz C Wd hf.1 dX1_trim_83 (fun H locs Wd => ?_)
  replace hf := hf.2
  refine lv_aload_n C.1 C.2.1 dX1_trim_84 rfl (lv_at hl 0 rfl) ?_
  refine m_get_sz C Wd dX1_trim_85 ?_
  refine lv_iload_n C.1 C.2.1 dX1_trim_88 rfl (lv_at hl 1 rfl) ?_
  refine m_ald_sz C Wd hf.1 dX1_trim_89 ?_
  replace hf := hf.2
  refine lv_if_ne (tgt := 103) C.1 C.2.1 dX1_trim_90 (by decide) (fun hc => ?_) (fun hc => ?_)
  · replace hf := hf.1 hc
    refine lv_iload_n C.1 C.2.1 dX1_trim_103 rfl (lv_at hl 2 rfl) ?_
    exact m_iret C Wd hf dX1_trim_104
  · replace hf := hf.2 hc
    refine lv_aload_n C.1 C.2.1 dX1_trim_93 rfl (lv_at hl 0 rfl) ?_
    refine lv_dup C.1 C.2.1 dX1_trim_94 rfl ?_
    refine m_get_ch C Wd dX1_trim_95 ?_
    refine lv_iconst (v := 1) C.1 C.2.1 dX1_trim_98 (by decide) ?_
    refine lv_isub C.1 C.2.1 dX1_trim_99 ?_
    refine m_put_ch C Wd dX1_trim_100 (fun H locs Wd => ?_)
    refine lv_iload_n C.1 C.2.1 dX1_trim_103 rfl (lv_at hl 2 rfl) ?_
    exact m_iret C Wd hf dX1_trim_104
set_option maxHeartbeats 4000000 in
set_option maxRecDepth 100000 in
theorem bM_trim_24_f {p : Program} {l : Launch} {e : Env} {s : State} {m : MethodId} {args : Array Value} {below : List Frame} {meth : Method} {c : Code} {D : va_G} {ad : MA} {A : Nat → Prop} (C : m_C p s m args meth c cX1_trim 4 (some .int)) {post : Int32 → MS → Prop} : ∀ (f : Nat) (σ : MS) (H : Heap) (locs : List Loc) (ls : Array Slot) (v1 : Int32) (v2 : Int32) (v3 : Int32), m_W D ad σ A s H locs → wM_trim_24 (m_lim ad) post f σ v1 v2 v3 → lv_has ls 4 [(0, .ref (m_h ad)), (1, .int v1), (2, .int v2), (3, .int v3)] → W p l e { frames := 1, cells := 0, slots := 0, locals := 20 } s m args below meth c H locs 0 0 (m_Qi below D ad A args s post) (F0 m 24 ls []) := by
  intro f
  induction f with
  | zero => intro σ H locs ls v1 v2 v3 Wd hf hl; exact False.elim hf
  | succ f ih =>
    intro σ H locs ls v1 v2 v3 Wd hf hl
    replace hf : wM_trim_24_s (m_lim ad) post (wM_trim_24 (m_lim ad) post f) σ v1 v2 v3 := hf
    refine lv_iload_n C.1 C.2.1 dX1_trim_24 rfl (lv_at hl 3 rfl) ?_
    refine lv_if_le (tgt := 60) C.1 C.2.1 dX1_trim_25 (by decide) (fun hc => ?_) (fun hc => ?_)
    · replace hf := hf.1 hc
      exact bM_trim_60 C Wd hf (lv_sub hl [0, 2, 3] rfl)
    · replace hf := hf.2 hc
      refine lv_aload_n C.1 C.2.1 dX1_trim_28 rfl (lv_at hl 0 rfl) ?_
      refine m_get_sz C Wd dX1_trim_29 ?_
      refine lv_iload_n C.1 C.2.1 dX1_trim_32 rfl (lv_at hl 2 rfl) ?_
      refine m_ald_sz C Wd hf.1 dX1_trim_33 ?_
      replace hf := hf.2
      refine lv_iload_n C.1 C.2.1 dX1_trim_34 rfl (lv_at hl 3 rfl) ?_
      refine lv_isub C.1 C.2.1 dX1_trim_35 ?_
      refine lv_iload_n C.1 C.2.1 dX1_trim_36 rfl (lv_at hl 1 rfl) ?_
      refine lv_icmp_lt (tgt := 52) C.1 C.2.1 dX1_trim_37 (by decide) (fun hc => ?_) (fun hc => ?_)
      · replace hf := hf.1 hc
        refine lv_iload_n C.1 C.2.1 dX1_trim_52 rfl (lv_at hl 3 rfl) ?_
        refine lv_bipush (v := 16) C.1 C.2.1 dX1_trim_53 (by decide) ?_
        refine lv_isub C.1 C.2.1 dX1_trim_55 ?_
        refine lv_istore_n (lv' := [(3, .int (v3 - 16)), (0, .ref (m_h ad)), (1, .int v1), (2, .int v2)]) C.1 C.2.1 dX1_trim_56 rfl hl (by decide) rfl (fun ls hl => ?_)
        refine lv_goto (tgt := 24) C.1 C.2.1 dX1_trim_57 (by decide) ?_
        exact ih _ _ _ _ _ _ _  Wd hf (lv_sub hl [1, 2, 3, 0] rfl)
      · replace hf := hf.2 hc
        refine lv_aload_n C.1 C.2.1 dX1_trim_40 rfl (lv_at hl 0 rfl) ?_
        refine m_get_sz C Wd dX1_trim_41 ?_
        refine lv_iload_n C.1 C.2.1 dX1_trim_44 rfl (lv_at hl 2 rfl) ?_
        refine m_ald_sz C Wd hf.1 dX1_trim_45 ?_
        replace hf := hf.2
        refine lv_iload_n C.1 C.2.1 dX1_trim_46 rfl (lv_at hl 3 rfl) ?_
        refine lv_isub C.1 C.2.1 dX1_trim_47 ?_
        refine lv_iconst (v := 1) C.1 C.2.1 dX1_trim_48 (by decide) ?_
        refine lv_icmp_ne (tgt := 60) C.1 C.2.1 dX1_trim_49 (by decide) (fun hc => ?_) (fun hc => ?_)
        · replace hf := hf.1 hc
          exact bM_trim_60 C Wd hf (lv_sub hl [0, 2, 3] rfl)
        · replace hf := hf.2 hc
          refine lv_iload_n C.1 C.2.1 dX1_trim_52 rfl (lv_at hl 3 rfl) ?_
          refine lv_bipush (v := 16) C.1 C.2.1 dX1_trim_53 (by decide) ?_
          refine lv_isub C.1 C.2.1 dX1_trim_55 ?_
          refine lv_istore_n (lv' := [(3, .int (v3 - 16)), (0, .ref (m_h ad)), (1, .int v1), (2, .int v2)]) C.1 C.2.1 dX1_trim_56 rfl hl (by decide) rfl (fun ls hl => ?_)
          refine lv_goto (tgt := 24) C.1 C.2.1 dX1_trim_57 (by decide) ?_
          exact ih _ _ _ _ _ _ _  Wd hf (lv_sub hl [1, 2, 3, 0] rfl)
theorem bM_trim_24 {p : Program} {l : Launch} {e : Env} {s : State} {m : MethodId} {args : Array Value} {below : List Frame} {meth : Method} {c : Code} {D : va_G} {ad : MA} {A : Nat → Prop} (C : m_C p s m args meth c cX1_trim 4 (some .int)) {post : Int32 → MS → Prop} {σ : MS} {H : Heap} {locs : List Loc} {ls : Array Slot} {v1 : Int32} {v2 : Int32} {v3 : Int32} (Wd : m_W D ad σ A s H locs) (hf : ∃ f : Nat, wM_trim_24 (m_lim ad) post f σ v1 v2 v3) (hl : lv_has ls 4 [(0, .ref (m_h ad)), (1, .int v1), (2, .int v2), (3, .int v3)]) : W p l e { frames := 1, cells := 0, slots := 0, locals := 20 } s m args below meth c H locs 0 0 (m_Qi below D ad A args s post) (F0 m 24 ls []) := by
  obtain ⟨f, hf⟩ := hf
  exact bM_trim_24_f C f σ H locs ls v1 v2 v3 Wd hf hl
set_option maxHeartbeats 4000000 in
set_option maxRecDepth 100000 in
theorem cM_trim (l : Launch) (D : va_G) (ad : MA) (v1 : Int32) : m_Mi l D yX1_trim cX1_trim 4 (some .int) { frames := 1, cells := 0, slots := 0, locals := 20 } ad [.ref (m_h ad), .int v1] (fun σ post => wM_trim (m_lim ad) σ v1 post) := by
  refine m_ofi ⟨by decide, rfl, Nat.le_of_ble_eq_true rfl⟩ (fun {p e s m args below meth c σ A post ls} C Wd hf hl => ?_)
  replace hl : lv_has ls 4 [(0, .ref (m_h ad)), (1, .int v1)] := hl
  refine lv_aload_n C.1 C.2.1 dX1_trim_0 rfl (lv_at hl 0 rfl) ?_
  refine m_calliv (As := []) (rest := []) C Wd (cM_top l D ad ) sM_top (by decide) rfl hl.1 rfl (Nat.le_of_ble_eq_true rfl) (by decide) dX1_trim_1 hf (fun r1 σ1 H locs hf Wd => ?_)
  refine lv_istore_n (lv' := [(2, .int r1), (0, .ref (m_h ad)), (1, .int v1)]) C.1 C.2.1 dX1_trim_4 rfl hl (by decide) rfl (fun ls hl => ?_)
  refine lv_iload_n C.1 C.2.1 dX1_trim_5 rfl (lv_at hl 0 rfl) ?_
  refine lv_if_ge (tgt := 11) C.1 C.2.1 dX1_trim_6 (by decide) (fun hc => ?_) (fun hc => ?_)
  · replace hf := hf.1 hc
    refine lv_aload_n C.1 C.2.1 dX1_trim_11 rfl (lv_at hl 1 rfl) ?_
    refine m_get_sz C Wd dX1_trim_12 ?_
    refine lv_iload_n C.1 C.2.1 dX1_trim_15 rfl (lv_at hl 0 rfl) ?_
    refine m_ald_sz C Wd hf.1 dX1_trim_16 ?_
    replace hf := hf.2
    refine lv_bipush (v := 16) C.1 C.2.1 dX1_trim_17 (by decide) ?_
    refine lv_idiv C.1 C.2.1 dX1_trim_19 (by decide) ?_
    refine lv_bipush (v := 16) C.1 C.2.1 dX1_trim_20 (by decide) ?_
    refine lv_imul C.1 C.2.1 dX1_trim_22 ?_
    refine lv_istore_n (lv' := [(3, .int (((m_sz σ1 r1.toNatClampNeg) / 16) * 16)), (2, .int r1), (0, .ref (m_h ad)), (1, .int v1)]) C.1 C.2.1 dX1_trim_23 rfl hl (by decide) rfl (fun ls hl => ?_)
    exact bM_trim_24 C Wd hf (lv_sub hl [2, 3, 1, 0] rfl)
  · replace hf := hf.2 hc
    refine lv_iconst (v := 0) C.1 C.2.1 dX1_trim_9 (by decide) ?_
    exact m_iret C Wd hf dX1_trim_10
set_option maxHeartbeats 4000000 in
set_option maxRecDepth 100000 in
theorem cM_usable (l : Launch) (D : va_G) (ad : MA) (v1 : Int32) : m_Mi l D yX1_usable cX1_usable 3 (some .int) { frames := 2, cells := 0, slots := 0, locals := 44 } ad [.ref (m_h ad), .int v1] (fun σ post => wM_usable (m_lim ad) σ v1 post) := by
  refine m_ofi ⟨by decide, rfl, Nat.le_of_ble_eq_true rfl⟩ (fun {p e s m args below meth c σ A post ls} C Wd hf hl => ?_)
  replace hl : lv_has ls 3 [(0, .ref (m_h ad)), (1, .int v1)] := hl
  refine lv_aload_n C.1 C.2.1 dX1_usable_0 rfl (lv_at hl 0 rfl) ?_
  refine lv_iload_n C.1 C.2.1 dX1_usable_1 rfl (lv_at hl 1 rfl) ?_
  refine m_calliv (As := [.int v1]) (rest := []) C Wd (cM_holder l D ad v1) sM_holder (by decide) rfl hl.1 rfl (Nat.le_of_ble_eq_true rfl) (by decide) dX1_usable_2 hf (fun r2 σ2 H locs hf Wd => ?_)
  refine lv_istore_n (lv' := [(2, .int r2), (0, .ref (m_h ad)), (1, .int v1)]) C.1 C.2.1 dX1_usable_5 rfl hl (by decide) rfl (fun ls hl => ?_)
  refine lv_iload_n C.1 C.2.1 dX1_usable_6 rfl (lv_at hl 0 rfl) ?_
  refine lv_if_ge (tgt := 14) C.1 C.2.1 dX1_usable_7 (by decide) (fun hc => ?_) (fun hc => ?_)
  · replace hf := hf.1 hc
    refine lv_aload_n C.1 C.2.1 dX1_usable_14 rfl (lv_at hl 1 rfl) ?_
    refine m_get_sz C Wd dX1_usable_15 ?_
    refine lv_iload_n C.1 C.2.1 dX1_usable_18 rfl (lv_at hl 0 rfl) ?_
    refine m_ald_sz C Wd hf.1 dX1_usable_19 ?_
    replace hf := hf.2
    refine lv_iconst (v := 1) C.1 C.2.1 dX1_usable_20 (by decide) ?_
    refine lv_isub C.1 C.2.1 dX1_usable_21 ?_
    exact m_iret C Wd hf dX1_usable_22
  · replace hf := hf.2 hc
    refine lv_iconst (v := 0) C.1 C.2.1 dX1_usable_10 (by decide) ?_
    refine lv_goto (tgt := 22) C.1 C.2.1 dX1_usable_11 (by decide) ?_
    exact m_iret C Wd hf dX1_usable_22
set_option maxHeartbeats 4000000 in
set_option maxRecDepth 100000 in
theorem cM_isData (l : Launch) (D : va_G) (ad : MA) (v1 : Int32) (v2 : Int32) : m_Mi l D yX1_isData cX1_isData 3 (some .boolean) { frames := 3, cells := 0, slots := 0, locals := 66 } ad [.ref (m_h ad), .int v1, .int v2] (fun σ post => wM_isData (m_lim ad) σ v1 v2 post) := by
  refine m_ofi ⟨by decide, rfl, Nat.le_of_ble_eq_true rfl⟩ (fun {p e s m args below meth c σ A post ls} C Wd hf hl => ?_)
  replace hl : lv_has ls 3 [(0, .ref (m_h ad)), (1, .int v1), (2, .int v2)] := hl
  refine lv_iload_n C.1 C.2.1 dX1_isData_0 rfl (lv_at hl 2 rfl) ?_
  refine lv_if_lt (tgt := 17) C.1 C.2.1 dX1_isData_1 (by decide) (fun hc => ?_) (fun hc => ?_)
  · replace hf := hf.1 hc
    refine lv_iconst (v := 0) C.1 C.2.1 dX1_isData_17 (by decide) ?_
    exact m_zret C Wd (by decide) hf dX1_isData_18
  · replace hf := hf.2 hc
    refine lv_iload_n C.1 C.2.1 dX1_isData_4 rfl (lv_at hl 2 rfl) ?_
    refine lv_aload_n C.1 C.2.1 dX1_isData_5 rfl (lv_at hl 0 rfl) ?_
    refine lv_iload_n C.1 C.2.1 dX1_isData_6 rfl (lv_at hl 1 rfl) ?_
    refine m_calliv (As := [.int v1]) (rest := [.int v2]) C Wd (cM_usable l D ad v1) sM_usable (by decide) rfl hl.1 rfl (Nat.le_of_ble_eq_true rfl) (by decide) dX1_isData_7 hf (fun r7 σ7 H locs hf Wd => ?_)
    refine lv_icmp_ge (tgt := 17) C.1 C.2.1 dX1_isData_10 (by decide) (fun hc => ?_) (fun hc => ?_)
    · replace hf := hf.1 hc
      refine lv_iconst (v := 0) C.1 C.2.1 dX1_isData_17 (by decide) ?_
      exact m_zret C Wd (by decide) hf dX1_isData_18
    · replace hf := hf.2 hc
      refine lv_iconst (v := 1) C.1 C.2.1 dX1_isData_13 (by decide) ?_
      refine lv_goto (tgt := 18) C.1 C.2.1 dX1_isData_14 (by decide) ?_
      exact m_zret C Wd (by decide) hf dX1_isData_18
set_option maxHeartbeats 4000000 in
set_option maxRecDepth 100000 in
theorem cM_read (l : Launch) (D : va_G) (ad : MA) (v1 : Int32) (v2 : Int32) : m_Mi l D yX1_read cX1_read 3 (some .int) { frames := 4, cells := 0, slots := 0, locals := 88 } ad [.ref (m_h ad), .int v1, .int v2] (fun σ post => wM_read (m_lim ad) σ v1 v2 post) := by
  refine m_ofi ⟨by decide, rfl, Nat.le_of_ble_eq_true rfl⟩ (fun {p e s m args below meth c σ A post ls} C Wd hf hl => ?_)
  replace hl : lv_has ls 3 [(0, .ref (m_h ad)), (1, .int v1), (2, .int v2)] := hl
  refine lv_aload_n C.1 C.2.1 dX1_read_0 rfl (lv_at hl 0 rfl) ?_
  refine lv_iload_n C.1 C.2.1 dX1_read_1 rfl (lv_at hl 1 rfl) ?_
  refine lv_iload_n C.1 C.2.1 dX1_read_2 rfl (lv_at hl 2 rfl) ?_
  refine m_calliv (As := [.int v1, .int v2]) (rest := []) C Wd (cM_isData l D ad v1 v2) sM_isData (by decide) rfl hl.1 rfl (Nat.le_of_ble_eq_true rfl) (by decide) dX1_read_3 hf (fun r3 σ3 H locs hf Wd => ?_)
  refine lv_if_eq (tgt := 20) C.1 C.2.1 dX1_read_6 (by decide) (fun hc => ?_) (fun hc => ?_)
  · replace hf := hf.1 hc
    refine lv_iconst (v := 0) C.1 C.2.1 dX1_read_20 (by decide) ?_
    exact m_iret C Wd hf dX1_read_21
  · replace hf := hf.2 hc
    refine lv_aload_n C.1 C.2.1 dX1_read_9 rfl (lv_at hl 0 rfl) ?_
    refine m_get_un C Wd dX1_read_10 ?_
    refine lv_iload_n C.1 C.2.1 dX1_read_13 rfl (lv_at hl 1 rfl) ?_
    refine lv_iload_n C.1 C.2.1 dX1_read_14 rfl (lv_at hl 2 rfl) ?_
    refine lv_iadd C.1 C.2.1 dX1_read_15 ?_
    refine m_ald_un C Wd hf.1 dX1_read_16 ?_
    replace hf := hf.2
    refine lv_goto (tgt := 21) C.1 C.2.1 dX1_read_17 (by decide) ?_
    exact m_iret C Wd hf dX1_read_21
set_option maxHeartbeats 4000000 in
set_option maxRecDepth 100000 in
theorem cM_write (l : Launch) (D : va_G) (ad : MA) (v1 : Int32) (v2 : Int32) (v3 : Int32) : m_Mi l D yX1_write cX1_write 4 (some .boolean) { frames := 4, cells := 0, slots := 0, locals := 88 } ad [.ref (m_h ad), .int v1, .int v2, .int v3] (fun σ post => wM_write (m_lim ad) σ v1 v2 v3 post) := by
  refine m_ofi ⟨by decide, rfl, Nat.le_of_ble_eq_true rfl⟩ (fun {p e s m args below meth c σ A post ls} C Wd hf hl => ?_)
  replace hl : lv_has ls 4 [(0, .ref (m_h ad)), (1, .int v1), (2, .int v2), (3, .int v3)] := hl
  refine lv_aload_n C.1 C.2.1 dX1_write_0 rfl (lv_at hl 0 rfl) ?_
  refine lv_iload_n C.1 C.2.1 dX1_write_1 rfl (lv_at hl 1 rfl) ?_
  refine lv_iload_n C.1 C.2.1 dX1_write_2 rfl (lv_at hl 2 rfl) ?_
  refine m_calliv (As := [.int v1, .int v2]) (rest := []) C Wd (cM_isData l D ad v1 v2) sM_isData (by decide) rfl hl.1 rfl (Nat.le_of_ble_eq_true rfl) (by decide) dX1_write_3 hf (fun r3 σ3 H locs hf Wd => ?_)
  refine lv_if_ne (tgt := 11) C.1 C.2.1 dX1_write_6 (by decide) (fun hc => ?_) (fun hc => ?_)
  · replace hf := hf.1 hc
    refine lv_aload_n C.1 C.2.1 dX1_write_11 rfl (lv_at hl 0 rfl) ?_
    refine m_get_un C Wd dX1_write_12 ?_
    refine lv_iload_n C.1 C.2.1 dX1_write_15 rfl (lv_at hl 1 rfl) ?_
    refine lv_iload_n C.1 C.2.1 dX1_write_16 rfl (lv_at hl 2 rfl) ?_
    refine lv_iadd C.1 C.2.1 dX1_write_17 ?_
    refine lv_iload_n C.1 C.2.1 dX1_write_18 rfl (lv_at hl 3 rfl) ?_
    refine m_ast_un C Wd hf.1 dX1_write_19 (fun H locs Wd => ?_)
    replace hf := hf.2
    refine lv_iconst (v := 1) C.1 C.2.1 dX1_write_20 (by decide) ?_
    exact m_zret C Wd (by decide) hf dX1_write_21
  · replace hf := hf.2 hc
    refine lv_iconst (v := 0) C.1 C.2.1 dX1_write_9 (by decide) ?_
    exact m_zret C Wd (by decide) hf dX1_write_10
set_option maxHeartbeats 4000000 in
set_option maxRecDepth 100000 in
theorem cM_size (l : Launch) (D : va_G) (ad : MA) (v1 : Int32) : m_Mi l D yX1_size cX1_size 3 (some .int) { frames := 1, cells := 0, slots := 0, locals := 22 } ad [.ref (m_h ad), .int v1] (fun σ post => wM_size (m_lim ad) σ v1 post) := by
  refine m_ofi ⟨by decide, rfl, Nat.le_of_ble_eq_true rfl⟩ (fun {p e s m args below meth c σ A post ls} C Wd hf hl => ?_)
  replace hl : lv_has ls 3 [(0, .ref (m_h ad)), (1, .int v1)] := hl
  refine lv_aload_n C.1 C.2.1 dX1_size_0 rfl (lv_at hl 0 rfl) ?_
  refine lv_iload_n C.1 C.2.1 dX1_size_1 rfl (lv_at hl 1 rfl) ?_
  refine m_calliv (As := [.int v1]) (rest := []) C Wd (cM_at l D ad v1) sM_at (by decide) rfl hl.1 rfl (Nat.le_of_ble_eq_true rfl) (by decide) dX1_size_2 hf (fun r2 σ2 H locs hf Wd => ?_)
  refine lv_istore_n (lv' := [(2, .int r2), (0, .ref (m_h ad)), (1, .int v1)]) C.1 C.2.1 dX1_size_5 rfl hl (by decide) rfl (fun ls hl => ?_)
  refine lv_iload_n C.1 C.2.1 dX1_size_6 rfl (lv_at hl 0 rfl) ?_
  refine lv_if_ge (tgt := 14) C.1 C.2.1 dX1_size_7 (by decide) (fun hc => ?_) (fun hc => ?_)
  · replace hf := hf.1 hc
    refine lv_aload_n C.1 C.2.1 dX1_size_14 rfl (lv_at hl 1 rfl) ?_
    refine m_get_sz C Wd dX1_size_15 ?_
    refine lv_iload_n C.1 C.2.1 dX1_size_18 rfl (lv_at hl 0 rfl) ?_
    refine m_ald_sz C Wd hf.1 dX1_size_19 ?_
    replace hf := hf.2
    exact m_iret C Wd hf dX1_size_20
  · replace hf := hf.2 hc
    refine lv_iconst (v := (-1)) C.1 C.2.1 dX1_size_10 (by decide) ?_
    refine lv_goto (tgt := 20) C.1 C.2.1 dX1_size_11 (by decide) ?_
    exact m_iret C Wd hf dX1_size_20
set_option maxHeartbeats 4000000 in
set_option maxRecDepth 100000 in
theorem cM_state (l : Launch) (D : va_G) (ad : MA) (v1 : Int32) : m_Mi l D yX1_state cX1_state 3 (some .int) { frames := 1, cells := 0, slots := 0, locals := 22 } ad [.ref (m_h ad), .int v1] (fun σ post => wM_state (m_lim ad) σ v1 post) := by
  refine m_ofi ⟨by decide, rfl, Nat.le_of_ble_eq_true rfl⟩ (fun {p e s m args below meth c σ A post ls} C Wd hf hl => ?_)
  replace hl : lv_has ls 3 [(0, .ref (m_h ad)), (1, .int v1)] := hl
  refine lv_aload_n C.1 C.2.1 dX1_state_0 rfl (lv_at hl 0 rfl) ?_
  refine lv_iload_n C.1 C.2.1 dX1_state_1 rfl (lv_at hl 1 rfl) ?_
  refine m_calliv (As := [.int v1]) (rest := []) C Wd (cM_at l D ad v1) sM_at (by decide) rfl hl.1 rfl (Nat.le_of_ble_eq_true rfl) (by decide) dX1_state_2 hf (fun r2 σ2 H locs hf Wd => ?_)
  refine lv_istore_n (lv' := [(2, .int r2), (0, .ref (m_h ad)), (1, .int v1)]) C.1 C.2.1 dX1_state_5 rfl hl (by decide) rfl (fun ls hl => ?_)
  refine lv_iload_n C.1 C.2.1 dX1_state_6 rfl (lv_at hl 0 rfl) ?_
  refine lv_if_ge (tgt := 14) C.1 C.2.1 dX1_state_7 (by decide) (fun hc => ?_) (fun hc => ?_)
  · replace hf := hf.1 hc
    refine lv_aload_n C.1 C.2.1 dX1_state_14 rfl (lv_at hl 1 rfl) ?_
    refine lv_iload_n C.1 C.2.1 dX1_state_15 rfl (lv_at hl 0 rfl) ?_
    refine m_calliv (As := [.int r2]) (rest := []) C Wd (cM_stateOf l D ad r2) sM_stateOf (by decide) rfl hl.1 rfl (Nat.le_of_ble_eq_true rfl) (by decide) dX1_state_16 hf (fun r16 σ16 H locs hf Wd => ?_)
    exact m_iret C Wd hf dX1_state_19
  · replace hf := hf.2 hc
    refine lv_iconst (v := (-1)) C.1 C.2.1 dX1_state_10 (by decide) ?_
    refine lv_goto (tgt := 19) C.1 C.2.1 dX1_state_11 (by decide) ?_
    exact m_iret C Wd hf dX1_state_19
end
section
set_option maxHeartbeats 4000000 in
set_option maxRecDepth 100000 in
theorem bM_count_26_f {p : Program} {l : Launch} {e : Env} {s : State} {m : MethodId} {args : Array Value} {below : List Frame} {meth : Method} {c : Code} {D : va_G} {ad : MA} {A : Nat → Prop} (C : m_C p s m args meth c cX1_count 6 (some .int)) {post : Int32 → MS → Prop} : ∀ (f : Nat) (σ : MS) (H : Heap) (locs : List Loc) (ls : Array Slot) (v1 : Int32) (v2 : Int32) (v3 : Int32), m_W D ad σ A s H locs → wM_count_26 (m_lim ad) post f σ v1 v2 v3 → lv_has ls 6 [(0, .ref (m_h ad)), (1, .int v1), (2, .int v2), (3, .int v3)] → W p l e { frames := 1, cells := 0, slots := 0, locals := 21 } s m args below meth c H locs 0 0 (m_Qi below D ad A args s post) (F0 m 26 ls []) := by
  intro f
  induction f with
  | zero => intro σ H locs ls v1 v2 v3 Wd hf hl; exact False.elim hf
  | succ f ih =>
    intro σ H locs ls v1 v2 v3 Wd hf hl
    replace hf : wM_count_26_s (m_lim ad) post (wM_count_26 (m_lim ad) post f) σ v1 v2 v3 := hf
    refine lv_iload_n C.1 C.2.1 dX1_count_26 rfl (lv_at hl 3 rfl) ?_
    refine lv_aload_n C.1 C.2.1 dX1_count_27 rfl (lv_at hl 0 rfl) ?_
    refine m_get_ch C Wd dX1_count_28 ?_
    refine lv_icmp_ge (tgt := 120) C.1 C.2.1 dX1_count_31 (by decide) (fun hc => ?_) (fun hc => ?_)
    · replace hf := hf.1 hc
      refine lv_iload_n C.1 C.2.1 dX1_count_120 rfl (lv_at hl 2 rfl) ?_
      exact m_iret C Wd hf dX1_count_121
    · replace hf := hf.2 hc
      refine lv_aload_n C.1 C.2.1 dX1_count_34 rfl (lv_at hl 0 rfl) ?_
      refine lv_iload_n C.1 C.2.1 dX1_count_35 rfl (lv_at hl 3 rfl) ?_
      refine m_calliv (As := [.int v3]) (rest := []) C Wd (cM_stateOf l D ad v3) sM_stateOf (by decide) rfl hl.1 rfl (Nat.le_of_ble_eq_true rfl) (by decide) dX1_count_36 hf (fun r36 σ36 H locs hf Wd => ?_)
      refine lv_istore (lv' := [(4, .int r36), (0, .ref (m_h ad)), (1, .int v1), (2, .int v2), (3, .int v3)]) C.1 C.2.1 dX1_count_39 hl (by decide) rfl (fun ls hl => ?_)
      refine lv_iload_n C.1 C.2.1 dX1_count_41 rfl (lv_at hl 2 rfl) ?_
      refine lv_if_ne (tgt := 58) C.1 C.2.1 dX1_count_42 (by decide) (fun hc => ?_) (fun hc => ?_)
      · replace hf := hf.1 hc
        refine lv_iload_n C.1 C.2.1 dX1_count_58 rfl (lv_at hl 2 rfl) ?_
        refine lv_bipush (v := 16) C.1 C.2.1 dX1_count_59 (by decide) ?_
        refine lv_icmp_ne (tgt := 78) C.1 C.2.1 dX1_count_61 (by decide) (fun hc => ?_) (fun hc => ?_)
        · replace hf := hf.1 hc
          refine lv_iload C.1 C.2.1 dX1_count_78 (lv_at hl 0 rfl) ?_
          refine lv_iconst (v := 1) C.1 C.2.1 dX1_count_80 (by decide) ?_
          refine lv_icmp_ne (tgt := 98) C.1 C.2.1 dX1_count_81 (by decide) (fun hc => ?_) (fun hc => ?_)
          · replace hf := hf.1 hc
            refine lv_iconst (v := 0) C.1 C.2.1 dX1_count_98 (by decide) ?_
            refine lv_istore (lv' := [(5, .int 0), (4, .int r36), (0, .ref (m_h ad)), (1, .int v1), (2, .int v2), (3, .int v3)]) C.1 C.2.1 dX1_count_99 hl (by decide) rfl (fun ls hl => ?_)
            refine lv_iload C.1 C.2.1 dX1_count_101 (lv_at hl 0 rfl) ?_
            refine lv_if_eq (tgt := 112) C.1 C.2.1 dX1_count_103 (by decide) (fun _ => ?_) (fun hc => absurd hc (by decide))
            refine lv_iload_n C.1 C.2.1 dX1_count_112 rfl (lv_at hl 4 rfl) ?_
            refine lv_istore_n (lv' := [(2, .int v2), (5, .int 0), (4, .int r36), (0, .ref (m_h ad)), (1, .int v1), (3, .int v3)]) C.1 C.2.1 dX1_count_113 rfl hl (by decide) rfl (fun ls hl => ?_)
            refine lv_iinc (v := v3 + 1) (lv' := [(3, .int (v3 + 1)), (2, .int v2), (5, .int 0), (4, .int r36), (0, .ref (m_h ad)), (1, .int v1)]) C.1 C.2.1 dX1_count_114 hl (k := 5) rfl rfl (by decide) rfl (fun ls hl => ?_)
            refine lv_goto (tgt := 26) C.1 C.2.1 dX1_count_117 (by decide) ?_
            exact ih _ _ _ _ _ _ _  Wd hf (lv_sub hl [4, 5, 1, 0] rfl)
          · replace hf := hf.2 hc
            refine lv_aload_n C.1 C.2.1 dX1_count_84 rfl (lv_at hl 1 rfl) ?_
            refine m_get_sz C Wd dX1_count_85 ?_
            refine lv_iload_n C.1 C.2.1 dX1_count_88 rfl (lv_at hl 4 rfl) ?_
            refine m_ald_sz C Wd hf.1 dX1_count_89 ?_
            replace hf := hf.2
            refine lv_iload_n C.1 C.2.1 dX1_count_90 rfl (lv_at hl 2 rfl) ?_
            refine lv_icmp_ne (tgt := 98) C.1 C.2.1 dX1_count_91 (by decide) (fun hc => ?_) (fun hc => ?_)
            · replace hf := hf.1 hc
              refine lv_iconst (v := 0) C.1 C.2.1 dX1_count_98 (by decide) ?_
              refine lv_istore (lv' := [(5, .int 0), (4, .int r36), (0, .ref (m_h ad)), (1, .int v1), (2, .int v2), (3, .int v3)]) C.1 C.2.1 dX1_count_99 hl (by decide) rfl (fun ls hl => ?_)
              refine lv_iload C.1 C.2.1 dX1_count_101 (lv_at hl 0 rfl) ?_
              refine lv_if_eq (tgt := 112) C.1 C.2.1 dX1_count_103 (by decide) (fun _ => ?_) (fun hc => absurd hc (by decide))
              refine lv_iload_n C.1 C.2.1 dX1_count_112 rfl (lv_at hl 4 rfl) ?_
              refine lv_istore_n (lv' := [(2, .int v2), (5, .int 0), (4, .int r36), (0, .ref (m_h ad)), (1, .int v1), (3, .int v3)]) C.1 C.2.1 dX1_count_113 rfl hl (by decide) rfl (fun ls hl => ?_)
              refine lv_iinc (v := v3 + 1) (lv' := [(3, .int (v3 + 1)), (2, .int v2), (5, .int 0), (4, .int r36), (0, .ref (m_h ad)), (1, .int v1)]) C.1 C.2.1 dX1_count_114 hl (k := 5) rfl rfl (by decide) rfl (fun ls hl => ?_)
              refine lv_goto (tgt := 26) C.1 C.2.1 dX1_count_117 (by decide) ?_
              exact ih _ _ _ _ _ _ _  Wd hf (lv_sub hl [4, 5, 1, 0] rfl)
            · replace hf := hf.2 hc
              refine lv_iconst (v := 1) C.1 C.2.1 dX1_count_94 (by decide) ?_
              refine lv_goto (tgt := 99) C.1 C.2.1 dX1_count_95 (by decide) ?_
              refine lv_istore (lv' := [(5, .int 1), (4, .int r36), (0, .ref (m_h ad)), (1, .int v1), (2, .int v2), (3, .int v3)]) C.1 C.2.1 dX1_count_99 hl (by decide) rfl (fun ls hl => ?_)
              refine lv_iload C.1 C.2.1 dX1_count_101 (lv_at hl 0 rfl) ?_
              refine lv_if_eq (tgt := 112) C.1 C.2.1 dX1_count_103 (by decide) (fun hc => absurd hc (by decide)) (fun _ => ?_)
              refine lv_iload_n C.1 C.2.1 dX1_count_106 rfl (lv_at hl 4 rfl) ?_
              refine lv_iconst (v := 1) C.1 C.2.1 dX1_count_107 (by decide) ?_
              refine lv_iadd C.1 C.2.1 dX1_count_108 ?_
              refine lv_goto (tgt := 113) C.1 C.2.1 dX1_count_109 (by decide) ?_
              refine lv_istore_n (lv' := [(2, .int (v2 + 1)), (5, .int 1), (4, .int r36), (0, .ref (m_h ad)), (1, .int v1), (3, .int v3)]) C.1 C.2.1 dX1_count_113 rfl hl (by decide) rfl (fun ls hl => ?_)
              refine lv_iinc (v := v3 + 1) (lv' := [(3, .int (v3 + 1)), (2, .int (v2 + 1)), (5, .int 1), (4, .int r36), (0, .ref (m_h ad)), (1, .int v1)]) C.1 C.2.1 dX1_count_114 hl (k := 5) rfl rfl (by decide) rfl (fun ls hl => ?_)
              refine lv_goto (tgt := 26) C.1 C.2.1 dX1_count_117 (by decide) ?_
              exact ih _ _ _ _ _ _ _  Wd hf (lv_sub hl [4, 5, 1, 0] rfl)
        · replace hf := hf.2 hc
          refine lv_iload C.1 C.2.1 dX1_count_64 (lv_at hl 0 rfl) ?_
          refine lv_iconst (v := 2) C.1 C.2.1 dX1_count_66 (by decide) ?_
          refine lv_icmp_ne (tgt := 74) C.1 C.2.1 dX1_count_67 (by decide) (fun hc => ?_) (fun hc => ?_)
          · replace hf := hf.1 hc
            refine lv_iconst (v := 0) C.1 C.2.1 dX1_count_74 (by decide) ?_
            refine lv_goto (tgt := 99) C.1 C.2.1 dX1_count_75 (by decide) ?_
            refine lv_istore (lv' := [(5, .int 0), (4, .int r36), (0, .ref (m_h ad)), (1, .int v1), (2, .int v2), (3, .int v3)]) C.1 C.2.1 dX1_count_99 hl (by decide) rfl (fun ls hl => ?_)
            refine lv_iload C.1 C.2.1 dX1_count_101 (lv_at hl 0 rfl) ?_
            refine lv_if_eq (tgt := 112) C.1 C.2.1 dX1_count_103 (by decide) (fun _ => ?_) (fun hc => absurd hc (by decide))
            refine lv_iload_n C.1 C.2.1 dX1_count_112 rfl (lv_at hl 4 rfl) ?_
            refine lv_istore_n (lv' := [(2, .int v2), (5, .int 0), (4, .int r36), (0, .ref (m_h ad)), (1, .int v1), (3, .int v3)]) C.1 C.2.1 dX1_count_113 rfl hl (by decide) rfl (fun ls hl => ?_)
            refine lv_iinc (v := v3 + 1) (lv' := [(3, .int (v3 + 1)), (2, .int v2), (5, .int 0), (4, .int r36), (0, .ref (m_h ad)), (1, .int v1)]) C.1 C.2.1 dX1_count_114 hl (k := 5) rfl rfl (by decide) rfl (fun ls hl => ?_)
            refine lv_goto (tgt := 26) C.1 C.2.1 dX1_count_117 (by decide) ?_
            exact ih _ _ _ _ _ _ _  Wd hf (lv_sub hl [4, 5, 1, 0] rfl)
          · replace hf := hf.2 hc
            refine lv_iconst (v := 1) C.1 C.2.1 dX1_count_70 (by decide) ?_
            refine lv_goto (tgt := 99) C.1 C.2.1 dX1_count_71 (by decide) ?_
            refine lv_istore (lv' := [(5, .int 1), (4, .int r36), (0, .ref (m_h ad)), (1, .int v1), (2, .int v2), (3, .int v3)]) C.1 C.2.1 dX1_count_99 hl (by decide) rfl (fun ls hl => ?_)
            refine lv_iload C.1 C.2.1 dX1_count_101 (lv_at hl 0 rfl) ?_
            refine lv_if_eq (tgt := 112) C.1 C.2.1 dX1_count_103 (by decide) (fun hc => absurd hc (by decide)) (fun _ => ?_)
            refine lv_iload_n C.1 C.2.1 dX1_count_106 rfl (lv_at hl 4 rfl) ?_
            refine lv_iconst (v := 1) C.1 C.2.1 dX1_count_107 (by decide) ?_
            refine lv_iadd C.1 C.2.1 dX1_count_108 ?_
            refine lv_goto (tgt := 113) C.1 C.2.1 dX1_count_109 (by decide) ?_
            refine lv_istore_n (lv' := [(2, .int (v2 + 1)), (5, .int 1), (4, .int r36), (0, .ref (m_h ad)), (1, .int v1), (3, .int v3)]) C.1 C.2.1 dX1_count_113 rfl hl (by decide) rfl (fun ls hl => ?_)
            refine lv_iinc (v := v3 + 1) (lv' := [(3, .int (v3 + 1)), (2, .int (v2 + 1)), (5, .int 1), (4, .int r36), (0, .ref (m_h ad)), (1, .int v1)]) C.1 C.2.1 dX1_count_114 hl (k := 5) rfl rfl (by decide) rfl (fun ls hl => ?_)
            refine lv_goto (tgt := 26) C.1 C.2.1 dX1_count_117 (by decide) ?_
            exact ih _ _ _ _ _ _ _  Wd hf (lv_sub hl [4, 5, 1, 0] rfl)
      · replace hf := hf.2 hc
        refine lv_iload C.1 C.2.1 dX1_count_45 (lv_at hl 0 rfl) ?_
        refine lv_if_ne (tgt := 54) C.1 C.2.1 dX1_count_47 (by decide) (fun hc => ?_) (fun hc => ?_)
        · replace hf := hf.1 hc
          refine lv_iconst (v := 0) C.1 C.2.1 dX1_count_54 (by decide) ?_
          refine lv_goto (tgt := 99) C.1 C.2.1 dX1_count_55 (by decide) ?_
          refine lv_istore (lv' := [(5, .int 0), (4, .int r36), (0, .ref (m_h ad)), (1, .int v1), (2, .int v2), (3, .int v3)]) C.1 C.2.1 dX1_count_99 hl (by decide) rfl (fun ls hl => ?_)
          refine lv_iload C.1 C.2.1 dX1_count_101 (lv_at hl 0 rfl) ?_
          refine lv_if_eq (tgt := 112) C.1 C.2.1 dX1_count_103 (by decide) (fun _ => ?_) (fun hc => absurd hc (by decide))
          refine lv_iload_n C.1 C.2.1 dX1_count_112 rfl (lv_at hl 4 rfl) ?_
          refine lv_istore_n (lv' := [(2, .int v2), (5, .int 0), (4, .int r36), (0, .ref (m_h ad)), (1, .int v1), (3, .int v3)]) C.1 C.2.1 dX1_count_113 rfl hl (by decide) rfl (fun ls hl => ?_)
          refine lv_iinc (v := v3 + 1) (lv' := [(3, .int (v3 + 1)), (2, .int v2), (5, .int 0), (4, .int r36), (0, .ref (m_h ad)), (1, .int v1)]) C.1 C.2.1 dX1_count_114 hl (k := 5) rfl rfl (by decide) rfl (fun ls hl => ?_)
          refine lv_goto (tgt := 26) C.1 C.2.1 dX1_count_117 (by decide) ?_
          exact ih _ _ _ _ _ _ _  Wd hf (lv_sub hl [4, 5, 1, 0] rfl)
        · replace hf := hf.2 hc
          refine lv_iconst (v := 1) C.1 C.2.1 dX1_count_50 (by decide) ?_
          refine lv_goto (tgt := 99) C.1 C.2.1 dX1_count_51 (by decide) ?_
          refine lv_istore (lv' := [(5, .int 1), (4, .int r36), (0, .ref (m_h ad)), (1, .int v1), (2, .int v2), (3, .int v3)]) C.1 C.2.1 dX1_count_99 hl (by decide) rfl (fun ls hl => ?_)
          refine lv_iload C.1 C.2.1 dX1_count_101 (lv_at hl 0 rfl) ?_
          refine lv_if_eq (tgt := 112) C.1 C.2.1 dX1_count_103 (by decide) (fun hc => absurd hc (by decide)) (fun _ => ?_)
          refine lv_iload_n C.1 C.2.1 dX1_count_106 rfl (lv_at hl 4 rfl) ?_
          refine lv_iconst (v := 1) C.1 C.2.1 dX1_count_107 (by decide) ?_
          refine lv_iadd C.1 C.2.1 dX1_count_108 ?_
          refine lv_goto (tgt := 113) C.1 C.2.1 dX1_count_109 (by decide) ?_
          refine lv_istore_n (lv' := [(2, .int (v2 + 1)), (5, .int 1), (4, .int r36), (0, .ref (m_h ad)), (1, .int v1), (3, .int v3)]) C.1 C.2.1 dX1_count_113 rfl hl (by decide) rfl (fun ls hl => ?_)
          refine lv_iinc (v := v3 + 1) (lv' := [(3, .int (v3 + 1)), (2, .int (v2 + 1)), (5, .int 1), (4, .int r36), (0, .ref (m_h ad)), (1, .int v1)]) C.1 C.2.1 dX1_count_114 hl (k := 5) rfl rfl (by decide) rfl (fun ls hl => ?_)
          refine lv_goto (tgt := 26) C.1 C.2.1 dX1_count_117 (by decide) ?_
          exact ih _ _ _ _ _ _ _  Wd hf (lv_sub hl [4, 5, 1, 0] rfl)
theorem bM_count_26 {p : Program} {l : Launch} {e : Env} {s : State} {m : MethodId} {args : Array Value} {below : List Frame} {meth : Method} {c : Code} {D : va_G} {ad : MA} {A : Nat → Prop} (C : m_C p s m args meth c cX1_count 6 (some .int)) {post : Int32 → MS → Prop} {σ : MS} {H : Heap} {locs : List Loc} {ls : Array Slot} {v1 : Int32} {v2 : Int32} {v3 : Int32} (Wd : m_W D ad σ A s H locs) (hf : ∃ f : Nat, wM_count_26 (m_lim ad) post f σ v1 v2 v3) (hl : lv_has ls 6 [(0, .ref (m_h ad)), (1, .int v1), (2, .int v2), (3, .int v3)]) : W p l e { frames := 1, cells := 0, slots := 0, locals := 21 } s m args below meth c H locs 0 0 (m_Qi below D ad A args s post) (F0 m 26 ls []) := by
  obtain ⟨f, hf⟩ := hf
  exact bM_count_26_f C f σ H locs ls v1 v2 v3 Wd hf hl
set_option maxHeartbeats 4000000 in
set_option maxRecDepth 100000 in
theorem cM_count (l : Launch) (D : va_G) (ad : MA) (v1 : Int32) : m_Mi l D yX1_count cX1_count 6 (some .int) { frames := 1, cells := 0, slots := 0, locals := 21 } ad [.ref (m_h ad), .int v1] (fun σ post => wM_count (m_lim ad) σ v1 post) := by
  refine m_ofi ⟨by decide, rfl, Nat.le_of_ble_eq_true rfl⟩ (fun {p e s m args below meth c σ A post ls} C Wd hf hl => ?_)
  replace hl : lv_has ls 6 [(0, .ref (m_h ad)), (1, .int v1)] := hl
  refine lv_iload_n C.1 C.2.1 dX1_count_0 rfl (lv_at hl 1 rfl) ?_
  refine lv_if_lt (tgt := 10) C.1 C.2.1 dX1_count_1 (by decide) (fun hc => ?_) (fun hc => ?_)
  · replace hf := hf.1 hc
    refine lv_iconst (v := (-1)) C.1 C.2.1 dX1_count_10 (by decide) ?_
    exact m_iret C Wd hf dX1_count_11
  · replace hf := hf.2 hc
    refine lv_iload_n C.1 C.2.1 dX1_count_4 rfl (lv_at hl 1 rfl) ?_
    refine lv_bipush (v := 16) C.1 C.2.1 dX1_count_5 (by decide) ?_
    refine lv_icmp_le (tgt := 12) C.1 C.2.1 dX1_count_7 (by decide) (fun hc => ?_) (fun hc => ?_)
    · replace hf := hf.1 hc
      refine lv_iload_n C.1 C.2.1 dX1_count_12 rfl (lv_at hl 1 rfl) ?_
      refine lv_iconst (v := 1) C.1 C.2.1 dX1_count_13 (by decide) ?_
      refine lv_icmp_ne (tgt := 22) C.1 C.2.1 dX1_count_14 (by decide) (fun hc => ?_) (fun hc => ?_)
      · replace hf := hf.1 hc
        refine lv_iconst (v := 0) C.1 C.2.1 dX1_count_22 (by decide) ?_
        refine lv_istore_n (lv' := [(2, .int 0), (0, .ref (m_h ad)), (1, .int v1)]) C.1 C.2.1 dX1_count_23 rfl hl (by decide) rfl (fun ls hl => ?_)
        refine lv_iconst (v := 0) C.1 C.2.1 dX1_count_24 (by decide) ?_
        refine lv_istore_n (lv' := [(3, .int 0), (2, .int 0), (0, .ref (m_h ad)), (1, .int v1)]) C.1 C.2.1 dX1_count_25 rfl hl (by decide) rfl (fun ls hl => ?_)
        exact bM_count_26 C Wd hf (lv_sub hl [2, 3, 1, 0] rfl)
      · replace hf := hf.2 hc
        refine lv_aload_n C.1 C.2.1 dX1_count_17 rfl (lv_at hl 0 rfl) ?_
        refine m_get_ch C Wd dX1_count_18 ?_
        exact m_iret C Wd hf dX1_count_21
    · replace hf := hf.2 hc
      refine lv_iconst (v := (-1)) C.1 C.2.1 dX1_count_10 (by decide) ?_
      exact m_iret C Wd hf dX1_count_11
set_option maxHeartbeats 4000000 in
set_option maxRecDepth 100000 in
theorem cM_end (l : Launch) (D : va_G) (ad : MA) : m_Mi l D yX1_end cX1_end 1 (some .int) { frames := 0, cells := 0, slots := 0, locals := 0 } ad [.ref (m_h ad)] (fun σ post => wM_end (m_lim ad) σ  post) := by
  refine m_ofi ⟨by decide, rfl, Nat.le_of_ble_eq_true rfl⟩ (fun {p e s m args below meth c σ A post ls} C Wd hf hl => ?_)
  replace hl : lv_has ls 1 [(0, .ref (m_h ad))] := hl
  refine lv_aload_n C.1 C.2.1 dX1_end_0 rfl (lv_at hl 0 rfl) ?_
  refine m_get_en C Wd dX1_end_1 ?_
  exact m_iret C Wd hf dX1_end_4
set_option maxHeartbeats 4000000 in
set_option maxRecDepth 100000 in
theorem bM_total_15_f {p : Program} {l : Launch} {e : Env} {s : State} {m : MethodId} {args : Array Value} {below : List Frame} {meth : Method} {c : Code} {D : va_G} {ad : MA} {A : Nat → Prop} (C : m_C p s m args meth c cX1_total 4 (some .int)) {post : Int32 → MS → Prop} : ∀ (f : Nat) (σ : MS) (H : Heap) (locs : List Loc) (ls : Array Slot) (v1 : Int32) (v2 : Int32) (v3 : Int32), m_W D ad σ A s H locs → wM_total_15 (m_lim ad) post f σ v1 v2 v3 → lv_has ls 4 [(0, .ref (m_h ad)), (1, .int v1), (2, .int v2), (3, .int v3)] → W p l e { frames := 1, cells := 0, slots := 0, locals := 21 } s m args below meth c H locs 0 0 (m_Qi below D ad A args s post) (F0 m 15 ls []) := by
  intro f
  induction f with
  | zero => intro σ H locs ls v1 v2 v3 Wd hf hl; exact False.elim hf
  | succ f ih =>
    intro σ H locs ls v1 v2 v3 Wd hf hl
    replace hf : wM_total_15_s (m_lim ad) post (wM_total_15 (m_lim ad) post f) σ v1 v2 v3 := hf
    refine lv_iload_n C.1 C.2.1 dX1_total_15 rfl (lv_at hl 3 rfl) ?_
    refine lv_aload_n C.1 C.2.1 dX1_total_16 rfl (lv_at hl 0 rfl) ?_
    refine m_get_ch C Wd dX1_total_17 ?_
    refine lv_icmp_ge (tgt := 51) C.1 C.2.1 dX1_total_20 (by decide) (fun hc => ?_) (fun hc => ?_)
    · replace hf := hf.1 hc
      refine lv_iload_n C.1 C.2.1 dX1_total_51 rfl (lv_at hl 2 rfl) ?_
      exact m_iret C Wd hf dX1_total_52
    · replace hf := hf.2 hc
      refine lv_aload_n C.1 C.2.1 dX1_total_23 rfl (lv_at hl 0 rfl) ?_
      refine lv_iload_n C.1 C.2.1 dX1_total_24 rfl (lv_at hl 3 rfl) ?_
      refine m_calliv (As := [.int v3]) (rest := []) C Wd (cM_stateOf l D ad v3) sM_stateOf (by decide) rfl hl.1 rfl (Nat.le_of_ble_eq_true rfl) (by decide) dX1_total_25 hf (fun r25 σ25 H locs hf Wd => ?_)
      refine lv_iload_n C.1 C.2.1 dX1_total_28 rfl (lv_at hl 1 rfl) ?_
      refine lv_icmp_ne (tgt := 43) C.1 C.2.1 dX1_total_29 (by decide) (fun hc => ?_) (fun hc => ?_)
      · replace hf := hf.1 hc
        refine lv_iload_n C.1 C.2.1 dX1_total_43 rfl (lv_at hl 2 rfl) ?_
        refine lv_istore_n (lv' := [(2, .int v2), (0, .ref (m_h ad)), (1, .int v1), (3, .int v3)]) C.1 C.2.1 dX1_total_44 rfl hl (by decide) rfl (fun ls hl => ?_)
        refine lv_iinc (v := v3 + 1) (lv' := [(3, .int (v3 + 1)), (2, .int v2), (0, .ref (m_h ad)), (1, .int v1)]) C.1 C.2.1 dX1_total_45 hl (k := 3) rfl rfl (by decide) rfl (fun ls hl => ?_)
        refine lv_goto (tgt := 15) C.1 C.2.1 dX1_total_48 (by decide) ?_
        exact ih _ _ _ _ _ _ _  Wd hf (lv_sub hl [2, 3, 1, 0] rfl)
      · replace hf := hf.2 hc
        refine lv_iload_n C.1 C.2.1 dX1_total_32 rfl (lv_at hl 2 rfl) ?_
        refine lv_aload_n C.1 C.2.1 dX1_total_33 rfl (lv_at hl 0 rfl) ?_
        refine m_get_sz C Wd dX1_total_34 ?_
        refine lv_iload_n C.1 C.2.1 dX1_total_37 rfl (lv_at hl 3 rfl) ?_
        refine m_ald_sz C Wd hf.1 dX1_total_38 ?_
        replace hf := hf.2
        refine lv_iadd C.1 C.2.1 dX1_total_39 ?_
        refine lv_goto (tgt := 44) C.1 C.2.1 dX1_total_40 (by decide) ?_
        refine lv_istore_n (lv' := [(2, .int (v2 + (m_sz σ25 v3.toNatClampNeg))), (0, .ref (m_h ad)), (1, .int v1), (3, .int v3)]) C.1 C.2.1 dX1_total_44 rfl hl (by decide) rfl (fun ls hl => ?_)
        refine lv_iinc (v := v3 + 1) (lv' := [(3, .int (v3 + 1)), (2, .int (v2 + (m_sz σ25 v3.toNatClampNeg))), (0, .ref (m_h ad)), (1, .int v1)]) C.1 C.2.1 dX1_total_45 hl (k := 3) rfl rfl (by decide) rfl (fun ls hl => ?_)
        refine lv_goto (tgt := 15) C.1 C.2.1 dX1_total_48 (by decide) ?_
        exact ih _ _ _ _ _ _ _  Wd hf (lv_sub hl [2, 3, 1, 0] rfl)
theorem bM_total_15 {p : Program} {l : Launch} {e : Env} {s : State} {m : MethodId} {args : Array Value} {below : List Frame} {meth : Method} {c : Code} {D : va_G} {ad : MA} {A : Nat → Prop} (C : m_C p s m args meth c cX1_total 4 (some .int)) {post : Int32 → MS → Prop} {σ : MS} {H : Heap} {locs : List Loc} {ls : Array Slot} {v1 : Int32} {v2 : Int32} {v3 : Int32} (Wd : m_W D ad σ A s H locs) (hf : ∃ f : Nat, wM_total_15 (m_lim ad) post f σ v1 v2 v3) (hl : lv_has ls 4 [(0, .ref (m_h ad)), (1, .int v1), (2, .int v2), (3, .int v3)]) : W p l e { frames := 1, cells := 0, slots := 0, locals := 21 } s m args below meth c H locs 0 0 (m_Qi below D ad A args s post) (F0 m 15 ls []) := by
  obtain ⟨f, hf⟩ := hf
  exact bM_total_15_f C f σ H locs ls v1 v2 v3 Wd hf hl
set_option maxHeartbeats 4000000 in
set_option maxRecDepth 100000 in
theorem cM_total (l : Launch) (D : va_G) (ad : MA) (v1 : Int32) : m_Mi l D yX1_total cX1_total 4 (some .int) { frames := 1, cells := 0, slots := 0, locals := 21 } ad [.ref (m_h ad), .int v1] (fun σ post => wM_total (m_lim ad) σ v1 post) := by
  refine m_ofi ⟨by decide, rfl, Nat.le_of_ble_eq_true rfl⟩ (fun {p e s m args below meth c σ A post ls} C Wd hf hl => ?_)
  replace hl : lv_has ls 4 [(0, .ref (m_h ad)), (1, .int v1)] := hl
  refine lv_iload_n C.1 C.2.1 dX1_total_0 rfl (lv_at hl 1 rfl) ?_
  refine lv_if_lt (tgt := 9) C.1 C.2.1 dX1_total_1 (by decide) (fun hc => ?_) (fun hc => ?_)
  · replace hf := hf.1 hc
    refine lv_iconst (v := (-1)) C.1 C.2.1 dX1_total_9 (by decide) ?_
    exact m_iret C Wd hf dX1_total_10
  · replace hf := hf.2 hc
    refine lv_iload_n C.1 C.2.1 dX1_total_4 rfl (lv_at hl 1 rfl) ?_
    refine lv_iconst (v := 4) C.1 C.2.1 dX1_total_5 (by decide) ?_
    refine lv_icmp_le (tgt := 11) C.1 C.2.1 dX1_total_6 (by decide) (fun hc => ?_) (fun hc => ?_)
    · replace hf := hf.1 hc
      refine lv_iconst (v := 0) C.1 C.2.1 dX1_total_11 (by decide) ?_
      refine lv_istore_n (lv' := [(2, .int 0), (0, .ref (m_h ad)), (1, .int v1)]) C.1 C.2.1 dX1_total_12 rfl hl (by decide) rfl (fun ls hl => ?_)
      refine lv_iconst (v := 0) C.1 C.2.1 dX1_total_13 (by decide) ?_
      refine lv_istore_n (lv' := [(3, .int 0), (2, .int 0), (0, .ref (m_h ad)), (1, .int v1)]) C.1 C.2.1 dX1_total_14 rfl hl (by decide) rfl (fun ls hl => ?_)
      exact bM_total_15 C Wd hf (lv_sub hl [2, 3, 1, 0] rfl)
    · replace hf := hf.2 hc
      refine lv_iconst (v := (-1)) C.1 C.2.1 dX1_total_9 (by decide) ?_
      exact m_iret C Wd hf dX1_total_10
end
section
def limV (v : Int32) : Int32 := if 16 < (if v < 512 then v else 512) then (if v < 512 then v else 512) else 16
def limN (v : Int32) : Nat := (limV v).toNatClampNeg
theorem limV_spec (v : Int32) : limV v = nI (limN v) ∧ 16 ≤ limN v ∧ limN v ≤ 512 := by
  have key : ¬ limV v < 16 ∧ limV v ≤ 512 := by
    unfold limV
    by_cases h1 : v < 512
    · rw [if_pos h1]
      by_cases h2 : 16 < v
      · rw [if_pos h2]; exact ⟨fun h => absurd (Int32.lt_trans h2 h) (by decide), Int32.le_of_lt h1⟩
      · rw [if_neg h2]; decide
    · rw [if_neg h1]; decide
  have h0 : ¬ limV v < 0 := fun h => key.1 (Int32.lt_trans h (by decide))
  obtain ⟨j, hj, e⟩ := nI_of h0
  have e2 : limN v = j := by unfold limN; rw [e, nI_clamp hj]
  rw [e2]
  refine ⟨e, ?_, ?_⟩
  · have := key.1; rw [e] at this
    exact Nat.le_of_not_lt fun h => this (nI_lt (b := 16) h (by decide))
  · have := key.2; rw [e] at this
    exact (nI_leI (b := 512) hj (by decide)).mp this
theorem limV_mod (v : Int32) : (if v < 16 then 16 else if 512 < v then 512 else v) = limV v := by
  unfold limV
  by_cases h1 : v < 512
  · rw [if_pos h1, if_neg (fun h => absurd (Int32.lt_trans h h1) (by decide +revert) : ¬ (512 : Int32) < v)]
    by_cases h2 : v < 16
    · rw [if_pos h2, if_neg (fun h => Int32.lt_irrefl (Int32.lt_trans h h2))]
    · rw [if_neg h2]
      by_cases h3 : 16 < v
      · rw [if_pos h3]
      · rw [if_neg h3]
        exact Int32.le_antisymm (Int32.not_lt.mp h3) (Int32.not_lt.mp h2)
  · rw [if_neg h1, if_neg (fun h => h1 (Int32.lt_trans h (by decide)))]
    by_cases h2 : 512 < v
    · rw [if_pos h2]; decide
    · rw [if_neg h2, Int32.le_antisymm (Int32.not_lt.mp h2) (Int32.not_lt.mp h1)]; decide
def x_f0 : List Value := [.int 0, .null, .null, .null, .null, .int 0, .int 0, .int 0, .int 0]
def x_i0 : XS := (fun _ => 0, fun _ => 0, fun _ => 0, fun _ => 0, 0, 0, 0, 0)
def x_i1 (n : Nat) : XS := x_stp (x_svi (x_sen (x_sla (x_st x_i0 (x_fl (x_t x_i0) 0 n (-1))) 0) 0) (-1)) (-1)
def m_f0 : List Value := [.int 0, .int 0, .null, .int 0, .null, .null, .null, .null, .int 0, .int 0]
def m_i1 : MS := (fun _ => 0, fun _ => 0, fun _ => 0, fun _ => 0, fun _ => 0, 0, 0, 0, -1)
theorem ty_one {D : va_G} {cl : List vw_C} {tys : List (ClassId × FieldType)} {s : State} (hK : va_K D cl tys s) (i j : Nat) {c1 c2 : ClassId} (h1 : tys[i]? = some (c1, .int)) (h2 : tys[j]? = some (c2, .int)) : c2 = c1 := by
  have e1 : s.vm.findClass _ = some c1 := (hK.2 i _ h1).2
  have e2 : s.vm.findClass _ = some c2 := (hK.2 j _ h2).2
  exact Option.some.inj (e2.symm.trans e1)
theorem a0_i (n : Nat) : ∀ cA : ClassId, vp_cell cA (n, .inl (fun _ => 0)) = arrV cA n (fun _ => defaultValue .int) := fun _ => rfl
theorem a0_z (n : Nat) : ∀ cA : ClassId, vp_cell cA (n, .inl (fun _ => 0)) = arrV cA n (fun _ => defaultValue .boolean) := fun _ => rfl
set_option maxHeartbeats 4000000 in
set_option maxRecDepth 100000 in
theorem cX_init (l : Launch) (D : va_G) (h : Nat) (lim0 : Int32) (sz : Nat) : Met l yX0_init (.code yX0_init cX0_init 2 none :: lw_g) { frames := 1, cells := 4, slots := 2048, locals := 40 } (va_Pc [.ref h, .int lim0] (fun U => U.heap.size = sz ∧ va_P D vcl [(h, .inr (0, x_f0))] U.heap ∧ va_K D vcl [] U ∧ va_D (fun _ => True) [(h, .inr (0, x_f0))])) (va_Qv (fun ad : XA => x_h ad = h ∧ x_n ad = limN lim0 ∧ x_lim ad = nI (x_n ad)) (fun ad t => x_B D ad (va_A [(h, .inr (0, x_f0))] sz) (x_i1 (x_n ad)) t) (va_A [(h, .inr (0, x_f0))] sz)) 4 2048 (va_A [(h, .inr (0, x_f0))] sz) := by
  refine Met.ofW (cc := cX0_init) (maxL := 2) (ret := none) (by decide) rfl ?_
  intro p e s m args below meth c s₁ B hml hv
  obtain ⟨rfl, hsz, hP, hK, hD0⟩ := hv
  have hx := B.exec
  have hb := B.bytes
  have hr := B.returns
  have hlocks := B.notSynchronized
  have hts := atoms_spec (ws := .code yX0_init cX0_init 2 none :: lw_g) B.pre
  have hts : ∀ w ∈ lw_g, w.before _ s = true := fun w h => hts w (List.mem_cons_of_mem _ h)
  have hown : s.vm.findClass RX0 = some m.cls := findClass_of_methodNamed B.named
  have hin : meth.name = "<init>" := (name_of_methodNamed B.named B.method).1
  have C : x_C p s m _ meth c cX0_init 2 none := ⟨hx, hb, hml, hown, hts, hr, hlocks⟩
  subst hsz
  have hD := hD0.self (sz := s.heap.size)
  generalize hAe : va_A [(h, .inr (0, x_f0))] s.heap.size = A at hD ⊢
  have hA : ∀ q : Nat, s.heap.size ≤ q → A q := fun q h => by rw [← hAe]; exact Or.inr h
  have hS : va_S A s.heap s.heap [] := va_S.rf
  obtain ⟨hlim, hn1, hn2⟩ := limV_spec lim0
  generalize limN lim0 = n at hlim hn1 hn2 ⊢
  have hl := lv_entry ([.ref h, .int lim0]) (n := 2) (Nat.le_of_ble_eq_true rfl)
  rw [lg_entry_eq]
  generalize (lg_sl ([.ref h, .int lim0]) ++ List.replicate (2 - (lg_sl ([.ref h, .int lim0])).length) Slot.unset).toArray = ls at hl ⊢
  have hl : lv_has ls 2 [(0, .ref h), (1, .int lim0)] := hl
  generalize hQ : MQ below _ _ s 4 2048 A = QQ
  change W p l e { frames := 1, cells := 4, slots := 2048, locals := 40 } s m _ below meth c s.heap [] 0 0 _ _
  refine lv_aload_n hx hb dX0_init_0 rfl (lv_at hl 0 rfl) ?_
  refine W.objInit hx hb hown (hts (.methodLink RX0 3 objectInit) (gm 54 rfl rfl)) (hts (.instanceMethod objectInit) (gm 55 rfl rfl)) (hts (.code objectInit ⟨#[0xb1]⟩ 1 none) (gm 56 rfl rfl)) rfl (by rw [hml]; exact hl.1) rfl dX0_init_1 (Nat.le_of_ble_eq_true rfl) (Nat.le_of_ble_eq_true rfl) ?_
  refine W.eq (g2 := F0 m 4 ls []) rfl ?_
  refine lv_aload_n hx hb dX0_init_4 rfl (lv_at hl 0 rfl) ?_
  refine lv_bipush (v := 16) hx hb dX0_init_5 (by decide) ?_
  refine lv_sipush (v := 512) hx hb dX0_init_7 (by decide) ?_
  refine lv_iload_n hx hb dX0_init_10 rfl (lv_at hl 1 rfl) ?_
  refine x_mmin C hl.1 (Nat.le_of_ble_eq_true rfl) (Nat.le_of_ble_eq_true rfl) (by decide) dX0_init_11 ?_
  refine x_mmax C hl.1 (Nat.le_of_ble_eq_true rfl) (Nat.le_of_ble_eq_true rfl) (by decide) dX0_init_14 ?_
  refine lv_topi (fun w hw => ?_)
  unfold limV at hlim
  obtain rfl : w = nI n := hw.trans hlim
  refine va_putF (D := D) (ci := 0) (v := .int (nI n)) (ty := .int) (C := RX0) (T := TX0) (N := 9) hx hb hts x_in tyX0 tyX0_ok nmX0 hown hK hP hD hS 0 rfl rfl 0 (by decide) (hts _ x_l_lim) (fun _ h9 => h9) rfl hin rfl (by decide +kernel) rfl rfl (Nat.le_of_ble_eq_true rfl) dX0_init_17 (fun H locs hP hD hS => ?_)
  replace hP : va_P D vcl [(h, .inr (0, [.int (nI n), .null, .null, .null, .null, .int 0, .int 0, .int 0, .int 0]))] H := hP
  replace hD : va_D A [(h, .inr (0, [.int (nI n), .null, .null, .null, .null, .int 0, .int 0, .int 0, .int 0]))] := hD
  refine lv_aload_n hx hb dX0_init_20 rfl (lv_at hl 0 rfl) ?_
  refine lv_aload_n hx hb dX0_init_21 rfl (lv_at hl 0 rfl) ?_
  refine va_get (D := D) (ci := 0) (v := .int (nI n)) (C := RX0) (T := TX0) (N := 9) hx hb hts x_in hown hK hP 0 rfl rfl 0 (by decide) (hts _ x_l_lim) (fun _ h9 => h9) rfl dX0_init_22 ?_
  refine va_newa (atype := .int) (rest := [.ref h]) hx hb (hts (.arrayClass .int) (gm 94 rfl rfl)) (ty := .int) rfl hK hP hD hS hA (n := nI n) (N' := n) (a0_i n) (nI_pos (by omega)) (nI_clamp (by omega)) (by show n * 4 ≤ _; omega) (show 0 + 1 ≤ 4 by omega) (show 0 + n ≤ 2048 by omega) dX0_init_25 (fun q1 c1 H hK hP hD hS => ?_)
  replace hP : va_P D vcl [(h, .inr (0, [.int (nI n), .null, .null, .null, .null, .int 0, .int 0, .int 0, .int 0])), (q1, .inl (c1, n, .inl (fun _ => 0)))] H := hP
  replace hD : va_D A [(h, .inr (0, [.int (nI n), .null, .null, .null, .null, .int 0, .int 0, .int 0, .int 0])), (q1, .inl (c1, n, .inl (fun _ => 0)))] := hD
  refine W.widen (k := 1) (n := 512) (show 0 + 1 ≤ 1 by omega) (show 0 + n ≤ 512 by omega) ?_
  refine va_putF (D := D) (ci := 0) (v := .ref q1) (ty := .array .int) (C := RX0) (T := TX0) (N := 9) hx hb hts x_in tyX0 tyX0_ok nmX0 hown hK hP hD hS 0 rfl rfl 1 (by decide) (hts _ x_l_u) (fun _ h9 => h9) rfl hin rfl (by decide +kernel) rfl rfl (Nat.le_of_ble_eq_true rfl) dX0_init_27 (fun H locs hP hD hS => ?_)
  replace hP : va_P D vcl [(h, .inr (0, [.int (nI n), .ref q1, .null, .null, .null, .int 0, .int 0, .int 0, .int 0])), (q1, .inl (c1, n, .inl (fun _ => 0)))] H := hP
  replace hD : va_D A [(h, .inr (0, [.int (nI n), .ref q1, .null, .null, .null, .int 0, .int 0, .int 0, .int 0])), (q1, .inl (c1, n, .inl (fun _ => 0)))] := hD
  refine lv_aload_n hx hb dX0_init_30 rfl (lv_at hl 0 rfl) ?_
  refine lv_aload_n hx hb dX0_init_31 rfl (lv_at hl 0 rfl) ?_
  refine va_get (D := D) (ci := 0) (v := .int (nI n)) (C := RX0) (T := TX0) (N := 9) hx hb hts x_in hown hK hP 0 rfl rfl 0 (by decide) (hts _ x_l_lim) (fun _ h9 => h9) rfl dX0_init_32 ?_
  refine va_newa (atype := .int) (rest := [.ref h]) hx hb (hts (.arrayClass .int) (gm 94 rfl rfl)) (ty := .int) rfl hK hP hD hS hA (n := nI n) (N' := n) (a0_i n) (nI_pos (by omega)) (nI_clamp (by omega)) (by show n * 4 ≤ _; omega) (show 1 + 1 ≤ 4 by omega) (show 512 + n ≤ 2048 by omega) dX0_init_35 (fun q2 c2 H hK hP hD hS => ?_)
  have ec2 : c1 = c2 := (ty_one hK 0 1 rfl rfl).symm
  subst ec2
  replace hK : va_K D vcl [(c1, .int)] s := hK.sub [0] rfl
  replace hP : va_P D vcl [(h, .inr (0, [.int (nI n), .ref q1, .null, .null, .null, .int 0, .int 0, .int 0, .int 0])), (q1, .inl (c1, n, .inl (fun _ => 0))), (q2, .inl (c1, n, .inl (fun _ => 0)))] H := hP
  replace hD : va_D A [(h, .inr (0, [.int (nI n), .ref q1, .null, .null, .null, .int 0, .int 0, .int 0, .int 0])), (q1, .inl (c1, n, .inl (fun _ => 0))), (q2, .inl (c1, n, .inl (fun _ => 0)))] := hD
  refine W.widen (k := 2) (n := 1024) (show 1 + 1 ≤ 2 by omega) (show 512 + n ≤ 1024 by omega) ?_
  refine va_putF (D := D) (ci := 0) (v := .ref q2) (ty := .array .int) (C := RX0) (T := TX0) (N := 9) hx hb hts x_in tyX0 tyX0_ok nmX0 hown hK hP hD hS 0 rfl rfl 2 (by decide) (hts _ x_l_z) (fun _ h9 => h9) rfl hin rfl (by decide +kernel) rfl rfl (Nat.le_of_ble_eq_true rfl) dX0_init_37 (fun H locs hP hD hS => ?_)
  replace hP : va_P D vcl [(h, .inr (0, [.int (nI n), .ref q1, .ref q2, .null, .null, .int 0, .int 0, .int 0, .int 0])), (q1, .inl (c1, n, .inl (fun _ => 0))), (q2, .inl (c1, n, .inl (fun _ => 0)))] H := hP
  replace hD : va_D A [(h, .inr (0, [.int (nI n), .ref q1, .ref q2, .null, .null, .int 0, .int 0, .int 0, .int 0])), (q1, .inl (c1, n, .inl (fun _ => 0))), (q2, .inl (c1, n, .inl (fun _ => 0)))] := hD
  refine lv_aload_n hx hb dX0_init_40 rfl (lv_at hl 0 rfl) ?_
  refine lv_aload_n hx hb dX0_init_41 rfl (lv_at hl 0 rfl) ?_
  refine va_get (D := D) (ci := 0) (v := .int (nI n)) (C := RX0) (T := TX0) (N := 9) hx hb hts x_in hown hK hP 0 rfl rfl 0 (by decide) (hts _ x_l_lim) (fun _ h9 => h9) rfl dX0_init_42 ?_
  refine va_newa (atype := .int) (rest := [.ref h]) hx hb (hts (.arrayClass .int) (gm 94 rfl rfl)) (ty := .int) rfl hK hP hD hS hA (n := nI n) (N' := n) (a0_i n) (nI_pos (by omega)) (nI_clamp (by omega)) (by show n * 4 ≤ _; omega) (show 2 + 1 ≤ 4 by omega) (show 1024 + n ≤ 2048 by omega) dX0_init_45 (fun q3 c3 H hK hP hD hS => ?_)
  have ec3 : c1 = c3 := (ty_one hK 0 1 rfl rfl).symm
  subst ec3
  replace hK : va_K D vcl [(c1, .int)] s := hK.sub [0] rfl
  replace hP : va_P D vcl [(h, .inr (0, [.int (nI n), .ref q1, .ref q2, .null, .null, .int 0, .int 0, .int 0, .int 0])), (q1, .inl (c1, n, .inl (fun _ => 0))), (q2, .inl (c1, n, .inl (fun _ => 0))), (q3, .inl (c1, n, .inl (fun _ => 0)))] H := hP
  replace hD : va_D A [(h, .inr (0, [.int (nI n), .ref q1, .ref q2, .null, .null, .int 0, .int 0, .int 0, .int 0])), (q1, .inl (c1, n, .inl (fun _ => 0))), (q2, .inl (c1, n, .inl (fun _ => 0))), (q3, .inl (c1, n, .inl (fun _ => 0)))] := hD
  refine W.widen (k := 3) (n := 1536) (show 2 + 1 ≤ 3 by omega) (show 1024 + n ≤ 1536 by omega) ?_
  refine va_putF (D := D) (ci := 0) (v := .ref q3) (ty := .array .int) (C := RX0) (T := TX0) (N := 9) hx hb hts x_in tyX0 tyX0_ok nmX0 hown hK hP hD hS 0 rfl rfl 3 (by decide) (hts _ x_l_t) (fun _ h9 => h9) rfl hin rfl (by decide +kernel) rfl rfl (Nat.le_of_ble_eq_true rfl) dX0_init_47 (fun H locs hP hD hS => ?_)
  replace hP : va_P D vcl [(h, .inr (0, [.int (nI n), .ref q1, .ref q2, .ref q3, .null, .int 0, .int 0, .int 0, .int 0])), (q1, .inl (c1, n, .inl (fun _ => 0))), (q2, .inl (c1, n, .inl (fun _ => 0))), (q3, .inl (c1, n, .inl (fun _ => 0)))] H := hP
  replace hD : va_D A [(h, .inr (0, [.int (nI n), .ref q1, .ref q2, .ref q3, .null, .int 0, .int 0, .int 0, .int 0])), (q1, .inl (c1, n, .inl (fun _ => 0))), (q2, .inl (c1, n, .inl (fun _ => 0))), (q3, .inl (c1, n, .inl (fun _ => 0)))] := hD
  refine lv_aload_n hx hb dX0_init_50 rfl (lv_at hl 0 rfl) ?_
  refine lv_aload_n hx hb dX0_init_51 rfl (lv_at hl 0 rfl) ?_
  refine va_get (D := D) (ci := 0) (v := .int (nI n)) (C := RX0) (T := TX0) (N := 9) hx hb hts x_in hown hK hP 0 rfl rfl 0 (by decide) (hts _ x_l_lim) (fun _ h9 => h9) rfl dX0_init_52 ?_
  refine va_newa (atype := .int) (rest := [.ref h]) hx hb (hts (.arrayClass .int) (gm 94 rfl rfl)) (ty := .int) rfl hK hP hD hS hA (n := nI n) (N' := n) (a0_i n) (nI_pos (by omega)) (nI_clamp (by omega)) (by show n * 4 ≤ _; omega) (show 3 + 1 ≤ 4 by omega) (show 1536 + n ≤ 2048 by omega) dX0_init_55 (fun q4 c4 H hK hP hD hS => ?_)
  have ec4 : c1 = c4 := (ty_one hK 0 1 rfl rfl).symm
  subst ec4
  replace hK : va_K D vcl [(c1, .int)] s := hK.sub [0] rfl
  replace hP : va_P D vcl [(h, .inr (0, [.int (nI n), .ref q1, .ref q2, .ref q3, .null, .int 0, .int 0, .int 0, .int 0])), (q1, .inl (c1, n, .inl (fun _ => 0))), (q2, .inl (c1, n, .inl (fun _ => 0))), (q3, .inl (c1, n, .inl (fun _ => 0))), (q4, .inl (c1, n, .inl (fun _ => 0)))] H := hP
  replace hD : va_D A [(h, .inr (0, [.int (nI n), .ref q1, .ref q2, .ref q3, .null, .int 0, .int 0, .int 0, .int 0])), (q1, .inl (c1, n, .inl (fun _ => 0))), (q2, .inl (c1, n, .inl (fun _ => 0))), (q3, .inl (c1, n, .inl (fun _ => 0))), (q4, .inl (c1, n, .inl (fun _ => 0)))] := hD
  refine W.widen (k := 4) (n := 2048) (show 3 + 1 ≤ 4 by omega) (show 1536 + n ≤ 2048 by omega) ?_
  refine va_putF (D := D) (ci := 0) (v := .ref q4) (ty := .array .int) (C := RX0) (T := TX0) (N := 9) hx hb hts x_in tyX0 tyX0_ok nmX0 hown hK hP hD hS 0 rfl rfl 4 (by decide) (hts _ x_l_r) (fun _ h9 => h9) rfl hin rfl (by decide +kernel) rfl rfl (Nat.le_of_ble_eq_true rfl) dX0_init_57 (fun H locs hP hD hS => ?_)
  replace hP : va_P D vcl [(h, .inr (0, [.int (nI n), .ref q1, .ref q2, .ref q3, .ref q4, .int 0, .int 0, .int 0, .int 0])), (q1, .inl (c1, n, .inl (fun _ => 0))), (q2, .inl (c1, n, .inl (fun _ => 0))), (q3, .inl (c1, n, .inl (fun _ => 0))), (q4, .inl (c1, n, .inl (fun _ => 0)))] H := hP
  replace hD : va_D A [(h, .inr (0, [.int (nI n), .ref q1, .ref q2, .ref q3, .ref q4, .int 0, .int 0, .int 0, .int 0])), (q1, .inl (c1, n, .inl (fun _ => 0))), (q2, .inl (c1, n, .inl (fun _ => 0))), (q3, .inl (c1, n, .inl (fun _ => 0))), (q4, .inl (c1, n, .inl (fun _ => 0)))] := hD
  have Wd : x_W D (h, q1, q2, q3, q4, c1, n, nI n) x_i0 A s H locs := ⟨hP, hD, hS, hK, hA⟩
  replace hl : lv_has ls 2 [(0, .ref (x_h (h, q1, q2, q3, q4, c1, n, nI n))), (1, .int lim0)] := hl
  generalize had : (h, q1, q2, q3, q4, c1, n, nI n) = ad at Wd hl
  have e1 : x_h ad = h := by rw [← had]; rfl
  have e2 : x_n ad = n := by rw [← had]; rfl
  have e3 : x_lim ad = nI n := by rw [← had]; rfl
  refine lv_aload_n hx hb dX0_init_60 rfl (lv_at hl 0 rfl) ?_
  refine x_get_t C Wd dX0_init_61 ?_
  refine lv_iconst (v := (-1)) hx hb dX0_init_64 (by decide) ?_
  refine x_fill_t (rest := []) C Wd (by rw [e2]; omega) hl.1 (Nat.le_of_ble_eq_true rfl) (by decide) dX0_init_65 (fun H locs Wd => ?_)
  refine lv_aload_n hx hb dX0_init_68 rfl (lv_at hl 0 rfl) ?_
  refine lv_iconst (v := 0) hx hb dX0_init_69 (by decide) ?_
  refine x_put_la C Wd dX0_init_70 (fun H locs Wd => ?_)
  refine lv_aload_n hx hb dX0_init_73 rfl (lv_at hl 0 rfl) ?_
  refine lv_iconst (v := 0) hx hb dX0_init_74 (by decide) ?_
  refine x_put_en C Wd dX0_init_75 (fun H locs Wd => ?_)
  refine lv_aload_n hx hb dX0_init_78 rfl (lv_at hl 0 rfl) ?_
  refine lv_iconst (v := (-1)) hx hb dX0_init_79 (by decide) ?_
  refine x_put_vi C Wd dX0_init_80 (fun H locs Wd => ?_)
  refine lv_aload_n hx hb dX0_init_83 rfl (lv_at hl 0 rfl) ?_
  refine lv_iconst (v := (-1)) hx hb dX0_init_84 (by decide) ?_
  refine x_put_tp C Wd dX0_init_85 (fun H locs Wd => ?_)
  rw [← hQ]
  exact W.vret hx hb hr (fun t ht hW => ⟨⟨ad, rfl, ⟨e1, e2, by rw [e3, e2]⟩, by rw [ht]; exact Wd.1, va_K.moved hW.alike Wd.2.2.2.1, Wd.2.1⟩, Wd.2.2.1.F ht⟩) Wd.2.2.1.2.2 dX0_init_88 hlocks
end
section
set_option maxHeartbeats 4000000 in
set_option maxRecDepth 100000 in
theorem cM_init (l : Launch) (D : va_G) (h : Nat) (lim0 : Int32) (sz : Nat) : Met l yX1_init (.code yX1_init cX1_init 2 none :: lw_g) { frames := 1, cells := 5, slots := 1544, locals := 30 } (va_Pc [.ref h, .int lim0] (fun U => U.heap.size = sz ∧ va_P D vcl [(h, .inr (1, m_f0))] U.heap ∧ va_K D vcl [] U ∧ va_D (fun _ => True) [(h, .inr (1, m_f0))])) (va_Qv (fun ad : MA => m_h ad = h ∧ m_lim ad = nI (limN lim0)) (fun ad t => m_B D ad (va_A [(h, .inr (1, m_f0))] sz) m_i1 t) (va_A [(h, .inr (1, m_f0))] sz)) 5 1544 (va_A [(h, .inr (1, m_f0))] sz) := by
  refine Met.ofW (cc := cX1_init) (maxL := 2) (ret := none) (by decide) rfl ?_
  intro p e s m args below meth c s₁ B hml hv
  obtain ⟨rfl, hsz, hP, hK, hD0⟩ := hv
  have hx := B.exec
  have hb := B.bytes
  have hr := B.returns
  have hlocks := B.notSynchronized
  have hts := atoms_spec (ws := .code yX1_init cX1_init 2 none :: lw_g) B.pre
  have hts : ∀ w ∈ lw_g, w.before _ s = true := fun w h => hts w (List.mem_cons_of_mem _ h)
  have hown : s.vm.findClass RX1 = some m.cls := findClass_of_methodNamed B.named
  have hin : meth.name = "<init>" := (name_of_methodNamed B.named B.method).1
  subst hsz
  have hD := hD0.self (sz := s.heap.size)
  generalize hAe : va_A [(h, .inr (1, m_f0))] s.heap.size = A at hD ⊢
  have hA : ∀ q : Nat, s.heap.size ≤ q → A q := fun q h => by rw [← hAe]; exact Or.inr h
  have hS : va_S A s.heap s.heap [] := va_S.rf
  obtain ⟨hlim, hn1, hn2⟩ := limV_spec lim0
  generalize limN lim0 = n at hlim hn1 hn2 ⊢
  have hl := lv_entry ([.ref h, .int lim0]) (n := 2) (Nat.le_of_ble_eq_true rfl)
  rw [lg_entry_eq]
  generalize (lg_sl ([.ref h, .int lim0]) ++ List.replicate (2 - (lg_sl ([.ref h, .int lim0])).length) Slot.unset).toArray = ls at hl ⊢
  have hl : lv_has ls 2 [(0, .ref h), (1, .int lim0)] := hl
  generalize hQ : MQ below _ _ s 5 1544 A = QQ
  change W p l e { frames := 1, cells := 5, slots := 1544, locals := 30 } s m _ below meth c s.heap [] 0 0 _ _
  refine lv_aload_n hx hb dX1_init_0 rfl (lv_at hl 0 rfl) ?_
  refine W.objInit hx hb hown (hts (.methodLink RX1 1 objectInit) (gm 278 rfl rfl)) (hts (.instanceMethod objectInit) (gm 55 rfl rfl)) (hts (.code objectInit ⟨#[0xb1]⟩ 1 none) (gm 56 rfl rfl)) rfl (by rw [hml]; exact hl.1) rfl dX1_init_1 (Nat.le_of_ble_eq_true rfl) (Nat.le_of_ble_eq_true rfl) ?_
  refine W.eq (g2 := F0 m 4 ls []) rfl ?_
  refine lv_aload_n hx hb dX1_init_4 rfl (lv_at hl 0 rfl) ?_
  refine lv_sipush (v := 512) hx hb dX1_init_5 (by decide) ?_
  refine va_newa (atype := .int) (rest := [.ref h]) hx hb (hts (.arrayClass .int) (gm 94 rfl rfl)) (ty := .int) rfl hK hP hD hS hA (n := 512) (N' := 512) (a0_i 512) (by decide) (by decide) (by decide) (by decide) (by decide) dX1_init_8 (fun q1 c1 H hK hP hD hS => ?_)
  replace hP : va_P D vcl [(h, .inr (1, [.int 0, .int 0, .null, .int 0, .null, .null, .null, .null, .int 0, .int 0])), (q1, .inl (c1, 512, .inl (fun _ => 0)))] H := hP
  replace hD : va_D A [(h, .inr (1, [.int 0, .int 0, .null, .int 0, .null, .null, .null, .null, .int 0, .int 0])), (q1, .inl (c1, 512, .inl (fun _ => 0)))] := hD
  refine W.widen (k := 1) (n := 512) (by decide) (by decide) ?_
  refine va_putF (D := D) (ci := 1) (v := .ref q1) (ty := .array .int) (C := RX1) (T := TX1) (N := 10) hx hb hts m_in tyX1 tyX1_ok nmX1 hown hK hP hD hS 0 rfl rfl 2 (by decide) (hts _ m_l_un) (fun _ h9 => h9) rfl hin rfl (by decide +kernel) rfl rfl (Nat.le_of_ble_eq_true rfl) dX1_init_10 (fun H locs hP hD hS => ?_)
  replace hP : va_P D vcl [(h, .inr (1, [.int 0, .int 0, .ref q1, .int 0, .null, .null, .null, .null, .int 0, .int 0])), (q1, .inl (c1, 512, .inl (fun _ => 0)))] H := hP
  replace hD : va_D A [(h, .inr (1, [.int 0, .int 0, .ref q1, .int 0, .null, .null, .null, .null, .int 0, .int 0])), (q1, .inl (c1, 512, .inl (fun _ => 0)))] := hD
  refine lv_aload_n hx hb dX1_init_13 rfl (lv_at hl 0 rfl) ?_
  refine lv_sipush (v := 258) hx hb dX1_init_14 (by decide) ?_
  refine va_newa (atype := .int) (rest := [.ref h]) hx hb (hts (.arrayClass .int) (gm 94 rfl rfl)) (ty := .int) rfl hK hP hD hS hA (n := 258) (N' := 258) (a0_i 258) (by decide) (by decide) (by decide) (by decide) (by decide) dX1_init_17 (fun q2 c2 H hK hP hD hS => ?_)
  have ec2 : c1 = c2 := (ty_one hK 0 1 rfl rfl).symm
  subst ec2
  replace hK : va_K D vcl [(c1, .int)] s := hK.sub [0] rfl
  replace hP : va_P D vcl [(h, .inr (1, [.int 0, .int 0, .ref q1, .int 0, .null, .null, .null, .null, .int 0, .int 0])), (q1, .inl (c1, 512, .inl (fun _ => 0))), (q2, .inl (c1, 258, .inl (fun _ => 0)))] H := hP
  replace hD : va_D A [(h, .inr (1, [.int 0, .int 0, .ref q1, .int 0, .null, .null, .null, .null, .int 0, .int 0])), (q1, .inl (c1, 512, .inl (fun _ => 0))), (q2, .inl (c1, 258, .inl (fun _ => 0)))] := hD
  refine W.widen (k := 2) (n := 770) (by decide) (by decide) ?_
  refine va_putF (D := D) (ci := 1) (v := .ref q2) (ty := .array .int) (C := RX1) (T := TX1) (N := 10) hx hb hts m_in tyX1 tyX1_ok nmX1 hown hK hP hD hS 0 rfl rfl 4 (by decide) (hts _ m_l_fi) (fun _ h9 => h9) rfl hin rfl (by decide +kernel) rfl rfl (Nat.le_of_ble_eq_true rfl) dX1_init_19 (fun H locs hP hD hS => ?_)
  replace hP : va_P D vcl [(h, .inr (1, [.int 0, .int 0, .ref q1, .int 0, .ref q2, .null, .null, .null, .int 0, .int 0])), (q1, .inl (c1, 512, .inl (fun _ => 0))), (q2, .inl (c1, 258, .inl (fun _ => 0)))] H := hP
  replace hD : va_D A [(h, .inr (1, [.int 0, .int 0, .ref q1, .int 0, .ref q2, .null, .null, .null, .int 0, .int 0])), (q1, .inl (c1, 512, .inl (fun _ => 0))), (q2, .inl (c1, 258, .inl (fun _ => 0)))] := hD
  refine lv_aload_n hx hb dX1_init_22 rfl (lv_at hl 0 rfl) ?_
  refine lv_sipush (v := 258) hx hb dX1_init_23 (by decide) ?_
  refine va_newa (atype := .int) (rest := [.ref h]) hx hb (hts (.arrayClass .int) (gm 94 rfl rfl)) (ty := .int) rfl hK hP hD hS hA (n := 258) (N' := 258) (a0_i 258) (by decide) (by decide) (by decide) (by decide) (by decide) dX1_init_26 (fun q3 c3 H hK hP hD hS => ?_)
  have ec3 : c1 = c3 := (ty_one hK 0 1 rfl rfl).symm
  subst ec3
  replace hK : va_K D vcl [(c1, .int)] s := hK.sub [0] rfl
  replace hP : va_P D vcl [(h, .inr (1, [.int 0, .int 0, .ref q1, .int 0, .ref q2, .null, .null, .null, .int 0, .int 0])), (q1, .inl (c1, 512, .inl (fun _ => 0))), (q2, .inl (c1, 258, .inl (fun _ => 0))), (q3, .inl (c1, 258, .inl (fun _ => 0)))] H := hP
  replace hD : va_D A [(h, .inr (1, [.int 0, .int 0, .ref q1, .int 0, .ref q2, .null, .null, .null, .int 0, .int 0])), (q1, .inl (c1, 512, .inl (fun _ => 0))), (q2, .inl (c1, 258, .inl (fun _ => 0))), (q3, .inl (c1, 258, .inl (fun _ => 0)))] := hD
  refine W.widen (k := 3) (n := 1028) (by decide) (by decide) ?_
  refine va_putF (D := D) (ci := 1) (v := .ref q3) (ty := .array .int) (C := RX1) (T := TX1) (N := 10) hx hb hts m_in tyX1 tyX1_ok nmX1 hown hK hP hD hS 0 rfl rfl 5 (by decide) (hts _ m_l_sz) (fun _ h9 => h9) rfl hin rfl (by decide +kernel) rfl rfl (Nat.le_of_ble_eq_true rfl) dX1_init_28 (fun H locs hP hD hS => ?_)
  replace hP : va_P D vcl [(h, .inr (1, [.int 0, .int 0, .ref q1, .int 0, .ref q2, .ref q3, .null, .null, .int 0, .int 0])), (q1, .inl (c1, 512, .inl (fun _ => 0))), (q2, .inl (c1, 258, .inl (fun _ => 0))), (q3, .inl (c1, 258, .inl (fun _ => 0)))] H := hP
  replace hD : va_D A [(h, .inr (1, [.int 0, .int 0, .ref q1, .int 0, .ref q2, .ref q3, .null, .null, .int 0, .int 0])), (q1, .inl (c1, 512, .inl (fun _ => 0))), (q2, .inl (c1, 258, .inl (fun _ => 0))), (q3, .inl (c1, 258, .inl (fun _ => 0)))] := hD
  refine lv_aload_n hx hb dX1_init_31 rfl (lv_at hl 0 rfl) ?_
  refine lv_sipush (v := 258) hx hb dX1_init_32 (by decide) ?_
  refine va_newa (atype := .boolean) (rest := [.ref h]) hx hb (hts (.arrayClass .boolean) (gm 310 rfl rfl)) (ty := .boolean) rfl hK hP hD hS hA (n := 258) (N' := 258) (a0_z 258) (by decide) (by decide) (by decide) (by decide) (by decide) dX1_init_35 (fun q4 c4 H hK hP hD hS => ?_)
  replace hP : va_P D vcl [(h, .inr (1, [.int 0, .int 0, .ref q1, .int 0, .ref q2, .ref q3, .null, .null, .int 0, .int 0])), (q1, .inl (c1, 512, .inl (fun _ => 0))), (q2, .inl (c1, 258, .inl (fun _ => 0))), (q3, .inl (c1, 258, .inl (fun _ => 0))), (q4, .inl (c4, 258, .inl (fun _ => 0)))] H := hP
  replace hD : va_D A [(h, .inr (1, [.int 0, .int 0, .ref q1, .int 0, .ref q2, .ref q3, .null, .null, .int 0, .int 0])), (q1, .inl (c1, 512, .inl (fun _ => 0))), (q2, .inl (c1, 258, .inl (fun _ => 0))), (q3, .inl (c1, 258, .inl (fun _ => 0))), (q4, .inl (c4, 258, .inl (fun _ => 0)))] := hD
  refine W.widen (k := 4) (n := 1286) (by decide) (by decide) ?_
  refine va_putF (D := D) (ci := 1) (v := .ref q4) (ty := .array .boolean) (C := RX1) (T := TX1) (N := 10) hx hb hts m_in tyX1 tyX1_ok nmX1 hown hK hP hD hS 0 rfl rfl 6 (by decide) (hts _ m_l_us) (fun _ h9 => h9) rfl hin rfl (by decide +kernel) rfl rfl (Nat.le_of_ble_eq_true rfl) dX1_init_37 (fun H locs hP hD hS => ?_)
  replace hP : va_P D vcl [(h, .inr (1, [.int 0, .int 0, .ref q1, .int 0, .ref q2, .ref q3, .ref q4, .null, .int 0, .int 0])), (q1, .inl (c1, 512, .inl (fun _ => 0))), (q2, .inl (c1, 258, .inl (fun _ => 0))), (q3, .inl (c1, 258, .inl (fun _ => 0))), (q4, .inl (c4, 258, .inl (fun _ => 0)))] H := hP
  replace hD : va_D A [(h, .inr (1, [.int 0, .int 0, .ref q1, .int 0, .ref q2, .ref q3, .ref q4, .null, .int 0, .int 0])), (q1, .inl (c1, 512, .inl (fun _ => 0))), (q2, .inl (c1, 258, .inl (fun _ => 0))), (q3, .inl (c1, 258, .inl (fun _ => 0))), (q4, .inl (c4, 258, .inl (fun _ => 0)))] := hD
  refine lv_aload_n hx hb dX1_init_40 rfl (lv_at hl 0 rfl) ?_
  refine lv_sipush (v := 258) hx hb dX1_init_41 (by decide) ?_
  refine va_newa (atype := .int) (rest := [.ref h]) hx hb (hts (.arrayClass .int) (gm 94 rfl rfl)) (ty := .int) rfl hK hP hD hS hA (n := 258) (N' := 258) (a0_i 258) (by decide) (by decide) (by decide) (by decide) (by decide) dX1_init_44 (fun q5 c5 H hK hP hD hS => ?_)
  have ec5 : c1 = c5 := (ty_one hK 0 2 rfl rfl).symm
  subst ec5
  replace hK : va_K D vcl [(c1, .int), (c4, .boolean)] s := hK.sub [0, 1] rfl
  replace hP : va_P D vcl [(h, .inr (1, [.int 0, .int 0, .ref q1, .int 0, .ref q2, .ref q3, .ref q4, .null, .int 0, .int 0])), (q1, .inl (c1, 512, .inl (fun _ => 0))), (q2, .inl (c1, 258, .inl (fun _ => 0))), (q3, .inl (c1, 258, .inl (fun _ => 0))), (q4, .inl (c4, 258, .inl (fun _ => 0))), (q5, .inl (c1, 258, .inl (fun _ => 0)))] H := hP
  replace hD : va_D A [(h, .inr (1, [.int 0, .int 0, .ref q1, .int 0, .ref q2, .ref q3, .ref q4, .null, .int 0, .int 0])), (q1, .inl (c1, 512, .inl (fun _ => 0))), (q2, .inl (c1, 258, .inl (fun _ => 0))), (q3, .inl (c1, 258, .inl (fun _ => 0))), (q4, .inl (c4, 258, .inl (fun _ => 0))), (q5, .inl (c1, 258, .inl (fun _ => 0)))] := hD
  refine W.widen (k := 5) (n := 1544) (by decide) (by decide) ?_
  refine va_putF (D := D) (ci := 1) (v := .ref q5) (ty := .array .int) (C := RX1) (T := TX1) (N := 10) hx hb hts m_in tyX1 tyX1_ok nmX1 hown hK hP hD hS 0 rfl rfl 7 (by decide) (hts _ m_l_ca) (fun _ h9 => h9) rfl hin rfl (by decide +kernel) rfl rfl (Nat.le_of_ble_eq_true rfl) dX1_init_46 (fun H locs hP hD hS => ?_)
  replace hP : va_P D vcl [(h, .inr (1, [.int 0, .int 0, .ref q1, .int 0, .ref q2, .ref q3, .ref q4, .ref q5, .int 0, .int 0])), (q1, .inl (c1, 512, .inl (fun _ => 0))), (q2, .inl (c1, 258, .inl (fun _ => 0))), (q3, .inl (c1, 258, .inl (fun _ => 0))), (q4, .inl (c4, 258, .inl (fun _ => 0))), (q5, .inl (c1, 258, .inl (fun _ => 0)))] H := hP
  replace hD : va_D A [(h, .inr (1, [.int 0, .int 0, .ref q1, .int 0, .ref q2, .ref q3, .ref q4, .ref q5, .int 0, .int 0])), (q1, .inl (c1, 512, .inl (fun _ => 0))), (q2, .inl (c1, 258, .inl (fun _ => 0))), (q3, .inl (c1, 258, .inl (fun _ => 0))), (q4, .inl (c4, 258, .inl (fun _ => 0))), (q5, .inl (c1, 258, .inl (fun _ => 0)))] := hD
  refine lv_aload_n hx hb dX1_init_49 rfl (lv_at hl 0 rfl) ?_
  refine lv_iconst (v := (-1)) hx hb dX1_init_50 (by decide) ?_
  refine va_put (D := D) (ci := 1) (v := .int (-1)) (ty := .int) (C := RX1) (T := TX1) (N := 10) hx hb hts m_in tyX1 tyX1_ok nmX1 hown hK hP hD hS 0 rfl rfl 9 (by decide) (hts _ m_l_vi) (fun _ h9 => h9) rfl (by decide +kernel) rfl rfl (Nat.le_of_ble_eq_true rfl) dX1_init_51 (fun H locs hP hD hS => ?_)
  replace hP : va_P D vcl [(h, .inr (1, [.int 0, .int 0, .ref q1, .int 0, .ref q2, .ref q3, .ref q4, .ref q5, .int 0, .int (-1)])), (q1, .inl (c1, 512, .inl (fun _ => 0))), (q2, .inl (c1, 258, .inl (fun _ => 0))), (q3, .inl (c1, 258, .inl (fun _ => 0))), (q4, .inl (c4, 258, .inl (fun _ => 0))), (q5, .inl (c1, 258, .inl (fun _ => 0)))] H := hP
  replace hD : va_D A [(h, .inr (1, [.int 0, .int 0, .ref q1, .int 0, .ref q2, .ref q3, .ref q4, .ref q5, .int 0, .int (-1)])), (q1, .inl (c1, 512, .inl (fun _ => 0))), (q2, .inl (c1, 258, .inl (fun _ => 0))), (q3, .inl (c1, 258, .inl (fun _ => 0))), (q4, .inl (c4, 258, .inl (fun _ => 0))), (q5, .inl (c1, 258, .inl (fun _ => 0)))] := hD
  have last : ∀ w : Int32, w = nI n → W p l e { frames := 1, cells := 5, slots := 1544, locals := 30 } s m #[Value.ref h, Value.int lim0] below meth c H locs 5 1544 QQ (F0 m 80 ls [.int w, .ref h]) := by
    intro w hw
    subst hw
    refine va_putF (D := D) (ci := 1) (v := .int (nI n)) (ty := .int) (C := RX1) (T := TX1) (N := 10) hx hb hts m_in tyX1 tyX1_ok nmX1 hown hK hP hD hS 0 rfl rfl 0 (by decide) (hts _ m_l_lim) (fun _ h9 => h9) rfl hin rfl (by decide +kernel) rfl rfl (Nat.le_of_ble_eq_true rfl) dX1_init_80 (fun H locs hP hD hS => ?_)
    replace hP : va_P D vcl [(h, .inr (1, [.int (nI n), .int 0, .ref q1, .int 0, .ref q2, .ref q3, .ref q4, .ref q5, .int 0, .int (-1)])), (q1, .inl (c1, 512, .inl (fun _ => 0))), (q2, .inl (c1, 258, .inl (fun _ => 0))), (q3, .inl (c1, 258, .inl (fun _ => 0))), (q4, .inl (c4, 258, .inl (fun _ => 0))), (q5, .inl (c1, 258, .inl (fun _ => 0)))] H := hP
    replace hD : va_D A [(h, .inr (1, [.int (nI n), .int 0, .ref q1, .int 0, .ref q2, .ref q3, .ref q4, .ref q5, .int 0, .int (-1)])), (q1, .inl (c1, 512, .inl (fun _ => 0))), (q2, .inl (c1, 258, .inl (fun _ => 0))), (q3, .inl (c1, 258, .inl (fun _ => 0))), (q4, .inl (c4, 258, .inl (fun _ => 0))), (q5, .inl (c1, 258, .inl (fun _ => 0)))] := hD
    rw [← hQ]
    exact W.vret hx hb hr (fun t ht hW => ⟨⟨(h, q1, q2, q3, q4, q5, c1, c4, nI n), rfl, ⟨rfl, rfl⟩, by rw [ht]; exact hP, va_K.moved hW.alike hK, hD⟩, hS.F ht⟩) hS.2.2 dX1_init_83 hlocks
  refine lv_aload_n hx hb dX1_init_54 rfl (lv_at hl 0 rfl) ?_
  refine lv_iload_n hx hb dX1_init_55 rfl (lv_at hl 1 rfl) ?_
  refine lv_bipush (v := 16) hx hb dX1_init_56 (by decide) ?_
  refine lv_icmp_ge (tgt := 66) hx hb dX1_init_58 (by decide) (fun hc => ?_) (fun hc => ?_)
  · refine lv_iload_n hx hb dX1_init_66 rfl (lv_at hl 1 rfl) ?_
    refine lv_sipush (v := 512) hx hb dX1_init_67 (by decide) ?_
    refine lv_icmp_le (tgt := 79) hx hb dX1_init_70 (by decide) (fun hc2 => ?_) (fun hc2 => ?_)
    · refine lv_iload_n hx hb dX1_init_79 rfl (lv_at hl 1 rfl) ?_
      exact last _ (by rw [← hlim, ← limV_mod, if_neg (Int32.not_lt.mpr hc), if_neg (Int32.not_lt.mpr hc2)])
    · refine lv_sipush (v := 512) hx hb dX1_init_73 (by decide) ?_
      refine lv_goto (tgt := 80) hx hb dX1_init_76 (by decide) ?_
      exact last _ (by rw [← hlim, ← limV_mod, if_neg (Int32.not_lt.mpr hc), if_pos (Int32.not_le.mp hc2)])
  · refine lv_bipush (v := 16) hx hb dX1_init_61 (by decide) ?_
    refine lv_goto (tgt := 80) hx hb dX1_init_63 (by decide) ?_
    exact last _ (by rw [← hlim, ← limV_mod, if_pos (Int32.not_le.mp hc)])
end
section
/-! THE CLAIM OUT OF ONE WALK OF THE LAW'S BODY. Your part is whole_start (and what it stands on); all else here is the same for every law, but numbers. -/
def R_law : String := "VictimHeapLaw"
def lw_P (b : Addr) (xs : List Int32) (args : Array Value) (s : State) : Prop := args = #[.ref b] ∧ s.IntsAt b xs ∧ xs.length ≤ 2049 ∧ (Jvm.Cond.and given_1 narrow_1).before args s = true
def lw_Q (_ : Array Value) (s : State) (o : Outcome) (t : State) : Prop := o = .returned (some (.int 1)) ∧ Framed s o t [] 600000 7302250
def lw_Z (below : List Frame) (a : Array Value) (s : State) : State → Prop := fun t => ∃ o, t.status = .running ∧ Ended t below o ∧ lw_Q a s o t
/-- the law's own end, with 1 on the stack, nothing written that was there before, its room as the claim has it -/
theorem lw_ret {p : Program} {l : Launch} {e : Env} {s : State} {m : MethodId} {below : List Frame} {meth : Method} {c : Code} {b : Nat} (hx : p.tables.exec = Jvm.exec) (hb : c.code = code) (hr : meth.sig.returnType = ret) (hlocks : meth.locks = false) {pc : Nat} {H : Heap} {ls : Array Slot} (hdg : decode code pc = .ok (.ireturn, 1)) : W p l e room_1 s m #[Value.ref b] below meth c H [] 600000 7302250 (lw_Z below #[Value.ref b] s) (F0 m pc ls [.int 1]) := by
  intro T hT X
  obtain ⟨fs, hret, hrun, hended, hW, hframe⟩ := X.leave (v := some (.int 1)) (hlocks := hlocks) (fun h => by rw [hr] at h; cases h)
  have hmeth' : T.vm.method? m = some meth := X.method'
  refine ⟨T.setFrames fs, ?_, .returned (some (.int 1)), hrun, hended, rfl, ⟨_, rfl⟩, hW, hframe⟩
  jvm_step X.here [X.here.top, hx, hb, hdg, hmeth', hr, ret, narrow_b1]
  (try refine ⟨rfl, ?_⟩); (try refine ⟨rfl, ?_⟩)
  first | (intro acts; rw [hret _ acts rfl rfl rfl]) | rw [hret _ _ rfl rfl rfl]
  exact Steps.refl _
/-- what holds at the law's entry: the machine, the code, the tables' words (any of lw_tbl by 'hts w (by decide +kernel)'), the script of L ints xs at the cell b, what the Statement gives of the start (any of its parts by flat_of_before) -/
def lw_At (p : Program) (s : State) (m : MethodId) (meth : Method) (c : Code) (b L : Nat) (xs : Nat → Int32) : Prop :=
  p.tables.exec = Jvm.exec ∧ c.code = code ∧ meth.sig.returnType = ret ∧ c.maxLocals = 4 ∧ s.vm.findClass R_law = some m.cls ∧ (∀ w ∈ lw_tbl, w.before #[Value.ref b] s = true) ∧ va_X b L xs s s.heap ∧ b < s.heap.size ∧ meth.locks = false ∧ (Jvm.Cond.and given_1 narrow_1).before #[Value.ref b] s = true
end
section
def SimOK (Rel : Nat → Nat → XS → MS → Prop) : Prop :=
  (∀ n : Nat, 16 ≤ n → n ≤ 512 → Rel n 0 (x_i1 n) m_i1) ∧
  (∀ (n k : Nat) (σ : XS) (μ : MS) (a0 : Int32), k < 512 → Rel n k σ μ → wX_malloc n (nI n) σ a0 (fun r σ1 => wM_malloc (nI n) μ a0 (fun r1 μ1 => r = r1 ∧ Rel n (k + 1) σ1 μ1))) ∧
  (∀ (n k : Nat) (σ : XS) (μ : MS) (a0 : Int32), k < 512 → Rel n k σ μ → wX_calloc n (nI n) σ a0 (fun r σ1 => wM_calloc (nI n) μ a0 (fun r1 μ1 => r = r1 ∧ Rel n (k + 1) σ1 μ1))) ∧
  (∀ (n k : Nat) (σ : XS) (μ : MS) (a0 : Int32), k < 512 → Rel n k σ μ → wX_free n (nI n) σ a0 (fun r σ1 => wM_free (nI n) μ a0 (fun r1 μ1 => r = r1 ∧ Rel n (k + 1) σ1 μ1))) ∧
  (∀ (n k : Nat) (σ : XS) (μ : MS) (a0 : Int32) (a1 : Int32), k < 512 → Rel n k σ μ → wX_realloc n (nI n) σ a0 a1 (fun r σ1 => wM_realloc (nI n) μ a0 a1 (fun r1 μ1 => r = r1 ∧ Rel n (k + 1) σ1 μ1))) ∧
  (∀ (n k : Nat) (σ : XS) (μ : MS) (a0 : Int32) (a1 : Int32), k < 512 → Rel n k σ μ → wX_align n (nI n) σ a0 a1 (fun r σ1 => wM_align (nI n) μ a0 a1 (fun r1 μ1 => r = r1 ∧ Rel n (k + 1) σ1 μ1))) ∧
  (∀ (n k : Nat) (σ : XS) (μ : MS) (a0 : Int32), k < 512 → Rel n k σ μ → wX_trim n (nI n) σ a0 (fun r σ1 => wM_trim (nI n) μ a0 (fun r1 μ1 => r = r1 ∧ Rel n (k + 1) σ1 μ1))) ∧
  (∀ (n k : Nat) (σ : XS) (μ : MS) (a0 : Int32), k < 512 → Rel n k σ μ → wX_usable n (nI n) σ a0 (fun r σ1 => wM_usable (nI n) μ a0 (fun r1 μ1 => r = r1 ∧ Rel n (k + 1) σ1 μ1))) ∧
  (∀ (n k : Nat) (σ : XS) (μ : MS) (a0 : Int32) (a1 : Int32), k < 512 → Rel n k σ μ → wX_read n (nI n) σ a0 a1 (fun r σ1 => wM_read (nI n) μ a0 a1 (fun r1 μ1 => r = r1 ∧ Rel n (k + 1) σ1 μ1))) ∧
  (∀ (n k : Nat) (σ : XS) (μ : MS) (a0 : Int32) (a1 : Int32) (a2 : Int32), k < 512 → Rel n k σ μ → wX_write n (nI n) σ a0 a1 a2 (fun r σ1 => wM_write (nI n) μ a0 a1 a2 (fun r1 μ1 => r = r1 ∧ Rel n (k + 1) σ1 μ1))) ∧
  (∀ (n k : Nat) (σ : XS) (μ : MS) (a0 : Int32), k < 512 → Rel n k σ μ → wX_size n (nI n) σ a0 (fun r σ1 => wM_size (nI n) μ a0 (fun r1 μ1 => r = r1 ∧ Rel n (k + 1) σ1 μ1))) ∧
  (∀ (n k : Nat) (σ : XS) (μ : MS) (a0 : Int32), k < 512 → Rel n k σ μ → wX_state n (nI n) σ a0 (fun r σ1 => wM_state (nI n) μ a0 (fun r1 μ1 => r = r1 ∧ Rel n (k + 1) σ1 μ1))) ∧
  (∀ (n k : Nat) (σ : XS) (μ : MS) (a0 : Int32), k < 512 → Rel n k σ μ → wX_count n (nI n) σ a0 (fun r σ1 => wM_count (nI n) μ a0 (fun r1 μ1 => r = r1 ∧ Rel n (k + 1) σ1 μ1))) ∧
  (∀ (n k : Nat) (σ : XS) (μ : MS), k < 512 → Rel n k σ μ → wX_end n (nI n) σ  (fun r σ1 => wM_end (nI n) μ  (fun r1 μ1 => r = r1 ∧ Rel n (k + 1) σ1 μ1))) ∧
  (∀ (n k : Nat) (σ : XS) (μ : MS) (a0 : Int32), k < 512 → Rel n k σ μ → wX_total n (nI n) σ a0 (fun r σ1 => wM_total (nI n) μ a0 (fun r1 μ1 => r = r1 ∧ Rel n (k + 1) σ1 μ1)))
def l_C (p : Program) (s : State) (m : MethodId) (c : Code) (b : Nat) : Prop := p.tables.exec = Jvm.exec ∧ c.code = cL_law ∧ c.maxLocals = 4 ∧ s.vm.findClass RL = some m.cls ∧ ∀ w ∈ lw_g, w.before #[Value.ref b] s = true
def l_A (s : State) : Nat → Prop := fun q : Nat => s.heap.size ≤ q
def l_W (D : va_G) (ad : XA) (am : MA) (σ : XS) (μ : MS) (s : State) (H : Heap) (locs : List Loc) : Prop := va_P D vcl (x_w ad σ ++ m_w am μ) H ∧ va_D (l_A s) (x_w ad σ ++ m_w am μ) ∧ va_S (l_A s) s.heap H locs ∧ va_K D vcl [(x_c ad, .int)] s ∧ va_K D vcl [(m_c am, .int), (m_cz am, .boolean)] s
theorem l_hA {s : State} : ∀ q : Nat, s.heap.size ≤ q → l_A s q := fun _ h => h
theorem l_callx {p : Program} {l : Launch} {e : Env} {s : State} {m : MethodId} {below : List Frame} {meth : Method} {c : Code} {b : Nat} {D : va_G} {ad : XA} {am : MA} {σ : XS} {μ : MS} {H : Heap} {locs : List Loc} {R : Room} {cells slots pc : Nat} {ls : Array Slot} {rest : List Value} {Q : State → Prop} {y : MethodName} {bytes : ByteArray} {maxL n index : Nat} {rt : Option FieldType} {rm : Room} {As st : List Value} {wp : XS → (Int32 → XS → Prop) → Prop} {post : Int32 → XS → Prop} (C : l_C p s m c b) (Wd : l_W D ad am σ μ s H locs) (hM : x_Mi l D y bytes maxL rt rm ad (.ref (x_h ad) :: As) wp) (hS : x_Sv RL index y bytes maxL rt n) (hR : rm.cells = 0 ∧ rm.slots = 0 ∧ rm.frames + 1 ≤ R.frames ∧ 8 + (maxL + 11) + rm.locals ≤ R.locals) (hn : As.length = n) (hls : ls.size = 4) (hst : st = As.reverse ++ .ref (x_h ad) :: rest) (hsm : (rest.map fun v => v.category).sum ≤ 8) (hcs : cells ≤ R.cells ∧ slots ≤ R.slots) (hdg : decode cL_law pc = .ok (.invokevirtual index, 3)) (hw : wp σ post) (kk : ∀ (r : Int32) (u : XS) (H : Heap) (locs : List Loc), post r u → l_W D ad am u μ s H locs → W p l e R s m #[Value.ref b] below meth c H locs cells slots Q (F0 m (pc + 3) ls (.int r :: rest))) : W p l e R s m #[Value.ref b] below meth c H locs cells slots Q (F0 m pc ls st) := by
  obtain ⟨hP, hD, hS0, hKx, hKm⟩ := Wd
  subst hst
  have hPc := hP.sub (ws' := x_w ad σ) [0, 1, 2, 3, 4] rfl
  have hDc := hD.sub (ws' := x_w ad σ) [0, 1, 2, 3, 4] (by decide) rfl
  have hFc := va_free (wc := x_w ad σ) hD hS0 l_hA [0, 1, 2, 3, 4] rfl
  have hc0 : cells + 0 ≤ R.cells ∧ slots + 0 ≤ R.slots := hcs
  refine va_calli (va_runV (As := As) (rest := rest) (b := x_h ad) ⟨C.1, C.2.1, C.2.2.1, C.2.2.2.1, C.2.2.2.2⟩ (hM σ H.size post hw) (cwV n C.2.2.2.2 hS.1 rfl hR.1 hR.2.1 hS.2 hR.2.2) ⟨fun a U g mk q => by obtain ⟨q0, q1, qP, qK, qD⟩ := q; exact ⟨q0, q1, qP, va_K.moved (u := U) (U := U.calling g mk a) (Vm.Alike.refl U.vm) qK, qD⟩, va_recv hKx hPc (ci := 0) (q0 := 0) rfl rfl, fun U hU hW => ⟨rfl, by rw [hU], by rw [hU]; exact hPc, va_K.moved hW.alike hKx, hDc.weaken (fun _ _ _ _ => trivial)⟩⟩ rfl hn hls rfl (lv_room hsm) hdg hc0) hS0 (fun q _ h => hFc q h) hFc (fun r u t H1 locs ht hvm hw hB hz1 hk1 hS => ?_)
  obtain ⟨hP1, hK1, hD1⟩ := hB
  rw [ht] at hP1
  obtain ⟨hP2, hD2⟩ := va_join (wr := m_w am μ) (w1 := x_w ad u) hP hD [0, 1, 2, 3, 4] [5, 6, 7, 8, 9, 10] rfl rfl (by decide) (by decide) hk1 hFc hP1 hD1
  exact kk r u H1 locs hw ⟨hP2.sub [6, 7, 8, 9, 10, 0, 1, 2, 3, 4, 5] rfl, hD2.sub [6, 7, 8, 9, 10, 0, 1, 2, 3, 4, 5] (by decide) rfl, hS, hKx, hKm⟩
theorem l_callm {p : Program} {l : Launch} {e : Env} {s : State} {m : MethodId} {below : List Frame} {meth : Method} {c : Code} {b : Nat} {D : va_G} {ad : XA} {am : MA} {σ : XS} {μ : MS} {H : Heap} {locs : List Loc} {R : Room} {cells slots pc : Nat} {ls : Array Slot} {rest : List Value} {Q : State → Prop} {y : MethodName} {bytes : ByteArray} {maxL n index : Nat} {rt : Option FieldType} {rm : Room} {As st : List Value} {wp : MS → (Int32 → MS → Prop) → Prop} {post : Int32 → MS → Prop} (C : l_C p s m c b) (Wd : l_W D ad am σ μ s H locs) (hM : m_Mi l D y bytes maxL rt rm am (.ref (m_h am) :: As) wp) (hS : m_Sv RL index y bytes maxL rt n) (hR : rm.cells = 0 ∧ rm.slots = 0 ∧ rm.frames + 1 ≤ R.frames ∧ 8 + (maxL + 11) + rm.locals ≤ R.locals) (hn : As.length = n) (hls : ls.size = 4) (hst : st = As.reverse ++ .ref (m_h am) :: rest) (hsm : (rest.map fun v => v.category).sum ≤ 8) (hcs : cells ≤ R.cells ∧ slots ≤ R.slots) (hdg : decode cL_law pc = .ok (.invokevirtual index, 3)) (hw : wp μ post) (kk : ∀ (r : Int32) (u : MS) (H : Heap) (locs : List Loc), post r u → l_W D ad am σ u s H locs → W p l e R s m #[Value.ref b] below meth c H locs cells slots Q (F0 m (pc + 3) ls (.int r :: rest))) : W p l e R s m #[Value.ref b] below meth c H locs cells slots Q (F0 m pc ls st) := by
  obtain ⟨hP, hD, hS0, hKx, hKm⟩ := Wd
  subst hst
  have hPc := hP.sub (ws' := m_w am μ) [5, 6, 7, 8, 9, 10] rfl
  have hDc := hD.sub (ws' := m_w am μ) [5, 6, 7, 8, 9, 10] (by decide) rfl
  have hFc := va_free (wc := m_w am μ) hD hS0 l_hA [5, 6, 7, 8, 9, 10] rfl
  have hc0 : cells + 0 ≤ R.cells ∧ slots + 0 ≤ R.slots := hcs
  refine va_calli (va_runV (As := As) (rest := rest) (b := m_h am) ⟨C.1, C.2.1, C.2.2.1, C.2.2.2.1, C.2.2.2.2⟩ (hM μ H.size post hw) (cwV n C.2.2.2.2 hS.1 rfl hR.1 hR.2.1 hS.2 hR.2.2) ⟨fun a U g mk q => by obtain ⟨q0, q1, qP, qK, qD⟩ := q; exact ⟨q0, q1, qP, va_K.moved (u := U) (U := U.calling g mk a) (Vm.Alike.refl U.vm) qK, qD⟩, va_recv hKm hPc (ci := 1) (q0 := 0) rfl rfl, fun U hU hW => ⟨rfl, by rw [hU], by rw [hU]; exact hPc, va_K.moved hW.alike hKm, hDc.weaken (fun _ _ _ _ => trivial)⟩⟩ rfl hn hls rfl (lv_room hsm) hdg hc0) hS0 (fun q _ h => hFc q h) hFc (fun r u t H1 locs ht hvm hw hB hz1 hk1 hS => ?_)
  obtain ⟨hP1, hK1, hD1⟩ := hB
  rw [ht] at hP1
  obtain ⟨hP2, hD2⟩ := va_join (wr := x_w ad σ) (w1 := m_w am u) hP hD [5, 6, 7, 8, 9, 10] [0, 1, 2, 3, 4] rfl rfl (by decide) (by decide) hk1 hFc hP1 hD1
  exact kk r u H1 locs hw ⟨hP2.sub [0, 1, 2, 3, 4, 5, 6, 7, 8, 9, 10] rfl, hD2.sub [0, 1, 2, 3, 4, 5, 6, 7, 8, 9, 10] (by decide) rfl, hS, hKx, hKm⟩
theorem sLX_malloc : x_Sv RL 21 yX0_malloc cX0_malloc 2 (some .int) 1 := ⟨gw_v (gm 95 rfl rfl) (gm 96 rfl rfl) (gm 97 rfl rfl) (gm 44 rfl rfl) (gm 98 rfl rfl), by decide +kernel⟩
theorem sLM_malloc : m_Sv RL 25 yX1_malloc cX1_malloc 3 (some .int) 1 := ⟨gw_v (gm 311 rfl rfl) (gm 312 rfl rfl) (gm 313 rfl rfl) (gm 47 rfl rfl) (gm 314 rfl rfl), by decide +kernel⟩
theorem sLX_calloc : x_Sv RL 26 yX0_calloc cX0_calloc 3 (some .int) 1 := ⟨gw_v (gm 163 rfl rfl) (gm 164 rfl rfl) (gm 165 rfl rfl) (gm 44 rfl rfl) (gm 166 rfl rfl), by decide +kernel⟩
theorem sLM_calloc : m_Sv RL 29 yX1_calloc cX1_calloc 5 (some .int) 1 := ⟨gw_v (gm 363 rfl rfl) (gm 364 rfl rfl) (gm 365 rfl rfl) (gm 47 rfl rfl) (gm 366 rfl rfl), by decide +kernel⟩
theorem sLX_free : x_Sv RL 30 yX0_free cX0_free 2 (some .boolean) 1 := ⟨gw_v (gm 180 rfl rfl) (gm 181 rfl rfl) (gm 182 rfl rfl) (gm 44 rfl rfl) (gm 183 rfl rfl), by decide +kernel⟩
theorem sLM_free : m_Sv RL 34 yX1_free cX1_free 3 (some .boolean) 1 := ⟨gw_v (gm 372 rfl rfl) (gm 373 rfl rfl) (gm 374 rfl rfl) (gm 47 rfl rfl) (gm 375 rfl rfl), by decide +kernel⟩
theorem sLX_realloc : x_Sv RL 35 yX0_realloc cX0_realloc 5 (some .int) 2 := ⟨gw_v (gm 196 rfl rfl) (gm 197 rfl rfl) (gm 198 rfl rfl) (gm 44 rfl rfl) (gm 199 rfl rfl), by decide +kernel⟩
theorem sLM_realloc : m_Sv RL 39 yX1_realloc cX1_realloc 5 (some .int) 2 := ⟨gw_v (gm 384 rfl rfl) (gm 385 rfl rfl) (gm 386 rfl rfl) (gm 47 rfl rfl) (gm 387 rfl rfl), by decide +kernel⟩
theorem sLX_align : x_Sv RL 40 yX0_align cX0_align 6 (some .int) 2 := ⟨gw_v (gm 215 rfl rfl) (gm 216 rfl rfl) (gm 217 rfl rfl) (gm 44 rfl rfl) (gm 218 rfl rfl), by decide +kernel⟩
theorem sLM_align : m_Sv RL 43 yX1_align cX1_align 7 (some .int) 2 := ⟨gw_v (gm 400 rfl rfl) (gm 401 rfl rfl) (gm 402 rfl rfl) (gm 47 rfl rfl) (gm 403 rfl rfl), by decide +kernel⟩
theorem sLX_trim : x_Sv RL 44 yX0_trim cX0_trim 5 (some .int) 1 := ⟨gw_v (gm 225 rfl rfl) (gm 226 rfl rfl) (gm 227 rfl rfl) (gm 44 rfl rfl) (gm 228 rfl rfl), by decide +kernel⟩
theorem sLM_trim : m_Sv RL 47 yX1_trim cX1_trim 4 (some .int) 1 := ⟨gw_v (gm 404 rfl rfl) (gm 405 rfl rfl) (gm 406 rfl rfl) (gm 47 rfl rfl) (gm 407 rfl rfl), by decide +kernel⟩
theorem sLX_usable : x_Sv RL 48 yX0_usable cX0_usable 2 (some .int) 1 := ⟨gw_v (gm 233 rfl rfl) (gm 177 rfl rfl) (gm 178 rfl rfl) (gm 44 rfl rfl) (gm 179 rfl rfl), by decide +kernel⟩
theorem sLM_usable : m_Sv RL 51 yX1_usable cX1_usable 3 (some .int) 1 := ⟨gw_v (gm 408 rfl rfl) (gm 409 rfl rfl) (gm 410 rfl rfl) (gm 47 rfl rfl) (gm 411 rfl rfl), by decide +kernel⟩
theorem sLX_read : x_Sv RL 52 yX0_read cX0_read 3 (some .int) 2 := ⟨gw_v (gm 234 rfl rfl) (gm 235 rfl rfl) (gm 236 rfl rfl) (gm 44 rfl rfl) (gm 237 rfl rfl), by decide +kernel⟩
theorem sLM_read : m_Sv RL 55 yX1_read cX1_read 3 (some .int) 2 := ⟨gw_v (gm 412 rfl rfl) (gm 413 rfl rfl) (gm 414 rfl rfl) (gm 47 rfl rfl) (gm 415 rfl rfl), by decide +kernel⟩
theorem sLX_write : x_Sv RL 56 yX0_write cX0_write 4 (some .boolean) 3 := ⟨gw_v (gm 242 rfl rfl) (gm 243 rfl rfl) (gm 244 rfl rfl) (gm 44 rfl rfl) (gm 245 rfl rfl), by decide +kernel⟩
theorem sLM_write : m_Sv RL 60 yX1_write cX1_write 4 (some .boolean) 3 := ⟨gw_v (gm 421 rfl rfl) (gm 422 rfl rfl) (gm 423 rfl rfl) (gm 47 rfl rfl) (gm 424 rfl rfl), by decide +kernel⟩
theorem sLX_size : x_Sv RL 61 yX0_size cX0_size 2 (some .int) 1 := ⟨gw_v (gm 246 rfl rfl) (gm 247 rfl rfl) (gm 248 rfl rfl) (gm 44 rfl rfl) (gm 249 rfl rfl), by decide +kernel⟩
theorem sLM_size : m_Sv RL 64 yX1_size cX1_size 3 (some .int) 1 := ⟨gw_v (gm 425 rfl rfl) (gm 426 rfl rfl) (gm 427 rfl rfl) (gm 47 rfl rfl) (gm 428 rfl rfl), by decide +kernel⟩
theorem sLX_state : x_Sv RL 65 yX0_state cX0_state 2 (some .int) 1 := ⟨gw_v (gm 250 rfl rfl) (gm 251 rfl rfl) (gm 252 rfl rfl) (gm 44 rfl rfl) (gm 253 rfl rfl), by decide +kernel⟩
theorem sLM_state : m_Sv RL 68 yX1_state cX1_state 3 (some .int) 1 := ⟨gw_v (gm 429 rfl rfl) (gm 430 rfl rfl) (gm 431 rfl rfl) (gm 47 rfl rfl) (gm 432 rfl rfl), by decide +kernel⟩
theorem sLX_count : x_Sv RL 69 yX0_count cX0_count 4 (some .int) 1 := ⟨gw_v (gm 254 rfl rfl) (gm 255 rfl rfl) (gm 256 rfl rfl) (gm 44 rfl rfl) (gm 257 rfl rfl), by decide +kernel⟩
theorem sLM_count : m_Sv RL 72 yX1_count cX1_count 6 (some .int) 1 := ⟨gw_v (gm 433 rfl rfl) (gm 434 rfl rfl) (gm 435 rfl rfl) (gm 47 rfl rfl) (gm 436 rfl rfl), by decide +kernel⟩
theorem sLX_end : x_Sv RL 73 yX0_end cX0_end 1 (some .int) 0 := ⟨gw_v (gm 262 rfl rfl) (gm 263 rfl rfl) (gm 264 rfl rfl) (gm 44 rfl rfl) (gm 265 rfl rfl), by decide +kernel⟩
theorem sLM_end : m_Sv RL 77 yX1_end cX1_end 1 (some .int) 0 := ⟨gw_v (gm 437 rfl rfl) (gm 438 rfl rfl) (gm 439 rfl rfl) (gm 47 rfl rfl) (gm 440 rfl rfl), by decide +kernel⟩
theorem sLX_total : x_Sv RL 78 yX0_total cX0_total 4 (some .int) 1 := ⟨gw_v (gm 266 rfl rfl) (gm 267 rfl rfl) (gm 268 rfl rfl) (gm 44 rfl rfl) (gm 269 rfl rfl), by decide +kernel⟩
theorem sLM_total : m_Sv RL 81 yX1_total cX1_total 4 (some .int) 1 := ⟨gw_v (gm 441 rfl rfl) (gm 442 rfl rfl) (gm 443 rfl rfl) (gm 47 rfl rfl) (gm 444 rfl rfl), by decide +kernel⟩
end
section
set_option maxHeartbeats 4000000 in
set_option maxRecDepth 100000 in
theorem bL_malloc {p : Program} {l : Launch} {e : Env} {s : State} {m : MethodId} {below : List Frame} {meth : Method} {c : Code} {b L : Nat} {xs : Nat → Int32} {D : va_G} {ad : XA} {am : MA} {n k j : Nat} {Q : State → Prop} (C : l_C p s m c b) (hX : va_X b L xs s s.heap) (hbl : b < s.heap.size) {Rel : Nat → Nat → XS → MS → Prop} (hs : SimOK Rel) (hk : k < 512) (en : x_n ad = n) (el : x_lim ad = nI n) (em : m_lim am = nI n) (h1 : vp_in (nI j + 1) L) (h2 : vp_in (nI j + 2) L) (h3 : vp_in (nI j + 3) L) (ih : ∀ (σ : XS) (μ : MS) (H : Heap) (locs : List Loc) (ls : Array Slot), Rel n (k + 1) σ μ → l_W D ad am σ μ s H locs → lv_has ls 4 [(0, .ref b), (1, .ref (x_h ad)), (2, .ref (m_h am)), (3, .int (nI j))] → W p l e room_1 s m #[Value.ref b] below meth c H locs 11 3611 Q (F0 m 474 ls [])) {σ : XS} {μ : MS} {H : Heap} {locs : List Loc} {ls : Array Slot} (hr : Rel n k σ μ) (Wd : l_W D ad am σ μ s H locs) (hl : lv_has ls 4 [(0, .ref b), (1, .ref (x_h ad)), (2, .ref (m_h am)), (3, .int (nI j))]) : W p l e room_1 s m #[Value.ref b] below meth c H locs 11 3611 Q (F0 m 112 ls []) := by
  obtain ⟨hx, hb, hml, hown, hts⟩ := id C
  have hbA : ¬ l_A s b := Nat.not_le.mpr hbl
  refine lv_aload_n hx hb dL_law_112 rfl (lv_at hl 1 rfl) ?_
  refine lv_aload_n hx hb dL_law_113 rfl (lv_at hl 0 rfl) ?_
  refine lv_iload_n hx hb dL_law_114 rfl (lv_at hl 3 rfl) ?_
  refine lv_iconst (v := 1) hx hb dL_law_115 (by decide) ?_
  refine lv_iadd hx hb dL_law_116 ?_
  refine va_sld hx hb hX hbl hbA Wd.2.2.1 h1 dL_law_117 ?_
  have hf : wX_malloc (x_n ad) (x_lim ad) σ (xs (nI j + 1).toNatClampNeg) (fun r σ1 => wM_malloc (m_lim am) μ (xs (nI j + 1).toNatClampNeg) (fun r1 μ1 => r = r1 ∧ Rel n (k + 1) σ1 μ1)) := by rw [en, el, em]; exact hs.2.1 n k σ μ (xs (nI j + 1).toNatClampNeg) hk hr
  refine l_callx (As := [.int (xs (nI j + 1).toNatClampNeg)]) (rest := []) C Wd (cX_malloc l D ad (xs (nI j + 1).toNatClampNeg)) sLX_malloc (by decide) rfl hl.1 rfl (Nat.le_of_ble_eq_true rfl) (by decide) dL_law_118 hf (fun r σ H locs hf Wd => ?_)
  refine lv_aload_n hx hb dL_law_121 rfl (lv_at hl 2 rfl) ?_
  refine lv_aload_n hx hb dL_law_122 rfl (lv_at hl 0 rfl) ?_
  refine lv_iload_n hx hb dL_law_123 rfl (lv_at hl 3 rfl) ?_
  refine lv_iconst (v := 1) hx hb dL_law_124 (by decide) ?_
  refine lv_iadd hx hb dL_law_125 ?_
  refine va_sld hx hb hX hbl hbA Wd.2.2.1 h1 dL_law_126 ?_
  refine l_callm (As := [.int (xs (nI j + 1).toNatClampNeg)]) (rest := [.int r]) C Wd (cM_malloc l D am (xs (nI j + 1).toNatClampNeg)) sLM_malloc (by decide) rfl hl.1 rfl (Nat.le_of_ble_eq_true rfl) (by decide) dL_law_127 hf (fun r1 μ H locs hf Wd => ?_)
  refine lv_icmp_eq (tgt := 474) hx hb dL_law_130 (by decide) (fun hc => ?_) (fun hc => absurd hf.1 hc)
  exact ih σ μ H locs ls hf.2 Wd hl
set_option maxHeartbeats 4000000 in
set_option maxRecDepth 100000 in
theorem bL_calloc {p : Program} {l : Launch} {e : Env} {s : State} {m : MethodId} {below : List Frame} {meth : Method} {c : Code} {b L : Nat} {xs : Nat → Int32} {D : va_G} {ad : XA} {am : MA} {n k j : Nat} {Q : State → Prop} (C : l_C p s m c b) (hX : va_X b L xs s s.heap) (hbl : b < s.heap.size) {Rel : Nat → Nat → XS → MS → Prop} (hs : SimOK Rel) (hk : k < 512) (en : x_n ad = n) (el : x_lim ad = nI n) (em : m_lim am = nI n) (h1 : vp_in (nI j + 1) L) (h2 : vp_in (nI j + 2) L) (h3 : vp_in (nI j + 3) L) (ih : ∀ (σ : XS) (μ : MS) (H : Heap) (locs : List Loc) (ls : Array Slot), Rel n (k + 1) σ μ → l_W D ad am σ μ s H locs → lv_has ls 4 [(0, .ref b), (1, .ref (x_h ad)), (2, .ref (m_h am)), (3, .int (nI j))] → W p l e room_1 s m #[Value.ref b] below meth c H locs 11 3611 Q (F0 m 474 ls [])) {σ : XS} {μ : MS} {H : Heap} {locs : List Loc} {ls : Array Slot} (hr : Rel n k σ μ) (Wd : l_W D ad am σ μ s H locs) (hl : lv_has ls 4 [(0, .ref b), (1, .ref (x_h ad)), (2, .ref (m_h am)), (3, .int (nI j))]) : W p l e room_1 s m #[Value.ref b] below meth c H locs 11 3611 Q (F0 m 135 ls []) := by
  obtain ⟨hx, hb, hml, hown, hts⟩ := id C
  have hbA : ¬ l_A s b := Nat.not_le.mpr hbl
  refine lv_aload_n hx hb dL_law_135 rfl (lv_at hl 1 rfl) ?_
  refine lv_aload_n hx hb dL_law_136 rfl (lv_at hl 0 rfl) ?_
  refine lv_iload_n hx hb dL_law_137 rfl (lv_at hl 3 rfl) ?_
  refine lv_iconst (v := 1) hx hb dL_law_138 (by decide) ?_
  refine lv_iadd hx hb dL_law_139 ?_
  refine va_sld hx hb hX hbl hbA Wd.2.2.1 h1 dL_law_140 ?_
  have hf : wX_calloc (x_n ad) (x_lim ad) σ (xs (nI j + 1).toNatClampNeg) (fun r σ1 => wM_calloc (m_lim am) μ (xs (nI j + 1).toNatClampNeg) (fun r1 μ1 => r = r1 ∧ Rel n (k + 1) σ1 μ1)) := by rw [en, el, em]; exact hs.2.2.1 n k σ μ (xs (nI j + 1).toNatClampNeg) hk hr
  refine l_callx (As := [.int (xs (nI j + 1).toNatClampNeg)]) (rest := []) C Wd (cX_calloc l D ad (xs (nI j + 1).toNatClampNeg)) sLX_calloc (by decide) rfl hl.1 rfl (Nat.le_of_ble_eq_true rfl) (by decide) dL_law_141 hf (fun r σ H locs hf Wd => ?_)
  refine lv_aload_n hx hb dL_law_144 rfl (lv_at hl 2 rfl) ?_
  refine lv_aload_n hx hb dL_law_145 rfl (lv_at hl 0 rfl) ?_
  refine lv_iload_n hx hb dL_law_146 rfl (lv_at hl 3 rfl) ?_
  refine lv_iconst (v := 1) hx hb dL_law_147 (by decide) ?_
  refine lv_iadd hx hb dL_law_148 ?_
  refine va_sld hx hb hX hbl hbA Wd.2.2.1 h1 dL_law_149 ?_
  refine l_callm (As := [.int (xs (nI j + 1).toNatClampNeg)]) (rest := [.int r]) C Wd (cM_calloc l D am (xs (nI j + 1).toNatClampNeg)) sLM_calloc (by decide) rfl hl.1 rfl (Nat.le_of_ble_eq_true rfl) (by decide) dL_law_150 hf (fun r1 μ H locs hf Wd => ?_)
  refine lv_icmp_eq (tgt := 474) hx hb dL_law_153 (by decide) (fun hc => ?_) (fun hc => absurd hf.1 hc)
  exact ih σ μ H locs ls hf.2 Wd hl
set_option maxHeartbeats 4000000 in
set_option maxRecDepth 100000 in
theorem bL_free {p : Program} {l : Launch} {e : Env} {s : State} {m : MethodId} {below : List Frame} {meth : Method} {c : Code} {b L : Nat} {xs : Nat → Int32} {D : va_G} {ad : XA} {am : MA} {n k j : Nat} {Q : State → Prop} (C : l_C p s m c b) (hX : va_X b L xs s s.heap) (hbl : b < s.heap.size) {Rel : Nat → Nat → XS → MS → Prop} (hs : SimOK Rel) (hk : k < 512) (en : x_n ad = n) (el : x_lim ad = nI n) (em : m_lim am = nI n) (h1 : vp_in (nI j + 1) L) (h2 : vp_in (nI j + 2) L) (h3 : vp_in (nI j + 3) L) (ih : ∀ (σ : XS) (μ : MS) (H : Heap) (locs : List Loc) (ls : Array Slot), Rel n (k + 1) σ μ → l_W D ad am σ μ s H locs → lv_has ls 4 [(0, .ref b), (1, .ref (x_h ad)), (2, .ref (m_h am)), (3, .int (nI j))] → W p l e room_1 s m #[Value.ref b] below meth c H locs 11 3611 Q (F0 m 474 ls [])) {σ : XS} {μ : MS} {H : Heap} {locs : List Loc} {ls : Array Slot} (hr : Rel n k σ μ) (Wd : l_W D ad am σ μ s H locs) (hl : lv_has ls 4 [(0, .ref b), (1, .ref (x_h ad)), (2, .ref (m_h am)), (3, .int (nI j))]) : W p l e room_1 s m #[Value.ref b] below meth c H locs 11 3611 Q (F0 m 158 ls []) := by
  obtain ⟨hx, hb, hml, hown, hts⟩ := id C
  have hbA : ¬ l_A s b := Nat.not_le.mpr hbl
  refine lv_aload_n hx hb dL_law_158 rfl (lv_at hl 1 rfl) ?_
  refine lv_aload_n hx hb dL_law_159 rfl (lv_at hl 0 rfl) ?_
  refine lv_iload_n hx hb dL_law_160 rfl (lv_at hl 3 rfl) ?_
  refine lv_iconst (v := 1) hx hb dL_law_161 (by decide) ?_
  refine lv_iadd hx hb dL_law_162 ?_
  refine va_sld hx hb hX hbl hbA Wd.2.2.1 h1 dL_law_163 ?_
  have hf : wX_free (x_n ad) (x_lim ad) σ (xs (nI j + 1).toNatClampNeg) (fun r σ1 => wM_free (m_lim am) μ (xs (nI j + 1).toNatClampNeg) (fun r1 μ1 => r = r1 ∧ Rel n (k + 1) σ1 μ1)) := by rw [en, el, em]; exact hs.2.2.2.1 n k σ μ (xs (nI j + 1).toNatClampNeg) hk hr
  refine l_callx (As := [.int (xs (nI j + 1).toNatClampNeg)]) (rest := []) C Wd (cX_free l D ad (xs (nI j + 1).toNatClampNeg)) sLX_free (by decide) rfl hl.1 rfl (Nat.le_of_ble_eq_true rfl) (by decide) dL_law_164 hf (fun r σ H locs hf Wd => ?_)
  refine lv_aload_n hx hb dL_law_167 rfl (lv_at hl 2 rfl) ?_
  refine lv_aload_n hx hb dL_law_168 rfl (lv_at hl 0 rfl) ?_
  refine lv_iload_n hx hb dL_law_169 rfl (lv_at hl 3 rfl) ?_
  refine lv_iconst (v := 1) hx hb dL_law_170 (by decide) ?_
  refine lv_iadd hx hb dL_law_171 ?_
  refine va_sld hx hb hX hbl hbA Wd.2.2.1 h1 dL_law_172 ?_
  refine l_callm (As := [.int (xs (nI j + 1).toNatClampNeg)]) (rest := [.int r]) C Wd (cM_free l D am (xs (nI j + 1).toNatClampNeg)) sLM_free (by decide) rfl hl.1 rfl (Nat.le_of_ble_eq_true rfl) (by decide) dL_law_173 hf (fun r1 μ H locs hf Wd => ?_)
  refine lv_icmp_eq (tgt := 474) hx hb dL_law_176 (by decide) (fun hc => ?_) (fun hc => absurd hf.1 hc)
  exact ih σ μ H locs ls hf.2 Wd hl
set_option maxHeartbeats 4000000 in
set_option maxRecDepth 100000 in
theorem bL_realloc {p : Program} {l : Launch} {e : Env} {s : State} {m : MethodId} {below : List Frame} {meth : Method} {c : Code} {b L : Nat} {xs : Nat → Int32} {D : va_G} {ad : XA} {am : MA} {n k j : Nat} {Q : State → Prop} (C : l_C p s m c b) (hX : va_X b L xs s s.heap) (hbl : b < s.heap.size) {Rel : Nat → Nat → XS → MS → Prop} (hs : SimOK Rel) (hk : k < 512) (en : x_n ad = n) (el : x_lim ad = nI n) (em : m_lim am = nI n) (h1 : vp_in (nI j + 1) L) (h2 : vp_in (nI j + 2) L) (h3 : vp_in (nI j + 3) L) (ih : ∀ (σ : XS) (μ : MS) (H : Heap) (locs : List Loc) (ls : Array Slot), Rel n (k + 1) σ μ → l_W D ad am σ μ s H locs → lv_has ls 4 [(0, .ref b), (1, .ref (x_h ad)), (2, .ref (m_h am)), (3, .int (nI j))] → W p l e room_1 s m #[Value.ref b] below meth c H locs 11 3611 Q (F0 m 474 ls [])) {σ : XS} {μ : MS} {H : Heap} {locs : List Loc} {ls : Array Slot} (hr : Rel n k σ μ) (Wd : l_W D ad am σ μ s H locs) (hl : lv_has ls 4 [(0, .ref b), (1, .ref (x_h ad)), (2, .ref (m_h am)), (3, .int (nI j))]) : W p l e room_1 s m #[Value.ref b] below meth c H locs 11 3611 Q (F0 m 181 ls []) := by
  obtain ⟨hx, hb, hml, hown, hts⟩ := id C
  have hbA : ¬ l_A s b := Nat.not_le.mpr hbl
  refine lv_aload_n hx hb dL_law_181 rfl (lv_at hl 1 rfl) ?_
  refine lv_aload_n hx hb dL_law_182 rfl (lv_at hl 0 rfl) ?_
  refine lv_iload_n hx hb dL_law_183 rfl (lv_at hl 3 rfl) ?_
  refine lv_iconst (v := 1) hx hb dL_law_184 (by decide) ?_
  refine lv_iadd hx hb dL_law_185 ?_
  refine va_sld hx hb hX hbl hbA Wd.2.2.1 h1 dL_law_186 ?_
  refine lv_aload_n hx hb dL_law_187 rfl (lv_at hl 0 rfl) ?_
  refine lv_iload_n hx hb dL_law_188 rfl (lv_at hl 3 rfl) ?_
  refine lv_iconst (v := 2) hx hb dL_law_189 (by decide) ?_
  refine lv_iadd hx hb dL_law_190 ?_
  refine va_sld hx hb hX hbl hbA Wd.2.2.1 h2 dL_law_191 ?_
  have hf : wX_realloc (x_n ad) (x_lim ad) σ (xs (nI j + 1).toNatClampNeg) (xs (nI j + 2).toNatClampNeg) (fun r σ1 => wM_realloc (m_lim am) μ (xs (nI j + 1).toNatClampNeg) (xs (nI j + 2).toNatClampNeg) (fun r1 μ1 => r = r1 ∧ Rel n (k + 1) σ1 μ1)) := by rw [en, el, em]; exact hs.2.2.2.2.1 n k σ μ (xs (nI j + 1).toNatClampNeg) (xs (nI j + 2).toNatClampNeg) hk hr
  refine l_callx (As := [.int (xs (nI j + 1).toNatClampNeg), .int (xs (nI j + 2).toNatClampNeg)]) (rest := []) C Wd (cX_realloc l D ad (xs (nI j + 1).toNatClampNeg) (xs (nI j + 2).toNatClampNeg)) sLX_realloc (by decide) rfl hl.1 rfl (Nat.le_of_ble_eq_true rfl) (by decide) dL_law_192 hf (fun r σ H locs hf Wd => ?_)
  refine lv_aload_n hx hb dL_law_195 rfl (lv_at hl 2 rfl) ?_
  refine lv_aload_n hx hb dL_law_196 rfl (lv_at hl 0 rfl) ?_
  refine lv_iload_n hx hb dL_law_197 rfl (lv_at hl 3 rfl) ?_
  refine lv_iconst (v := 1) hx hb dL_law_198 (by decide) ?_
  refine lv_iadd hx hb dL_law_199 ?_
  refine va_sld hx hb hX hbl hbA Wd.2.2.1 h1 dL_law_200 ?_
  refine lv_aload_n hx hb dL_law_201 rfl (lv_at hl 0 rfl) ?_
  refine lv_iload_n hx hb dL_law_202 rfl (lv_at hl 3 rfl) ?_
  refine lv_iconst (v := 2) hx hb dL_law_203 (by decide) ?_
  refine lv_iadd hx hb dL_law_204 ?_
  refine va_sld hx hb hX hbl hbA Wd.2.2.1 h2 dL_law_205 ?_
  refine l_callm (As := [.int (xs (nI j + 1).toNatClampNeg), .int (xs (nI j + 2).toNatClampNeg)]) (rest := [.int r]) C Wd (cM_realloc l D am (xs (nI j + 1).toNatClampNeg) (xs (nI j + 2).toNatClampNeg)) sLM_realloc (by decide) rfl hl.1 rfl (Nat.le_of_ble_eq_true rfl) (by decide) dL_law_206 hf (fun r1 μ H locs hf Wd => ?_)
  refine lv_icmp_eq (tgt := 474) hx hb dL_law_209 (by decide) (fun hc => ?_) (fun hc => absurd hf.1 hc)
  exact ih σ μ H locs ls hf.2 Wd hl
set_option maxHeartbeats 4000000 in
set_option maxRecDepth 100000 in
theorem bL_align {p : Program} {l : Launch} {e : Env} {s : State} {m : MethodId} {below : List Frame} {meth : Method} {c : Code} {b L : Nat} {xs : Nat → Int32} {D : va_G} {ad : XA} {am : MA} {n k j : Nat} {Q : State → Prop} (C : l_C p s m c b) (hX : va_X b L xs s s.heap) (hbl : b < s.heap.size) {Rel : Nat → Nat → XS → MS → Prop} (hs : SimOK Rel) (hk : k < 512) (en : x_n ad = n) (el : x_lim ad = nI n) (em : m_lim am = nI n) (h1 : vp_in (nI j + 1) L) (h2 : vp_in (nI j + 2) L) (h3 : vp_in (nI j + 3) L) (ih : ∀ (σ : XS) (μ : MS) (H : Heap) (locs : List Loc) (ls : Array Slot), Rel n (k + 1) σ μ → l_W D ad am σ μ s H locs → lv_has ls 4 [(0, .ref b), (1, .ref (x_h ad)), (2, .ref (m_h am)), (3, .int (nI j))] → W p l e room_1 s m #[Value.ref b] below meth c H locs 11 3611 Q (F0 m 474 ls [])) {σ : XS} {μ : MS} {H : Heap} {locs : List Loc} {ls : Array Slot} (hr : Rel n k σ μ) (Wd : l_W D ad am σ μ s H locs) (hl : lv_has ls 4 [(0, .ref b), (1, .ref (x_h ad)), (2, .ref (m_h am)), (3, .int (nI j))]) : W p l e room_1 s m #[Value.ref b] below meth c H locs 11 3611 Q (F0 m 214 ls []) := by
  obtain ⟨hx, hb, hml, hown, hts⟩ := id C
  have hbA : ¬ l_A s b := Nat.not_le.mpr hbl
  refine lv_aload_n hx hb dL_law_214 rfl (lv_at hl 1 rfl) ?_
  refine lv_aload_n hx hb dL_law_215 rfl (lv_at hl 0 rfl) ?_
  refine lv_iload_n hx hb dL_law_216 rfl (lv_at hl 3 rfl) ?_
  refine lv_iconst (v := 1) hx hb dL_law_217 (by decide) ?_
  refine lv_iadd hx hb dL_law_218 ?_
  refine va_sld hx hb hX hbl hbA Wd.2.2.1 h1 dL_law_219 ?_
  refine lv_aload_n hx hb dL_law_220 rfl (lv_at hl 0 rfl) ?_
  refine lv_iload_n hx hb dL_law_221 rfl (lv_at hl 3 rfl) ?_
  refine lv_iconst (v := 2) hx hb dL_law_222 (by decide) ?_
  refine lv_iadd hx hb dL_law_223 ?_
  refine va_sld hx hb hX hbl hbA Wd.2.2.1 h2 dL_law_224 ?_
  have hf : wX_align (x_n ad) (x_lim ad) σ (xs (nI j + 1).toNatClampNeg) (xs (nI j + 2).toNatClampNeg) (fun r σ1 => wM_align (m_lim am) μ (xs (nI j + 1).toNatClampNeg) (xs (nI j + 2).toNatClampNeg) (fun r1 μ1 => r = r1 ∧ Rel n (k + 1) σ1 μ1)) := by rw [en, el, em]; exact hs.2.2.2.2.2.1 n k σ μ (xs (nI j + 1).toNatClampNeg) (xs (nI j + 2).toNatClampNeg) hk hr
  refine l_callx (As := [.int (xs (nI j + 1).toNatClampNeg), .int (xs (nI j + 2).toNatClampNeg)]) (rest := []) C Wd (cX_align l D ad (xs (nI j + 1).toNatClampNeg) (xs (nI j + 2).toNatClampNeg)) sLX_align (by decide) rfl hl.1 rfl (Nat.le_of_ble_eq_true rfl) (by decide) dL_law_225 hf (fun r σ H locs hf Wd => ?_)
  refine lv_aload_n hx hb dL_law_228 rfl (lv_at hl 2 rfl) ?_
  refine lv_aload_n hx hb dL_law_229 rfl (lv_at hl 0 rfl) ?_
  refine lv_iload_n hx hb dL_law_230 rfl (lv_at hl 3 rfl) ?_
  refine lv_iconst (v := 1) hx hb dL_law_231 (by decide) ?_
  refine lv_iadd hx hb dL_law_232 ?_
  refine va_sld hx hb hX hbl hbA Wd.2.2.1 h1 dL_law_233 ?_
  refine lv_aload_n hx hb dL_law_234 rfl (lv_at hl 0 rfl) ?_
  refine lv_iload_n hx hb dL_law_235 rfl (lv_at hl 3 rfl) ?_
  refine lv_iconst (v := 2) hx hb dL_law_236 (by decide) ?_
  refine lv_iadd hx hb dL_law_237 ?_
  refine va_sld hx hb hX hbl hbA Wd.2.2.1 h2 dL_law_238 ?_
  refine l_callm (As := [.int (xs (nI j + 1).toNatClampNeg), .int (xs (nI j + 2).toNatClampNeg)]) (rest := [.int r]) C Wd (cM_align l D am (xs (nI j + 1).toNatClampNeg) (xs (nI j + 2).toNatClampNeg)) sLM_align (by decide) rfl hl.1 rfl (Nat.le_of_ble_eq_true rfl) (by decide) dL_law_239 hf (fun r1 μ H locs hf Wd => ?_)
  refine lv_icmp_eq (tgt := 474) hx hb dL_law_242 (by decide) (fun hc => ?_) (fun hc => absurd hf.1 hc)
  exact ih σ μ H locs ls hf.2 Wd hl
set_option maxHeartbeats 4000000 in
set_option maxRecDepth 100000 in
theorem bL_trim {p : Program} {l : Launch} {e : Env} {s : State} {m : MethodId} {below : List Frame} {meth : Method} {c : Code} {b L : Nat} {xs : Nat → Int32} {D : va_G} {ad : XA} {am : MA} {n k j : Nat} {Q : State → Prop} (C : l_C p s m c b) (hX : va_X b L xs s s.heap) (hbl : b < s.heap.size) {Rel : Nat → Nat → XS → MS → Prop} (hs : SimOK Rel) (hk : k < 512) (en : x_n ad = n) (el : x_lim ad = nI n) (em : m_lim am = nI n) (h1 : vp_in (nI j + 1) L) (h2 : vp_in (nI j + 2) L) (h3 : vp_in (nI j + 3) L) (ih : ∀ (σ : XS) (μ : MS) (H : Heap) (locs : List Loc) (ls : Array Slot), Rel n (k + 1) σ μ → l_W D ad am σ μ s H locs → lv_has ls 4 [(0, .ref b), (1, .ref (x_h ad)), (2, .ref (m_h am)), (3, .int (nI j))] → W p l e room_1 s m #[Value.ref b] below meth c H locs 11 3611 Q (F0 m 474 ls [])) {σ : XS} {μ : MS} {H : Heap} {locs : List Loc} {ls : Array Slot} (hr : Rel n k σ μ) (Wd : l_W D ad am σ μ s H locs) (hl : lv_has ls 4 [(0, .ref b), (1, .ref (x_h ad)), (2, .ref (m_h am)), (3, .int (nI j))]) : W p l e room_1 s m #[Value.ref b] below meth c H locs 11 3611 Q (F0 m 247 ls []) := by
  obtain ⟨hx, hb, hml, hown, hts⟩ := id C
  have hbA : ¬ l_A s b := Nat.not_le.mpr hbl
  refine lv_aload_n hx hb dL_law_247 rfl (lv_at hl 1 rfl) ?_
  refine lv_aload_n hx hb dL_law_248 rfl (lv_at hl 0 rfl) ?_
  refine lv_iload_n hx hb dL_law_249 rfl (lv_at hl 3 rfl) ?_
  refine lv_iconst (v := 1) hx hb dL_law_250 (by decide) ?_
  refine lv_iadd hx hb dL_law_251 ?_
  refine va_sld hx hb hX hbl hbA Wd.2.2.1 h1 dL_law_252 ?_
  have hf : wX_trim (x_n ad) (x_lim ad) σ (xs (nI j + 1).toNatClampNeg) (fun r σ1 => wM_trim (m_lim am) μ (xs (nI j + 1).toNatClampNeg) (fun r1 μ1 => r = r1 ∧ Rel n (k + 1) σ1 μ1)) := by rw [en, el, em]; exact hs.2.2.2.2.2.2.1 n k σ μ (xs (nI j + 1).toNatClampNeg) hk hr
  refine l_callx (As := [.int (xs (nI j + 1).toNatClampNeg)]) (rest := []) C Wd (cX_trim l D ad (xs (nI j + 1).toNatClampNeg)) sLX_trim (by decide) rfl hl.1 rfl (Nat.le_of_ble_eq_true rfl) (by decide) dL_law_253 hf (fun r σ H locs hf Wd => ?_)
  refine lv_aload_n hx hb dL_law_256 rfl (lv_at hl 2 rfl) ?_
  refine lv_aload_n hx hb dL_law_257 rfl (lv_at hl 0 rfl) ?_
  refine lv_iload_n hx hb dL_law_258 rfl (lv_at hl 3 rfl) ?_
  refine lv_iconst (v := 1) hx hb dL_law_259 (by decide) ?_
  refine lv_iadd hx hb dL_law_260 ?_
  refine va_sld hx hb hX hbl hbA Wd.2.2.1 h1 dL_law_261 ?_
  refine l_callm (As := [.int (xs (nI j + 1).toNatClampNeg)]) (rest := [.int r]) C Wd (cM_trim l D am (xs (nI j + 1).toNatClampNeg)) sLM_trim (by decide) rfl hl.1 rfl (Nat.le_of_ble_eq_true rfl) (by decide) dL_law_262 hf (fun r1 μ H locs hf Wd => ?_)
  refine lv_icmp_eq (tgt := 474) hx hb dL_law_265 (by decide) (fun hc => ?_) (fun hc => absurd hf.1 hc)
  exact ih σ μ H locs ls hf.2 Wd hl
set_option maxHeartbeats 4000000 in
set_option maxRecDepth 100000 in
theorem bL_usable {p : Program} {l : Launch} {e : Env} {s : State} {m : MethodId} {below : List Frame} {meth : Method} {c : Code} {b L : Nat} {xs : Nat → Int32} {D : va_G} {ad : XA} {am : MA} {n k j : Nat} {Q : State → Prop} (C : l_C p s m c b) (hX : va_X b L xs s s.heap) (hbl : b < s.heap.size) {Rel : Nat → Nat → XS → MS → Prop} (hs : SimOK Rel) (hk : k < 512) (en : x_n ad = n) (el : x_lim ad = nI n) (em : m_lim am = nI n) (h1 : vp_in (nI j + 1) L) (h2 : vp_in (nI j + 2) L) (h3 : vp_in (nI j + 3) L) (ih : ∀ (σ : XS) (μ : MS) (H : Heap) (locs : List Loc) (ls : Array Slot), Rel n (k + 1) σ μ → l_W D ad am σ μ s H locs → lv_has ls 4 [(0, .ref b), (1, .ref (x_h ad)), (2, .ref (m_h am)), (3, .int (nI j))] → W p l e room_1 s m #[Value.ref b] below meth c H locs 11 3611 Q (F0 m 474 ls [])) {σ : XS} {μ : MS} {H : Heap} {locs : List Loc} {ls : Array Slot} (hr : Rel n k σ μ) (Wd : l_W D ad am σ μ s H locs) (hl : lv_has ls 4 [(0, .ref b), (1, .ref (x_h ad)), (2, .ref (m_h am)), (3, .int (nI j))]) : W p l e room_1 s m #[Value.ref b] below meth c H locs 11 3611 Q (F0 m 270 ls []) := by
  obtain ⟨hx, hb, hml, hown, hts⟩ := id C
  have hbA : ¬ l_A s b := Nat.not_le.mpr hbl
  refine lv_aload_n hx hb dL_law_270 rfl (lv_at hl 1 rfl) ?_
  refine lv_aload_n hx hb dL_law_271 rfl (lv_at hl 0 rfl) ?_
  refine lv_iload_n hx hb dL_law_272 rfl (lv_at hl 3 rfl) ?_
  refine lv_iconst (v := 1) hx hb dL_law_273 (by decide) ?_
  refine lv_iadd hx hb dL_law_274 ?_
  refine va_sld hx hb hX hbl hbA Wd.2.2.1 h1 dL_law_275 ?_
  have hf : wX_usable (x_n ad) (x_lim ad) σ (xs (nI j + 1).toNatClampNeg) (fun r σ1 => wM_usable (m_lim am) μ (xs (nI j + 1).toNatClampNeg) (fun r1 μ1 => r = r1 ∧ Rel n (k + 1) σ1 μ1)) := by rw [en, el, em]; exact hs.2.2.2.2.2.2.2.1 n k σ μ (xs (nI j + 1).toNatClampNeg) hk hr
  refine l_callx (As := [.int (xs (nI j + 1).toNatClampNeg)]) (rest := []) C Wd (cX_usable l D ad (xs (nI j + 1).toNatClampNeg)) sLX_usable (by decide) rfl hl.1 rfl (Nat.le_of_ble_eq_true rfl) (by decide) dL_law_276 hf (fun r σ H locs hf Wd => ?_)
  refine lv_aload_n hx hb dL_law_279 rfl (lv_at hl 2 rfl) ?_
  refine lv_aload_n hx hb dL_law_280 rfl (lv_at hl 0 rfl) ?_
  refine lv_iload_n hx hb dL_law_281 rfl (lv_at hl 3 rfl) ?_
  refine lv_iconst (v := 1) hx hb dL_law_282 (by decide) ?_
  refine lv_iadd hx hb dL_law_283 ?_
  refine va_sld hx hb hX hbl hbA Wd.2.2.1 h1 dL_law_284 ?_
  refine l_callm (As := [.int (xs (nI j + 1).toNatClampNeg)]) (rest := [.int r]) C Wd (cM_usable l D am (xs (nI j + 1).toNatClampNeg)) sLM_usable (by decide) rfl hl.1 rfl (Nat.le_of_ble_eq_true rfl) (by decide) dL_law_285 hf (fun r1 μ H locs hf Wd => ?_)
  refine lv_icmp_eq (tgt := 474) hx hb dL_law_288 (by decide) (fun hc => ?_) (fun hc => absurd hf.1 hc)
  exact ih σ μ H locs ls hf.2 Wd hl
set_option maxHeartbeats 4000000 in
set_option maxRecDepth 100000 in
theorem bL_read {p : Program} {l : Launch} {e : Env} {s : State} {m : MethodId} {below : List Frame} {meth : Method} {c : Code} {b L : Nat} {xs : Nat → Int32} {D : va_G} {ad : XA} {am : MA} {n k j : Nat} {Q : State → Prop} (C : l_C p s m c b) (hX : va_X b L xs s s.heap) (hbl : b < s.heap.size) {Rel : Nat → Nat → XS → MS → Prop} (hs : SimOK Rel) (hk : k < 512) (en : x_n ad = n) (el : x_lim ad = nI n) (em : m_lim am = nI n) (h1 : vp_in (nI j + 1) L) (h2 : vp_in (nI j + 2) L) (h3 : vp_in (nI j + 3) L) (ih : ∀ (σ : XS) (μ : MS) (H : Heap) (locs : List Loc) (ls : Array Slot), Rel n (k + 1) σ μ → l_W D ad am σ μ s H locs → lv_has ls 4 [(0, .ref b), (1, .ref (x_h ad)), (2, .ref (m_h am)), (3, .int (nI j))] → W p l e room_1 s m #[Value.ref b] below meth c H locs 11 3611 Q (F0 m 474 ls [])) {σ : XS} {μ : MS} {H : Heap} {locs : List Loc} {ls : Array Slot} (hr : Rel n k σ μ) (Wd : l_W D ad am σ μ s H locs) (hl : lv_has ls 4 [(0, .ref b), (1, .ref (x_h ad)), (2, .ref (m_h am)), (3, .int (nI j))]) : W p l e room_1 s m #[Value.ref b] below meth c H locs 11 3611 Q (F0 m 293 ls []) := by
  obtain ⟨hx, hb, hml, hown, hts⟩ := id C
  have hbA : ¬ l_A s b := Nat.not_le.mpr hbl
  refine lv_aload_n hx hb dL_law_293 rfl (lv_at hl 1 rfl) ?_
  refine lv_aload_n hx hb dL_law_294 rfl (lv_at hl 0 rfl) ?_
  refine lv_iload_n hx hb dL_law_295 rfl (lv_at hl 3 rfl) ?_
  refine lv_iconst (v := 1) hx hb dL_law_296 (by decide) ?_
  refine lv_iadd hx hb dL_law_297 ?_
  refine va_sld hx hb hX hbl hbA Wd.2.2.1 h1 dL_law_298 ?_
  refine lv_aload_n hx hb dL_law_299 rfl (lv_at hl 0 rfl) ?_
  refine lv_iload_n hx hb dL_law_300 rfl (lv_at hl 3 rfl) ?_
  refine lv_iconst (v := 2) hx hb dL_law_301 (by decide) ?_
  refine lv_iadd hx hb dL_law_302 ?_
  refine va_sld hx hb hX hbl hbA Wd.2.2.1 h2 dL_law_303 ?_
  have hf : wX_read (x_n ad) (x_lim ad) σ (xs (nI j + 1).toNatClampNeg) (xs (nI j + 2).toNatClampNeg) (fun r σ1 => wM_read (m_lim am) μ (xs (nI j + 1).toNatClampNeg) (xs (nI j + 2).toNatClampNeg) (fun r1 μ1 => r = r1 ∧ Rel n (k + 1) σ1 μ1)) := by rw [en, el, em]; exact hs.2.2.2.2.2.2.2.2.1 n k σ μ (xs (nI j + 1).toNatClampNeg) (xs (nI j + 2).toNatClampNeg) hk hr
  refine l_callx (As := [.int (xs (nI j + 1).toNatClampNeg), .int (xs (nI j + 2).toNatClampNeg)]) (rest := []) C Wd (cX_read l D ad (xs (nI j + 1).toNatClampNeg) (xs (nI j + 2).toNatClampNeg)) sLX_read (by decide) rfl hl.1 rfl (Nat.le_of_ble_eq_true rfl) (by decide) dL_law_304 hf (fun r σ H locs hf Wd => ?_)
  refine lv_aload_n hx hb dL_law_307 rfl (lv_at hl 2 rfl) ?_
  refine lv_aload_n hx hb dL_law_308 rfl (lv_at hl 0 rfl) ?_
  refine lv_iload_n hx hb dL_law_309 rfl (lv_at hl 3 rfl) ?_
  refine lv_iconst (v := 1) hx hb dL_law_310 (by decide) ?_
  refine lv_iadd hx hb dL_law_311 ?_
  refine va_sld hx hb hX hbl hbA Wd.2.2.1 h1 dL_law_312 ?_
  refine lv_aload_n hx hb dL_law_313 rfl (lv_at hl 0 rfl) ?_
  refine lv_iload_n hx hb dL_law_314 rfl (lv_at hl 3 rfl) ?_
  refine lv_iconst (v := 2) hx hb dL_law_315 (by decide) ?_
  refine lv_iadd hx hb dL_law_316 ?_
  refine va_sld hx hb hX hbl hbA Wd.2.2.1 h2 dL_law_317 ?_
  refine l_callm (As := [.int (xs (nI j + 1).toNatClampNeg), .int (xs (nI j + 2).toNatClampNeg)]) (rest := [.int r]) C Wd (cM_read l D am (xs (nI j + 1).toNatClampNeg) (xs (nI j + 2).toNatClampNeg)) sLM_read (by decide) rfl hl.1 rfl (Nat.le_of_ble_eq_true rfl) (by decide) dL_law_318 hf (fun r1 μ H locs hf Wd => ?_)
  refine lv_icmp_eq (tgt := 474) hx hb dL_law_321 (by decide) (fun hc => ?_) (fun hc => absurd hf.1 hc)
  exact ih σ μ H locs ls hf.2 Wd hl
set_option maxHeartbeats 4000000 in
set_option maxRecDepth 100000 in
theorem bL_write {p : Program} {l : Launch} {e : Env} {s : State} {m : MethodId} {below : List Frame} {meth : Method} {c : Code} {b L : Nat} {xs : Nat → Int32} {D : va_G} {ad : XA} {am : MA} {n k j : Nat} {Q : State → Prop} (C : l_C p s m c b) (hX : va_X b L xs s s.heap) (hbl : b < s.heap.size) {Rel : Nat → Nat → XS → MS → Prop} (hs : SimOK Rel) (hk : k < 512) (en : x_n ad = n) (el : x_lim ad = nI n) (em : m_lim am = nI n) (h1 : vp_in (nI j + 1) L) (h2 : vp_in (nI j + 2) L) (h3 : vp_in (nI j + 3) L) (ih : ∀ (σ : XS) (μ : MS) (H : Heap) (locs : List Loc) (ls : Array Slot), Rel n (k + 1) σ μ → l_W D ad am σ μ s H locs → lv_has ls 4 [(0, .ref b), (1, .ref (x_h ad)), (2, .ref (m_h am)), (3, .int (nI j))] → W p l e room_1 s m #[Value.ref b] below meth c H locs 11 3611 Q (F0 m 474 ls [])) {σ : XS} {μ : MS} {H : Heap} {locs : List Loc} {ls : Array Slot} (hr : Rel n k σ μ) (Wd : l_W D ad am σ μ s H locs) (hl : lv_has ls 4 [(0, .ref b), (1, .ref (x_h ad)), (2, .ref (m_h am)), (3, .int (nI j))]) : W p l e room_1 s m #[Value.ref b] below meth c H locs 11 3611 Q (F0 m 326 ls []) := by
  obtain ⟨hx, hb, hml, hown, hts⟩ := id C
  have hbA : ¬ l_A s b := Nat.not_le.mpr hbl
  refine lv_aload_n hx hb dL_law_326 rfl (lv_at hl 1 rfl) ?_
  refine lv_aload_n hx hb dL_law_327 rfl (lv_at hl 0 rfl) ?_
  refine lv_iload_n hx hb dL_law_328 rfl (lv_at hl 3 rfl) ?_
  refine lv_iconst (v := 1) hx hb dL_law_329 (by decide) ?_
  refine lv_iadd hx hb dL_law_330 ?_
  refine va_sld hx hb hX hbl hbA Wd.2.2.1 h1 dL_law_331 ?_
  refine lv_aload_n hx hb dL_law_332 rfl (lv_at hl 0 rfl) ?_
  refine lv_iload_n hx hb dL_law_333 rfl (lv_at hl 3 rfl) ?_
  refine lv_iconst (v := 2) hx hb dL_law_334 (by decide) ?_
  refine lv_iadd hx hb dL_law_335 ?_
  refine va_sld hx hb hX hbl hbA Wd.2.2.1 h2 dL_law_336 ?_
  refine lv_aload_n hx hb dL_law_337 rfl (lv_at hl 0 rfl) ?_
  refine lv_iload_n hx hb dL_law_338 rfl (lv_at hl 3 rfl) ?_
  refine lv_iconst (v := 3) hx hb dL_law_339 (by decide) ?_
  refine lv_iadd hx hb dL_law_340 ?_
  refine va_sld hx hb hX hbl hbA Wd.2.2.1 h3 dL_law_341 ?_
  have hf : wX_write (x_n ad) (x_lim ad) σ (xs (nI j + 1).toNatClampNeg) (xs (nI j + 2).toNatClampNeg) (xs (nI j + 3).toNatClampNeg) (fun r σ1 => wM_write (m_lim am) μ (xs (nI j + 1).toNatClampNeg) (xs (nI j + 2).toNatClampNeg) (xs (nI j + 3).toNatClampNeg) (fun r1 μ1 => r = r1 ∧ Rel n (k + 1) σ1 μ1)) := by rw [en, el, em]; exact hs.2.2.2.2.2.2.2.2.2.1 n k σ μ (xs (nI j + 1).toNatClampNeg) (xs (nI j + 2).toNatClampNeg) (xs (nI j + 3).toNatClampNeg) hk hr
  refine l_callx (As := [.int (xs (nI j + 1).toNatClampNeg), .int (xs (nI j + 2).toNatClampNeg), .int (xs (nI j + 3).toNatClampNeg)]) (rest := []) C Wd (cX_write l D ad (xs (nI j + 1).toNatClampNeg) (xs (nI j + 2).toNatClampNeg) (xs (nI j + 3).toNatClampNeg)) sLX_write (by decide) rfl hl.1 rfl (Nat.le_of_ble_eq_true rfl) (by decide) dL_law_342 hf (fun r σ H locs hf Wd => ?_)
  refine lv_aload_n hx hb dL_law_345 rfl (lv_at hl 2 rfl) ?_
  refine lv_aload_n hx hb dL_law_346 rfl (lv_at hl 0 rfl) ?_
  refine lv_iload_n hx hb dL_law_347 rfl (lv_at hl 3 rfl) ?_
  refine lv_iconst (v := 1) hx hb dL_law_348 (by decide) ?_
  refine lv_iadd hx hb dL_law_349 ?_
  refine va_sld hx hb hX hbl hbA Wd.2.2.1 h1 dL_law_350 ?_
  refine lv_aload_n hx hb dL_law_351 rfl (lv_at hl 0 rfl) ?_
  refine lv_iload_n hx hb dL_law_352 rfl (lv_at hl 3 rfl) ?_
  refine lv_iconst (v := 2) hx hb dL_law_353 (by decide) ?_
  refine lv_iadd hx hb dL_law_354 ?_
  refine va_sld hx hb hX hbl hbA Wd.2.2.1 h2 dL_law_355 ?_
  refine lv_aload_n hx hb dL_law_356 rfl (lv_at hl 0 rfl) ?_
  refine lv_iload_n hx hb dL_law_357 rfl (lv_at hl 3 rfl) ?_
  refine lv_iconst (v := 3) hx hb dL_law_358 (by decide) ?_
  refine lv_iadd hx hb dL_law_359 ?_
  refine va_sld hx hb hX hbl hbA Wd.2.2.1 h3 dL_law_360 ?_
  refine l_callm (As := [.int (xs (nI j + 1).toNatClampNeg), .int (xs (nI j + 2).toNatClampNeg), .int (xs (nI j + 3).toNatClampNeg)]) (rest := [.int r]) C Wd (cM_write l D am (xs (nI j + 1).toNatClampNeg) (xs (nI j + 2).toNatClampNeg) (xs (nI j + 3).toNatClampNeg)) sLM_write (by decide) rfl hl.1 rfl (Nat.le_of_ble_eq_true rfl) (by decide) dL_law_361 hf (fun r1 μ H locs hf Wd => ?_)
  refine lv_icmp_eq (tgt := 474) hx hb dL_law_364 (by decide) (fun hc => ?_) (fun hc => absurd hf.1 hc)
  exact ih σ μ H locs ls hf.2 Wd hl
set_option maxHeartbeats 4000000 in
set_option maxRecDepth 100000 in
theorem bL_size {p : Program} {l : Launch} {e : Env} {s : State} {m : MethodId} {below : List Frame} {meth : Method} {c : Code} {b L : Nat} {xs : Nat → Int32} {D : va_G} {ad : XA} {am : MA} {n k j : Nat} {Q : State → Prop} (C : l_C p s m c b) (hX : va_X b L xs s s.heap) (hbl : b < s.heap.size) {Rel : Nat → Nat → XS → MS → Prop} (hs : SimOK Rel) (hk : k < 512) (en : x_n ad = n) (el : x_lim ad = nI n) (em : m_lim am = nI n) (h1 : vp_in (nI j + 1) L) (h2 : vp_in (nI j + 2) L) (h3 : vp_in (nI j + 3) L) (ih : ∀ (σ : XS) (μ : MS) (H : Heap) (locs : List Loc) (ls : Array Slot), Rel n (k + 1) σ μ → l_W D ad am σ μ s H locs → lv_has ls 4 [(0, .ref b), (1, .ref (x_h ad)), (2, .ref (m_h am)), (3, .int (nI j))] → W p l e room_1 s m #[Value.ref b] below meth c H locs 11 3611 Q (F0 m 474 ls [])) {σ : XS} {μ : MS} {H : Heap} {locs : List Loc} {ls : Array Slot} (hr : Rel n k σ μ) (Wd : l_W D ad am σ μ s H locs) (hl : lv_has ls 4 [(0, .ref b), (1, .ref (x_h ad)), (2, .ref (m_h am)), (3, .int (nI j))]) : W p l e room_1 s m #[Value.ref b] below meth c H locs 11 3611 Q (F0 m 369 ls []) := by
  obtain ⟨hx, hb, hml, hown, hts⟩ := id C
  have hbA : ¬ l_A s b := Nat.not_le.mpr hbl
  refine lv_aload_n hx hb dL_law_369 rfl (lv_at hl 1 rfl) ?_
  refine lv_aload_n hx hb dL_law_370 rfl (lv_at hl 0 rfl) ?_
  refine lv_iload_n hx hb dL_law_371 rfl (lv_at hl 3 rfl) ?_
  refine lv_iconst (v := 1) hx hb dL_law_372 (by decide) ?_
  refine lv_iadd hx hb dL_law_373 ?_
  refine va_sld hx hb hX hbl hbA Wd.2.2.1 h1 dL_law_374 ?_
  have hf : wX_size (x_n ad) (x_lim ad) σ (xs (nI j + 1).toNatClampNeg) (fun r σ1 => wM_size (m_lim am) μ (xs (nI j + 1).toNatClampNeg) (fun r1 μ1 => r = r1 ∧ Rel n (k + 1) σ1 μ1)) := by rw [en, el, em]; exact hs.2.2.2.2.2.2.2.2.2.2.1 n k σ μ (xs (nI j + 1).toNatClampNeg) hk hr
  refine l_callx (As := [.int (xs (nI j + 1).toNatClampNeg)]) (rest := []) C Wd (cX_size l D ad (xs (nI j + 1).toNatClampNeg)) sLX_size (by decide) rfl hl.1 rfl (Nat.le_of_ble_eq_true rfl) (by decide) dL_law_375 hf (fun r σ H locs hf Wd => ?_)
  refine lv_aload_n hx hb dL_law_378 rfl (lv_at hl 2 rfl) ?_
  refine lv_aload_n hx hb dL_law_379 rfl (lv_at hl 0 rfl) ?_
  refine lv_iload_n hx hb dL_law_380 rfl (lv_at hl 3 rfl) ?_
  refine lv_iconst (v := 1) hx hb dL_law_381 (by decide) ?_
  refine lv_iadd hx hb dL_law_382 ?_
  refine va_sld hx hb hX hbl hbA Wd.2.2.1 h1 dL_law_383 ?_
  refine l_callm (As := [.int (xs (nI j + 1).toNatClampNeg)]) (rest := [.int r]) C Wd (cM_size l D am (xs (nI j + 1).toNatClampNeg)) sLM_size (by decide) rfl hl.1 rfl (Nat.le_of_ble_eq_true rfl) (by decide) dL_law_384 hf (fun r1 μ H locs hf Wd => ?_)
  refine lv_icmp_eq (tgt := 474) hx hb dL_law_387 (by decide) (fun hc => ?_) (fun hc => absurd hf.1 hc)
  exact ih σ μ H locs ls hf.2 Wd hl
set_option maxHeartbeats 4000000 in
set_option maxRecDepth 100000 in
theorem bL_state {p : Program} {l : Launch} {e : Env} {s : State} {m : MethodId} {below : List Frame} {meth : Method} {c : Code} {b L : Nat} {xs : Nat → Int32} {D : va_G} {ad : XA} {am : MA} {n k j : Nat} {Q : State → Prop} (C : l_C p s m c b) (hX : va_X b L xs s s.heap) (hbl : b < s.heap.size) {Rel : Nat → Nat → XS → MS → Prop} (hs : SimOK Rel) (hk : k < 512) (en : x_n ad = n) (el : x_lim ad = nI n) (em : m_lim am = nI n) (h1 : vp_in (nI j + 1) L) (h2 : vp_in (nI j + 2) L) (h3 : vp_in (nI j + 3) L) (ih : ∀ (σ : XS) (μ : MS) (H : Heap) (locs : List Loc) (ls : Array Slot), Rel n (k + 1) σ μ → l_W D ad am σ μ s H locs → lv_has ls 4 [(0, .ref b), (1, .ref (x_h ad)), (2, .ref (m_h am)), (3, .int (nI j))] → W p l e room_1 s m #[Value.ref b] below meth c H locs 11 3611 Q (F0 m 474 ls [])) {σ : XS} {μ : MS} {H : Heap} {locs : List Loc} {ls : Array Slot} (hr : Rel n k σ μ) (Wd : l_W D ad am σ μ s H locs) (hl : lv_has ls 4 [(0, .ref b), (1, .ref (x_h ad)), (2, .ref (m_h am)), (3, .int (nI j))]) : W p l e room_1 s m #[Value.ref b] below meth c H locs 11 3611 Q (F0 m 392 ls []) := by
  obtain ⟨hx, hb, hml, hown, hts⟩ := id C
  have hbA : ¬ l_A s b := Nat.not_le.mpr hbl
  refine lv_aload_n hx hb dL_law_392 rfl (lv_at hl 1 rfl) ?_
  refine lv_aload_n hx hb dL_law_393 rfl (lv_at hl 0 rfl) ?_
  refine lv_iload_n hx hb dL_law_394 rfl (lv_at hl 3 rfl) ?_
  refine lv_iconst (v := 1) hx hb dL_law_395 (by decide) ?_
  refine lv_iadd hx hb dL_law_396 ?_
  refine va_sld hx hb hX hbl hbA Wd.2.2.1 h1 dL_law_397 ?_
  have hf : wX_state (x_n ad) (x_lim ad) σ (xs (nI j + 1).toNatClampNeg) (fun r σ1 => wM_state (m_lim am) μ (xs (nI j + 1).toNatClampNeg) (fun r1 μ1 => r = r1 ∧ Rel n (k + 1) σ1 μ1)) := by rw [en, el, em]; exact hs.2.2.2.2.2.2.2.2.2.2.2.1 n k σ μ (xs (nI j + 1).toNatClampNeg) hk hr
  refine l_callx (As := [.int (xs (nI j + 1).toNatClampNeg)]) (rest := []) C Wd (cX_state l D ad (xs (nI j + 1).toNatClampNeg)) sLX_state (by decide) rfl hl.1 rfl (Nat.le_of_ble_eq_true rfl) (by decide) dL_law_398 hf (fun r σ H locs hf Wd => ?_)
  refine lv_aload_n hx hb dL_law_401 rfl (lv_at hl 2 rfl) ?_
  refine lv_aload_n hx hb dL_law_402 rfl (lv_at hl 0 rfl) ?_
  refine lv_iload_n hx hb dL_law_403 rfl (lv_at hl 3 rfl) ?_
  refine lv_iconst (v := 1) hx hb dL_law_404 (by decide) ?_
  refine lv_iadd hx hb dL_law_405 ?_
  refine va_sld hx hb hX hbl hbA Wd.2.2.1 h1 dL_law_406 ?_
  refine l_callm (As := [.int (xs (nI j + 1).toNatClampNeg)]) (rest := [.int r]) C Wd (cM_state l D am (xs (nI j + 1).toNatClampNeg)) sLM_state (by decide) rfl hl.1 rfl (Nat.le_of_ble_eq_true rfl) (by decide) dL_law_407 hf (fun r1 μ H locs hf Wd => ?_)
  refine lv_icmp_eq (tgt := 474) hx hb dL_law_410 (by decide) (fun hc => ?_) (fun hc => absurd hf.1 hc)
  exact ih σ μ H locs ls hf.2 Wd hl
set_option maxHeartbeats 4000000 in
set_option maxRecDepth 100000 in
theorem bL_count {p : Program} {l : Launch} {e : Env} {s : State} {m : MethodId} {below : List Frame} {meth : Method} {c : Code} {b L : Nat} {xs : Nat → Int32} {D : va_G} {ad : XA} {am : MA} {n k j : Nat} {Q : State → Prop} (C : l_C p s m c b) (hX : va_X b L xs s s.heap) (hbl : b < s.heap.size) {Rel : Nat → Nat → XS → MS → Prop} (hs : SimOK Rel) (hk : k < 512) (en : x_n ad = n) (el : x_lim ad = nI n) (em : m_lim am = nI n) (h1 : vp_in (nI j + 1) L) (h2 : vp_in (nI j + 2) L) (h3 : vp_in (nI j + 3) L) (ih : ∀ (σ : XS) (μ : MS) (H : Heap) (locs : List Loc) (ls : Array Slot), Rel n (k + 1) σ μ → l_W D ad am σ μ s H locs → lv_has ls 4 [(0, .ref b), (1, .ref (x_h ad)), (2, .ref (m_h am)), (3, .int (nI j))] → W p l e room_1 s m #[Value.ref b] below meth c H locs 11 3611 Q (F0 m 474 ls [])) {σ : XS} {μ : MS} {H : Heap} {locs : List Loc} {ls : Array Slot} (hr : Rel n k σ μ) (Wd : l_W D ad am σ μ s H locs) (hl : lv_has ls 4 [(0, .ref b), (1, .ref (x_h ad)), (2, .ref (m_h am)), (3, .int (nI j))]) : W p l e room_1 s m #[Value.ref b] below meth c H locs 11 3611 Q (F0 m 415 ls []) := by
  obtain ⟨hx, hb, hml, hown, hts⟩ := id C
  have hbA : ¬ l_A s b := Nat.not_le.mpr hbl
  refine lv_aload_n hx hb dL_law_415 rfl (lv_at hl 1 rfl) ?_
  refine lv_aload_n hx hb dL_law_416 rfl (lv_at hl 0 rfl) ?_
  refine lv_iload_n hx hb dL_law_417 rfl (lv_at hl 3 rfl) ?_
  refine lv_iconst (v := 1) hx hb dL_law_418 (by decide) ?_
  refine lv_iadd hx hb dL_law_419 ?_
  refine va_sld hx hb hX hbl hbA Wd.2.2.1 h1 dL_law_420 ?_
  have hf : wX_count (x_n ad) (x_lim ad) σ (xs (nI j + 1).toNatClampNeg) (fun r σ1 => wM_count (m_lim am) μ (xs (nI j + 1).toNatClampNeg) (fun r1 μ1 => r = r1 ∧ Rel n (k + 1) σ1 μ1)) := by rw [en, el, em]; exact hs.2.2.2.2.2.2.2.2.2.2.2.2.1 n k σ μ (xs (nI j + 1).toNatClampNeg) hk hr
  refine l_callx (As := [.int (xs (nI j + 1).toNatClampNeg)]) (rest := []) C Wd (cX_count l D ad (xs (nI j + 1).toNatClampNeg)) sLX_count (by decide) rfl hl.1 rfl (Nat.le_of_ble_eq_true rfl) (by decide) dL_law_421 hf (fun r σ H locs hf Wd => ?_)
  refine lv_aload_n hx hb dL_law_424 rfl (lv_at hl 2 rfl) ?_
  refine lv_aload_n hx hb dL_law_425 rfl (lv_at hl 0 rfl) ?_
  refine lv_iload_n hx hb dL_law_426 rfl (lv_at hl 3 rfl) ?_
  refine lv_iconst (v := 1) hx hb dL_law_427 (by decide) ?_
  refine lv_iadd hx hb dL_law_428 ?_
  refine va_sld hx hb hX hbl hbA Wd.2.2.1 h1 dL_law_429 ?_
  refine l_callm (As := [.int (xs (nI j + 1).toNatClampNeg)]) (rest := [.int r]) C Wd (cM_count l D am (xs (nI j + 1).toNatClampNeg)) sLM_count (by decide) rfl hl.1 rfl (Nat.le_of_ble_eq_true rfl) (by decide) dL_law_430 hf (fun r1 μ H locs hf Wd => ?_)
  refine lv_icmp_eq (tgt := 474) hx hb dL_law_433 (by decide) (fun hc => ?_) (fun hc => absurd hf.1 hc)
  exact ih σ μ H locs ls hf.2 Wd hl
set_option maxHeartbeats 4000000 in
set_option maxRecDepth 100000 in
theorem bL_end {p : Program} {l : Launch} {e : Env} {s : State} {m : MethodId} {below : List Frame} {meth : Method} {c : Code} {b L : Nat} {xs : Nat → Int32} {D : va_G} {ad : XA} {am : MA} {n k j : Nat} {Q : State → Prop} (C : l_C p s m c b) (hX : va_X b L xs s s.heap) (hbl : b < s.heap.size) {Rel : Nat → Nat → XS → MS → Prop} (hs : SimOK Rel) (hk : k < 512) (en : x_n ad = n) (el : x_lim ad = nI n) (em : m_lim am = nI n) (h1 : vp_in (nI j + 1) L) (h2 : vp_in (nI j + 2) L) (h3 : vp_in (nI j + 3) L) (ih : ∀ (σ : XS) (μ : MS) (H : Heap) (locs : List Loc) (ls : Array Slot), Rel n (k + 1) σ μ → l_W D ad am σ μ s H locs → lv_has ls 4 [(0, .ref b), (1, .ref (x_h ad)), (2, .ref (m_h am)), (3, .int (nI j))] → W p l e room_1 s m #[Value.ref b] below meth c H locs 11 3611 Q (F0 m 474 ls [])) {σ : XS} {μ : MS} {H : Heap} {locs : List Loc} {ls : Array Slot} (hr : Rel n k σ μ) (Wd : l_W D ad am σ μ s H locs) (hl : lv_has ls 4 [(0, .ref b), (1, .ref (x_h ad)), (2, .ref (m_h am)), (3, .int (nI j))]) : W p l e room_1 s m #[Value.ref b] below meth c H locs 11 3611 Q (F0 m 438 ls []) := by
  obtain ⟨hx, hb, hml, hown, hts⟩ := id C
  have hbA : ¬ l_A s b := Nat.not_le.mpr hbl
  refine lv_aload_n hx hb dL_law_438 rfl (lv_at hl 1 rfl) ?_
  have hf : wX_end (x_n ad) (x_lim ad) σ  (fun r σ1 => wM_end (m_lim am) μ  (fun r1 μ1 => r = r1 ∧ Rel n (k + 1) σ1 μ1)) := by rw [en, el, em]; exact hs.2.2.2.2.2.2.2.2.2.2.2.2.2.1 n k σ μ  hk hr
  refine l_callx (As := []) (rest := []) C Wd (cX_end l D ad ) sLX_end (by decide) rfl hl.1 rfl (Nat.le_of_ble_eq_true rfl) (by decide) dL_law_439 hf (fun r σ H locs hf Wd => ?_)
  refine lv_aload_n hx hb dL_law_442 rfl (lv_at hl 2 rfl) ?_
  refine l_callm (As := []) (rest := [.int r]) C Wd (cM_end l D am ) sLM_end (by decide) rfl hl.1 rfl (Nat.le_of_ble_eq_true rfl) (by decide) dL_law_443 hf (fun r1 μ H locs hf Wd => ?_)
  refine lv_icmp_eq (tgt := 474) hx hb dL_law_446 (by decide) (fun hc => ?_) (fun hc => absurd hf.1 hc)
  exact ih σ μ H locs ls hf.2 Wd hl
set_option maxHeartbeats 4000000 in
set_option maxRecDepth 100000 in
theorem bL_total {p : Program} {l : Launch} {e : Env} {s : State} {m : MethodId} {below : List Frame} {meth : Method} {c : Code} {b L : Nat} {xs : Nat → Int32} {D : va_G} {ad : XA} {am : MA} {n k j : Nat} {Q : State → Prop} (C : l_C p s m c b) (hX : va_X b L xs s s.heap) (hbl : b < s.heap.size) {Rel : Nat → Nat → XS → MS → Prop} (hs : SimOK Rel) (hk : k < 512) (en : x_n ad = n) (el : x_lim ad = nI n) (em : m_lim am = nI n) (h1 : vp_in (nI j + 1) L) (h2 : vp_in (nI j + 2) L) (h3 : vp_in (nI j + 3) L) (ih : ∀ (σ : XS) (μ : MS) (H : Heap) (locs : List Loc) (ls : Array Slot), Rel n (k + 1) σ μ → l_W D ad am σ μ s H locs → lv_has ls 4 [(0, .ref b), (1, .ref (x_h ad)), (2, .ref (m_h am)), (3, .int (nI j))] → W p l e room_1 s m #[Value.ref b] below meth c H locs 11 3611 Q (F0 m 474 ls [])) {σ : XS} {μ : MS} {H : Heap} {locs : List Loc} {ls : Array Slot} (hr : Rel n k σ μ) (Wd : l_W D ad am σ μ s H locs) (hl : lv_has ls 4 [(0, .ref b), (1, .ref (x_h ad)), (2, .ref (m_h am)), (3, .int (nI j))]) : W p l e room_1 s m #[Value.ref b] below meth c H locs 11 3611 Q (F0 m 451 ls []) := by
  obtain ⟨hx, hb, hml, hown, hts⟩ := id C
  have hbA : ¬ l_A s b := Nat.not_le.mpr hbl
  refine lv_aload_n hx hb dL_law_451 rfl (lv_at hl 1 rfl) ?_
  refine lv_aload_n hx hb dL_law_452 rfl (lv_at hl 0 rfl) ?_
  refine lv_iload_n hx hb dL_law_453 rfl (lv_at hl 3 rfl) ?_
  refine lv_iconst (v := 1) hx hb dL_law_454 (by decide) ?_
  refine lv_iadd hx hb dL_law_455 ?_
  refine va_sld hx hb hX hbl hbA Wd.2.2.1 h1 dL_law_456 ?_
  have hf : wX_total (x_n ad) (x_lim ad) σ (xs (nI j + 1).toNatClampNeg) (fun r σ1 => wM_total (m_lim am) μ (xs (nI j + 1).toNatClampNeg) (fun r1 μ1 => r = r1 ∧ Rel n (k + 1) σ1 μ1)) := by rw [en, el, em]; exact hs.2.2.2.2.2.2.2.2.2.2.2.2.2.2 n k σ μ (xs (nI j + 1).toNatClampNeg) hk hr
  refine l_callx (As := [.int (xs (nI j + 1).toNatClampNeg)]) (rest := []) C Wd (cX_total l D ad (xs (nI j + 1).toNatClampNeg)) sLX_total (by decide) rfl hl.1 rfl (Nat.le_of_ble_eq_true rfl) (by decide) dL_law_457 hf (fun r σ H locs hf Wd => ?_)
  refine lv_aload_n hx hb dL_law_460 rfl (lv_at hl 2 rfl) ?_
  refine lv_aload_n hx hb dL_law_461 rfl (lv_at hl 0 rfl) ?_
  refine lv_iload_n hx hb dL_law_462 rfl (lv_at hl 3 rfl) ?_
  refine lv_iconst (v := 1) hx hb dL_law_463 (by decide) ?_
  refine lv_iadd hx hb dL_law_464 ?_
  refine va_sld hx hb hX hbl hbA Wd.2.2.1 h1 dL_law_465 ?_
  refine l_callm (As := [.int (xs (nI j + 1).toNatClampNeg)]) (rest := [.int r]) C Wd (cM_total l D am (xs (nI j + 1).toNatClampNeg)) sLM_total (by decide) rfl hl.1 rfl (Nat.le_of_ble_eq_true rfl) (by decide) dL_law_466 hf (fun r1 μ H locs hf Wd => ?_)
  refine lv_icmp_eq (tgt := 474) hx hb dL_law_469 (by decide) (fun hc => ?_) (fun hc => absurd hf.1 hc)
  exact ih σ μ H locs ls hf.2 Wd hl
end
section
set_option maxHeartbeats 4000000 in
set_option maxRecDepth 100000 in
theorem law_loop {p : Program} {l : Launch} {e : Env} {s : State} {m : MethodId} {below : List Frame} {meth : Method} {c : Code} {b L : Nat} {xs : Nat → Int32} {D : va_G} {ad : XA} {am : MA} {n : Nat} (hL : L ≤ 2049) (C0 : lw_At p s m meth c b L xs) {Rel : Nat → Nat → XS → MS → Prop} (hs : SimOK Rel) (hskip : ∀ (n k : Nat) (σ : XS) (μ : MS), Rel n k σ μ → Rel n (k + 1) σ μ) (en : x_n ad = n) (el : x_lim ad = nI n) (em : m_lim am = nI n) :
    ∀ (f k : Nat) (σ : XS) (μ : MS) (H : Heap) (locs : List Loc) (ls : Array Slot), 513 ≤ k + f → Rel n k σ μ → l_W D ad am σ μ s H locs → lv_has ls 4 [(0, .ref b), (1, .ref (x_h ad)), (2, .ref (m_h am)), (3, .int (nI (1 + 4 * k)))] → k ≤ 512 → W p l e room_1 s m #[Value.ref b] below meth c H locs 11 3611 (lw_Z below #[Value.ref b] s) (F0 m 28 ls []) := by
  obtain ⟨hx, hb, hr, hml, hown, hts, hX, hbl, hlocks, hgv⟩ := C0
  have C : l_C p s m c b := ⟨hx, hb, hml, hown, fun w h => hts w (lw_g_in h)⟩
  have hb : c.code = cL_law := hb
  have hbA : ¬ l_A s b := Nat.not_le.mpr hbl
  intro f
  induction f with
  | zero => intro k σ μ H locs ls h1 h2 h3 h4 h5; omega
  | succ f ih =>
    intro k σ μ H locs ls hf hrel Wd hl hk5
    generalize hj : 1 + 4 * k = j at hl
    refine lv_iload_n hx hb dL_law_28 rfl (lv_at hl 3 rfl) ?_
    refine lv_aload_n hx hb dL_law_29 rfl (lv_at hl 0 rfl) ?_
    refine va_slen hx hb hX hbl hbA Wd.2.2.1 dL_law_30 ?_
    refine lv_iconst (v := 4) hx hb dL_law_31 (by decide) ?_
    refine lv_isub hx hb dL_law_32 ?_
    refine lv_icmp_gt (tgt := 480) hx hb dL_law_33 (by decide) (fun hc => ?_) (fun hc => ?_)
    · refine lv_iconst (v := 1) hx hb dL_law_480 (by decide) ?_
      refine va_forget (fun q hq => Wd.2.2.1.2.2 q hq) ?_
      refine W.widen (k := 600000) (n := 7302250) (by decide) (by decide) ?_
      exact lw_ret hx hb hr hlocks dL_law_481
    · have hlt : j + 4 ≤ L := by
        have h6 : ¬ nI L - nI 4 < nI j := hc
        rw [Int32.lt_iff_toInt_lt, pk_sub_toInt (by omega) (by omega), nI_toInt (by omega)] at h6
        omega
      have hk : k < 512 := by omega
      have h0 : vp_in (nI j) L := vp_in_nI (by omega) (by omega)
      have h1 : vp_in (nI j + 1) L := by rw [show (1 : Int32) = nI 1 from rfl, nI_add]; exact vp_in_nI (by omega) (by omega)
      have h2 : vp_in (nI j + 2) L := by rw [show (2 : Int32) = nI 2 from rfl, nI_add]; exact vp_in_nI (by omega) (by omega)
      have h3 : vp_in (nI j + 3) L := by rw [show (3 : Int32) = nI 3 from rfl, nI_add]; exact vp_in_nI (by omega) (by omega)
      have ih2 : ∀ (σ : XS) (μ : MS) (H : Heap) (locs : List Loc) (ls : Array Slot), Rel n (k + 1) σ μ → l_W D ad am σ μ s H locs → lv_has ls 4 [(0, .ref b), (1, .ref (x_h ad)), (2, .ref (m_h am)), (3, .int (nI j))] → W p l e room_1 s m #[Value.ref b] below meth c H locs 11 3611 (lw_Z below #[Value.ref b] s) (F0 m 474 ls []) := by
        intro σ μ H locs ls hrel Wd hl
        refine lv_iinc (v := nI (j + 4)) (lv' := [(3, .int (nI (j + 4))), (0, .ref b), (1, .ref (x_h ad)), (2, .ref (m_h am))]) hx hb dL_law_474 hl (k := 3) rfl (nI_add j 4) (by decide) rfl (fun ls hl => ?_)
        refine lv_goto (tgt := 28) hx hb dL_law_477 (by decide) ?_
        have hl := lv_sub hl [1, 2, 3, 0] rfl
        rw [show j + 4 = 1 + 4 * (k + 1) by omega] at hl
        exact ih (k + 1) σ μ H locs ls (by omega) hrel Wd hl (by omega)
      refine lv_aload_n hx hb dL_law_36 rfl (lv_at hl 0 rfl) ?_
      refine lv_iload_n hx hb dL_law_37 rfl (lv_at hl 3 rfl) ?_
      refine va_sld hx hb hX hbl hbA Wd.2.2.1 h0 dL_law_38 ?_
      refine lv_bipush (v := 15) hx hb dL_law_39 (by decide) ?_
      refine lv_iand hx hb dL_law_41 ?_
      obtain ⟨d, hd, ed⟩ := pk_andE (xs (nI j).toNatClampNeg) (m := 15) 4 (by decide)
      rw [ed]
      clear ed
      match d, hd with
      | 0, _ =>
        refine lv_tableIn (off := 70) (tgt := 112) hx hb dL_law_42 (by decide) (by decide) (by decide) (by decide) ?_
        exact bL_malloc C hX hbl hs hk en el em h1 h2 h3 ih2 hrel Wd hl
      | 1, _ =>
        refine lv_tableIn (off := 93) (tgt := 135) hx hb dL_law_42 (by decide) (by decide) (by decide) (by decide) ?_
        exact bL_calloc C hX hbl hs hk en el em h1 h2 h3 ih2 hrel Wd hl
      | 2, _ =>
        refine lv_tableIn (off := 116) (tgt := 158) hx hb dL_law_42 (by decide) (by decide) (by decide) (by decide) ?_
        exact bL_free C hX hbl hs hk en el em h1 h2 h3 ih2 hrel Wd hl
      | 3, _ =>
        refine lv_tableIn (off := 139) (tgt := 181) hx hb dL_law_42 (by decide) (by decide) (by decide) (by decide) ?_
        exact bL_realloc C hX hbl hs hk en el em h1 h2 h3 ih2 hrel Wd hl
      | 4, _ =>
        refine lv_tableIn (off := 172) (tgt := 214) hx hb dL_law_42 (by decide) (by decide) (by decide) (by decide) ?_
        exact bL_align C hX hbl hs hk en el em h1 h2 h3 ih2 hrel Wd hl
      | 5, _ =>
        refine lv_tableIn (off := 205) (tgt := 247) hx hb dL_law_42 (by decide) (by decide) (by decide) (by decide) ?_
        exact bL_trim C hX hbl hs hk en el em h1 h2 h3 ih2 hrel Wd hl
      | 6, _ =>
        refine lv_tableIn (off := 228) (tgt := 270) hx hb dL_law_42 (by decide) (by decide) (by decide) (by decide) ?_
        exact bL_usable C hX hbl hs hk en el em h1 h2 h3 ih2 hrel Wd hl
      | 7, _ =>
        refine lv_tableIn (off := 251) (tgt := 293) hx hb dL_law_42 (by decide) (by decide) (by decide) (by decide) ?_
        exact bL_read C hX hbl hs hk en el em h1 h2 h3 ih2 hrel Wd hl
      | 8, _ =>
        refine lv_tableIn (off := 284) (tgt := 326) hx hb dL_law_42 (by decide) (by decide) (by decide) (by decide) ?_
        exact bL_write C hX hbl hs hk en el em h1 h2 h3 ih2 hrel Wd hl
      | 9, _ =>
        refine lv_tableIn (off := 327) (tgt := 369) hx hb dL_law_42 (by decide) (by decide) (by decide) (by decide) ?_
        exact bL_size C hX hbl hs hk en el em h1 h2 h3 ih2 hrel Wd hl
      | 10, _ =>
        refine lv_tableIn (off := 350) (tgt := 392) hx hb dL_law_42 (by decide) (by decide) (by decide) (by decide) ?_
        exact bL_state C hX hbl hs hk en el em h1 h2 h3 ih2 hrel Wd hl
      | 11, _ =>
        refine lv_tableIn (off := 373) (tgt := 415) hx hb dL_law_42 (by decide) (by decide) (by decide) (by decide) ?_
        exact bL_count C hX hbl hs hk en el em h1 h2 h3 ih2 hrel Wd hl
      | 12, _ =>
        refine lv_tableIn (off := 396) (tgt := 438) hx hb dL_law_42 (by decide) (by decide) (by decide) (by decide) ?_
        exact bL_end C hX hbl hs hk en el em h1 h2 h3 ih2 hrel Wd hl
      | 13, _ =>
        refine lv_tableIn (off := 409) (tgt := 451) hx hb dL_law_42 (by decide) (by decide) (by decide) (by decide) ?_
        exact bL_total C hX hbl hs hk en el em h1 h2 h3 ih2 hrel Wd hl
      | 14, _ =>
        refine lv_tableOut (tgt := 474) hx hb dL_law_42 (by decide) (by decide) ?_
        exact ih2 σ μ H locs ls (hskip n k σ μ hrel) Wd hl
      | 15, _ =>
        refine lv_tableOut (tgt := 474) hx hb dL_law_42 (by decide) (by decide) ?_
        exact ih2 σ μ H locs ls (hskip n k σ μ hrel) Wd hl
      | d + 16, hd => omega
end
section
set_option maxHeartbeats 4000000 in
set_option maxRecDepth 100000 in
theorem cL_cellM (l : Launch) (b L : Nat) (xs : Nat → Int32) : Met l yL_cell (.code yL_cell cL_cell 2 (some .int) :: lw_g) { frames := 0, cells := 0, slots := 0, locals := 0 } (va_Pc [.ref b, .int 0] (fun U => va_X b L xs U U.heap ∧ L < 2 ^ 31)) (vp_Si (fun r => r = if 0 < L then xs 0 else 0)) 0 0 (fun _ => False) := by
  refine Met.ofW (cc := cL_cell) (maxL := 2) (ret := (some .int)) (by decide) rfl ?_
  intro p e s m args below meth c s₁ B hml hv
  obtain ⟨rfl, hX, hL⟩ := hv
  have hx := B.exec
  have hb := B.bytes
  have hr := B.returns
  have hlocks := B.notSynchronized
  have hbl : b < s.heap.size := (Array.getElem?_eq_some_iff.mp hX.choose_spec.1).1
  have hbA : ¬ (fun _ : Nat => False) b := fun h => h
  have hS : va_S (fun _ : Nat => False) s.heap s.heap [] := va_S.rf
  have hl := lv_entry ([.ref b, .int 0]) (n := 2) (Nat.le_of_ble_eq_true rfl)
  rw [lg_entry_eq]
  generalize (lg_sl ([.ref b, .int 0]) ++ List.replicate (2 - (lg_sl ([.ref b, .int 0])).length) Slot.unset).toArray = ls at hl ⊢
  have hl : lv_has ls 2 [(0, .ref b), (1, .int 0)] := hl
  refine lv_iload_n hx hb dL_cell_0 rfl (lv_at hl 1 rfl) ?_
  refine lv_aload_n hx hb dL_cell_1 rfl (lv_at hl 0 rfl) ?_
  refine va_slen hx hb hX hbl hbA hS dL_cell_2 ?_
  refine lv_icmp_ge (tgt := 12) hx hb dL_cell_3 (by decide) (fun hc => ?_) (fun hc => ?_)
  · refine lv_iconst (v := 0) hx hb dL_cell_12 (by decide) ?_
    have h0 : ¬ 0 < L := fun h => absurd ((nI_leI (a := L) (b := 0) hL (by decide)).mp hc) (by omega)
    exact W.iret (v := 0) hx hb hr (fun t ht hW => ⟨0, rfl, by rw [if_neg h0], ht⟩) (fun q h => by cases h) dL_cell_13 hlocks
  · have hp : 0 < L := by
      rcases Nat.eq_zero_or_pos L with h | h
      · subst h; exact absurd (by decide) hc
      · exact h
    have h0 : vp_in 0 L := vp_in_nI (n := 0) hp hL
    refine lv_aload_n hx hb dL_cell_6 rfl (lv_at hl 0 rfl) ?_
    refine lv_iload_n hx hb dL_cell_7 rfl (lv_at hl 1 rfl) ?_
    refine va_sld hx hb hX hbl hbA hS h0 dL_cell_8 ?_
    refine lv_goto (tgt := 13) hx hb dL_cell_9 (by decide) ?_
    exact W.iret hx hb hr (fun t ht hW => ⟨_, rfl, by rw [if_pos hp]; rfl, ht⟩) (fun q h => by cases h) dL_cell_13 hlocks
theorem hf0 : ∀ j, j < 9 → defaultValue (tyX0 j) = vp_V x_f0 j := by
  intro j hj
  match j, hj with
  | 0, _ => rfl
  | 1, _ => rfl
  | 2, _ => rfl
  | 3, _ => rfl
  | 4, _ => rfl
  | 5, _ => rfl
  | 6, _ => rfl
  | 7, _ => rfl
  | 8, _ => rfl
  | j + 9, hj => omega
theorem hf1 : ∀ j, j < 10 → defaultValue (tyX1 j) = vp_V m_f0 j := by
  intro j hj
  match j, hj with
  | 0, _ => rfl
  | 1, _ => rfl
  | 2, _ => rfl
  | 3, _ => rfl
  | 4, _ => rfl
  | 5, _ => rfl
  | 6, _ => rfl
  | 7, _ => rfl
  | 8, _ => rfl
  | 9, _ => rfl
  | j + 10, hj => omega
set_option maxHeartbeats 4000000 in
set_option maxRecDepth 100000 in
theorem whole_of {Rel : Nat → Nat → XS → MS → Prop} (hs : SimOK Rel) (hskip : ∀ (n k : Nat) (σ : XS) (μ : MS), Rel n k σ μ → Rel n (k + 1) σ μ) {p : Program} {e : Env} {s : State} {m : MethodId} {below : List Frame} {meth : Method} {c : Code} (l : Launch) {b L : Nat} {xs : Nat → Int32} (hL : L ≤ 2049) (C0 : lw_At p s m meth c b L xs) : W p l e room_1 s m #[Value.ref b] below meth c s.heap [] 0 0 (lw_Z below #[Value.ref b] s) (entryFrame m ([Value.ref b] : List Value).toArray 4) := by
  obtain ⟨hx, hb, hr, hml, hown, hts, hX, hbl, hlocks, hgv⟩ := id C0
  have hb : c.code = cL_law := hb
  have hown : s.vm.findClass RL = some m.cls := hown
  have htg : ∀ w ∈ lw_g, w.before #[Value.ref b] s = true := fun w h => hts w (lw_g_in h)
  have hbA : ¬ l_A s b := Nat.not_le.mpr hbl
  obtain ⟨c0, iS0, hKn0⟩ := u_known (C := RX0) (T := TX0) (N := 9) (n := 9) htg x_in (hts (.instantiable RX0 9) (List.mem_of_getElem? (i := 50) rfl))
  obtain ⟨c1, iS1, hKn1⟩ := u_known (C := RX1) (T := TX1) (N := 10) (n := 10) htg m_in (hts (.instantiable RX1 10) (List.mem_of_getElem? (i := 274) rfl))
  obtain ⟨D, hKc⟩ : ∃ D : va_G, ∀ (k : Nat) (q : vw_C), vcl[k]? = some q → u_Kn s q.1 q.2.1 q.2.2 (D.1 k) (D.2 k) := by
    refine ⟨(fun k => if k = 0 then c0 else c1, fun k => if k = 0 then iS0 else iS1), ?_⟩
    intro k q hq
    match k, hq with
    | 0, hq => cases hq; exact hKn0
    | 1, hq => cases hq; exact hKn1
    | k + 2, hq => simp [vcl] at hq
  have hS : va_S (l_A s) s.heap s.heap [] := va_S.rf
  have hK : va_K D vcl [] s := ⟨hKc, fun k q h => by simp at h⟩
  have hP : va_P D vcl [] s.heap := fun k q h => by simp at h
  have hD : va_D (l_A s) [] := ⟨fun i j p q h => by simp at h, fun k q h => by simp at h⟩
  have hl := lv_entry ([.ref b]) (n := 4) (Nat.le_of_ble_eq_true rfl)
  rw [lg_entry_eq]
  generalize (lg_sl ([.ref b]) ++ List.replicate (4 - (lg_sl ([.ref b])).length) Slot.unset).toArray = ls at hl ⊢
  have hl : lv_has ls 4 [(0, .ref b)] := hl
  refine va_new (ci := 0) (fs := x_f0) (C := RX0) (T := TX0) (N := 9) hx hb htg x_in tyX0 tyX0_ok hown (hts (.classLink RL 7 RX0) (List.mem_of_getElem? (i := 49) rfl)) (hts (.instantiable RX0 9) (List.mem_of_getElem? (i := 50) rfl)) (hts (.initialized RX0) (List.mem_of_getElem? (i := 44) rfl)) hK hP hD hS l_hA rfl hf0 (by decide) (by decide) dL_law_0 (fun q1 H hP hD hS => ?_)
  replace hP : va_P D vcl [(q1, .inr (0, x_f0))] H := hP
  replace hD : va_D (l_A s) [(q1, .inr (0, x_f0))] := hD
  refine W.widen (k := 1) (n := 9) (by decide) (by decide) ?_
  refine lv_dup hx hb dL_law_3 rfl ?_
  refine lv_aload_n hx hb dL_law_4 rfl (lv_at hl 0 rfl) ?_
  refine lv_iconst (v := 0) hx hb dL_law_5 (by decide) ?_
  refine vp_callSi (W.runS (As := [.ref b, .int 0]) (rest := [.ref q1, .ref q1]) ⟨hx, hb, hml, hown, htg⟩ (cL_cellM l b L xs) (cwS 2 htg (gw_s (gm 270 rfl rfl) (gm 271 rfl rfl) (gm 43 rfl rfl) (gm 272 rfl rfl)) rfl rfl rfl (by decide +kernel) ⟨by decide, by decide⟩) ⟨fun a U g mk q => ⟨q.1, va_X.moved (u := U) (U := U.calling g mk a) (Vm.Alike.refl U.vm) q.2.1, q.2.2⟩, fun U hU hW => ⟨rfl, (hX.moved hW.alike).kept (by rw [hU]; exact hS.2.1 b hbl hbA), by omega⟩⟩ rfl rfl hl.1 rfl (lv_room (Nat.le_of_ble_eq_true rfl)) dL_law_6 ⟨by decide, by decide⟩) (fun r hr0 => ?_)
  subst hr0
  have hPc := hP.sub (ws' := [(q1, .inr (0, x_f0))]) [0] rfl
  have hDc := hD.sub (ws' := [(q1, .inr (0, x_f0))]) [0] (by decide) rfl
  have hFc := va_free (wc := [(q1, .inr (0, x_f0))]) hD hS l_hA [0] rfl
  refine va_callv (va_runI (As := [.int (if 0 < L then xs 0 else 0)]) (rest := [.ref q1]) ⟨hx, hb, hml, hown, htg⟩ (cX_init l D q1 (if 0 < L then xs 0 else 0) H.size) (cwI 1 htg (gw_all (ws := .code yX0_init cX0_init 2 none :: lw_g) (fun w hw => (List.mem_cons.mp hw).elim (fun h => h ▸ gm 53 rfl rfl) id)) rfl rfl rfl (htg (.initialized RX0) (gm 44 rfl rfl)) (htg (.methodLink RL 15 yX0_init) (gm 51 rfl rfl)) (htg (.instanceMethod yX0_init) (gm 52 rfl rfl)) rfl (by decide +kernel) ⟨by decide, by decide⟩) ⟨fun a U g mk q => by obtain ⟨q0, q1, qP, qK, qD⟩ := q; exact ⟨q0, q1, qP, va_K.moved (u := U) (U := U.calling g mk a) (Vm.Alike.refl U.vm) qK, qD⟩, fun U hU hW => ⟨rfl, by rw [hU], by rw [hU]; exact hPc, va_K.moved hW.alike hK, hDc.weaken (fun _ _ _ _ => trivial)⟩⟩ rfl rfl hl.1 rfl (lv_room (Nat.le_of_ble_eq_true rfl)) dL_law_9 ⟨by decide, by decide⟩) hS (fun q _ h => hFc q h) hFc (fun ad t H1 locs ht hvm hwX hB hz1 hk1 hS => ?_)
  obtain ⟨hP1, hK1, hD1⟩ := hB
  rw [ht] at hP1
  have hKX := va_K.moved hvm.symm hK1
  obtain ⟨hPj, hDj⟩ := va_join (wr := []) (w1 := x_w ad (x_i1 (x_n ad))) hP hD [0] [] rfl rfl (by decide) (by decide) hk1 hFc hP1 hD1
  clear hP hD hPc hDc hFc hk1 hz1 hP1 hD1
  have hP := hPj
  have hD := hDj
  clear hPj hDj
  generalize H1 = H at hP hS ht ⊢
  refine W.widen (k := 5) (n := 2057) (by decide) (by decide) ?_
  replace hP : va_P D vcl (x_w ad (x_i1 (x_n ad))) H := hP
  replace hD : va_D (l_A s) (x_w ad (x_i1 (x_n ad))) := hD
  obtain ⟨eh, en, el⟩ := hwX
  subst eh
  refine lv_astore_n (lv' := [(1, .ref (x_h ad)), (0, .ref b)]) hx hb dL_law_12 rfl hl (by decide) rfl (fun ls hl => ?_)
  refine va_new (ci := 1) (fs := m_f0) (C := RX1) (T := TX1) (N := 10) hx hb htg m_in tyX1 tyX1_ok hown (hts (.classLink RL 18 RX1) (List.mem_of_getElem? (i := 273) rfl)) (hts (.instantiable RX1 10) (List.mem_of_getElem? (i := 274) rfl)) (hts (.initialized RX1) (List.mem_of_getElem? (i := 47) rfl)) hK hP hD hS l_hA rfl hf1 (by decide) (by decide) dL_law_13 (fun q2 H hP hD hS => ?_)
  replace hP : va_P D vcl (x_w ad (x_i1 (x_n ad)) ++ [(q2, .inr (1, m_f0))]) H := hP
  replace hD : va_D (l_A s) (x_w ad (x_i1 (x_n ad)) ++ [(q2, .inr (1, m_f0))]) := hD
  refine W.widen (k := 6) (n := 2067) (by decide) (by decide) ?_
  refine lv_dup hx hb dL_law_16 rfl ?_
  refine lv_aload_n hx hb dL_law_17 rfl (lv_at hl 1 rfl) ?_
  refine lv_iconst (v := 0) hx hb dL_law_18 (by decide) ?_
  refine vp_callSi (W.runS (As := [.ref b, .int 0]) (rest := [.ref q2, .ref q2]) ⟨hx, hb, hml, hown, htg⟩ (cL_cellM l b L xs) (cwS 2 htg (gw_s (gm 270 rfl rfl) (gm 271 rfl rfl) (gm 43 rfl rfl) (gm 272 rfl rfl)) rfl rfl rfl (by decide +kernel) ⟨by decide, by decide⟩) ⟨fun a U g mk q => ⟨q.1, va_X.moved (u := U) (U := U.calling g mk a) (Vm.Alike.refl U.vm) q.2.1, q.2.2⟩, fun U hU hW => ⟨rfl, (hX.moved hW.alike).kept (by rw [hU]; exact hS.2.1 b hbl hbA), by omega⟩⟩ rfl rfl hl.1 rfl (lv_room (Nat.le_of_ble_eq_true rfl)) dL_law_19 ⟨by decide, by decide⟩) (fun r hr0 => ?_)
  subst hr0
  have hPc := hP.sub (ws' := [(q2, .inr (1, m_f0))]) [5] rfl
  have hDc := hD.sub (ws' := [(q2, .inr (1, m_f0))]) [5] (by decide) rfl
  have hFc := va_free (wc := [(q2, .inr (1, m_f0))]) hD hS l_hA [5] rfl
  refine va_callv (va_runI (As := [.int (if 0 < L then xs 0 else 0)]) (rest := [.ref q2]) ⟨hx, hb, hml, hown, htg⟩ (cM_init l D q2 (if 0 < L then xs 0 else 0) H.size) (cwI 1 htg (gw_all (ws := .code yX1_init cX1_init 2 none :: lw_g) (fun w hw => (List.mem_cons.mp hw).elim (fun h => h ▸ gm 277 rfl rfl) id)) rfl rfl rfl (htg (.initialized RX1) (gm 47 rfl rfl)) (htg (.methodLink RL 20 yX1_init) (gm 275 rfl rfl)) (htg (.instanceMethod yX1_init) (gm 276 rfl rfl)) rfl (by decide +kernel) ⟨by decide, by decide⟩) ⟨fun a U g mk q => by obtain ⟨q0, q1, qP, qK, qD⟩ := q; exact ⟨q0, q1, qP, va_K.moved (u := U) (U := U.calling g mk a) (Vm.Alike.refl U.vm) qK, qD⟩, fun U hU hW => ⟨rfl, by rw [hU], by rw [hU]; exact hPc, va_K.moved hW.alike hK, hDc.weaken (fun _ _ _ _ => trivial)⟩⟩ rfl rfl hl.1 rfl (lv_room (Nat.le_of_ble_eq_true rfl)) dL_law_22 ⟨by decide, by decide⟩) hS (fun q _ h => hFc q h) hFc (fun am t H1 locs ht hvm hwM hB hz1 hk1 hS => ?_)
  obtain ⟨hP1, hK1, hD1⟩ := hB
  rw [ht] at hP1
  have hKM := va_K.moved hvm.symm hK1
  obtain ⟨hPj, hDj⟩ := va_join (wr := x_w ad (x_i1 (x_n ad))) (w1 := m_w am m_i1) hP hD [5] [0, 1, 2, 3, 4] rfl rfl (by decide) (by decide) hk1 hFc hP1 hD1
  clear hP hD hPc hDc hFc hk1 hz1 hP1 hD1
  have hP := hPj
  have hD := hDj
  clear hPj hDj
  generalize H1 = H at hP hS ht ⊢
  refine W.widen (k := 11) (n := 3611) (by decide) (by decide) ?_
  obtain ⟨eh2, em⟩ := hwM
  subst eh2
  refine lv_astore_n (lv' := [(2, .ref (m_h am)), (1, .ref (x_h ad)), (0, .ref b)]) hx hb dL_law_25 rfl hl (by decide) rfl (fun ls hl => ?_)
  refine lv_iconst (v := 1) hx hb dL_law_26 (by decide) ?_
  refine lv_istore_n (lv' := [(3, .int 1), (2, .ref (m_h am)), (1, .ref (x_h ad)), (0, .ref b)]) hx hb dL_law_27 rfl hl (by decide) rfl (fun ls hl => ?_)
  have hls := limV_spec (if 0 < L then xs 0 else 0)
  exact law_loop hL C0 hs hskip (n := x_n ad) rfl el (by rw [em, en]) 513 0 (x_i1 (x_n ad)) m_i1 H _ ls (by omega) (hs.1 _ (by rw [en]; exact hls.2.1) (by rw [en]; exact hls.2.2)) ⟨hP, hD, hS, hKX, hKM⟩ (lv_sub hl [3, 2, 1, 0] rfl) (by omega)
end
section
abbrev AS : Type := Nat × (Nat → Nat) × (Nat → Nat) × (Nat → Int32) × (Nat → Int32) × Int32 × Int32 × (Nat → Int32)
def a_c (α : AS) : Nat := α.1
def a_F (α : AS) : Nat → Nat := α.2.1
def a_S (α : AS) : Nat → Nat := α.2.2.1
def a_T (α : AS) : Nat → Int32 := α.2.2.2.1
def a_C (α : AS) : Nat → Int32 := α.2.2.2.2.1
def a_V (α : AS) : Int32 := α.2.2.2.2.2.1
def a_K (α : AS) : Int32 := α.2.2.2.2.2.2.1
def a_un (α : AS) : Nat → Int32 := α.2.2.2.2.2.2.2
/-- the reference's arrays hold α -/
def MR (α : AS) (μ : MS) : Prop :=
  m_ch μ = nI (a_c α) ∧ m_en μ = nI (a_F α (a_c α)) ∧ m_cl μ = a_K α ∧ m_vi μ = a_V α ∧ m_un μ = a_un α ∧
  ∀ j, j < a_c α → m_fi μ j = nI (a_F α j) ∧ m_sz μ j = nI (a_S α j) ∧ m_us μ j = (if a_T α j = 0 then 1 else 0) ∧ ((a_T α j = 1 ∨ a_T α j = 2) → m_ca μ j = a_C α j)
/-- chunks side by side -/
def GE (α : AS) : Prop := a_F α 0 = 0 ∧ (∀ j, j < a_c α → a_F α (j + 1) = a_F α j + a_S α j ∧ 2 ≤ a_S α j) ∧ a_F α (a_c α) ≤ 512
theorem GE.two {α : AS} (h : GE α) : ∀ j, j ≤ a_c α → 2 * j ≤ a_F α j := by
  intro j
  induction j with
  | zero => intro _; omega
  | succ j ih =>
    intro hj
    have h1 := ih (by omega)
    have h2 := h.2.1 j (by omega)
    omega
theorem GE.lt {α : AS} (h : GE α) : ∀ i j, i < j → j ≤ a_c α → a_F α i + a_S α i ≤ a_F α j ∧ a_F α i + 2 ≤ a_F α j := by
  intro i j
  induction j with
  | zero => intro h1; omega
  | succ j ih =>
    intro h1 h2
    have h3 := h.2.1 j (by omega)
    rcases Nat.lt_or_ge i j with h4 | h4
    · have := ih h4 (by omega)
      omega
    · have h5 : i = j := by omega
      subst h5
      omega
theorem GE.c {α : AS} (h : GE α) : a_c α ≤ 256 := by
  have h1 := h.two (a_c α) (Nat.le_refl _)
  have h2 := h.2.2
  omega
theorem GE.le {α : AS} (h : GE α) {j : Nat} (hj : j ≤ a_c α) : a_F α j ≤ 512 := by
  have h2 := h.2.2
  rcases Nat.lt_or_ge j (a_c α) with h1 | h1
  · have := h.lt j (a_c α) h1 (Nat.le_refl _); omega
  · have : j = a_c α := by omega
    subst this; omega
theorem GE.sz {α : AS} (h : GE α) {j : Nat} (hj : j < a_c α) : a_S α j ≤ 512 ∧ a_F α j + a_S α j ≤ a_F α (a_c α) ∧ a_F α j + a_S α j ≤ 512 := by
  have h1 := h.lt j (a_c α) hj (Nat.le_refl _)
  have h2 := h.2.2
  omega
theorem GE.inj {α : AS} (h : GE α) {i j : Nat} (hi : i ≤ a_c α) (hj : j ≤ a_c α) (e : a_F α i = a_F α j) : i = j := by
  rcases Nat.lt_trichotomy i j with h1 | h1 | h1
  · have := h.lt i j h1 hj; omega
  · exact h1
  · have := h.lt j i h1 hi; omega
theorem s_le {a b : Nat} (ha : a < 100000) (hb : b < 100000) : nI a ≤ nI b ↔ a ≤ b := nI_leI (by omega) (by omega)
theorem s_lt {a b : Nat} (ha : a < 100000) (hb : b < 100000) : nI a < nI b ↔ a < b := nI_ltI (by omega) (by omega)
theorem s_eq {a b : Nat} (ha : a < 100000) (hb : b < 100000) : nI a = nI b ↔ a = b := nI_eq (by omega) (by omega)
theorem s_cl {a : Nat} (ha : a < 100000) : (nI a).toNatClampNeg = a := nI_clamp (by omega)
theorem s_in {a n : Nat} (h : a < n) (hn : n < 100000) : vp_in (nI a) n := vp_in_nI h (by omega)
theorem s_pos {a : Nat} (ha : a < 100000) : ¬ nI a < 0 := nI_pos (by omega)
theorem s_pos' {a : Nat} (ha : a < 100000) : 0 ≤ nI a := nI_pos' (by omega)
theorem s_m1 {a : Nat} (ha : a < 100000) : ¬ nI a = -1 := fun h => absurd (show nI a < 0 by rw [h]; decide) (s_pos ha)
theorem s_1 (a : Nat) : nI a + 1 = nI (a + 1) := nI_1 a
theorem s_m (a : Nat) (h : 0 < a) : nI a - 1 = nI (a - 1) := pk_sub (b := 1) h
theorem s_bit (b : Prop) (d : Decidable b) : vp_nar .boolean (if b then 1 else 0) = (if b then 1 else 0) := by
  cases d with
  | isTrue h => rw [if_pos h]; rfl
  | isFalse h => rw [if_neg h]; rfl
theorem MR.ch {α : AS} {μ : MS} (h : MR α μ) : m_ch μ = nI (a_c α) := h.1
theorem MR.en {α : AS} {μ : MS} (h : MR α μ) : m_en μ = nI (a_F α (a_c α)) := h.2.1
theorem MR.cl {α : AS} {μ : MS} (h : MR α μ) : m_cl μ = a_K α := h.2.2.1
theorem MR.vi {α : AS} {μ : MS} (h : MR α μ) : m_vi μ = a_V α := h.2.2.2.1
theorem MR.un {α : AS} {μ : MS} (h : MR α μ) : m_un μ = a_un α := h.2.2.2.2.1
theorem MR.fi {α : AS} {μ : MS} (h : MR α μ) {j : Nat} (hj : j < a_c α) : m_fi μ j = nI (a_F α j) := (h.2.2.2.2.2 j hj).1
theorem MR.sz {α : AS} {μ : MS} (h : MR α μ) {j : Nat} (hj : j < a_c α) : m_sz μ j = nI (a_S α j) := (h.2.2.2.2.2 j hj).2.1
theorem MR.us {α : AS} {μ : MS} (h : MR α μ) {j : Nat} (hj : j < a_c α) : m_us μ j = (if a_T α j = 0 then 1 else 0) := (h.2.2.2.2.2 j hj).2.2.1
theorem MR.ca {α : AS} {μ : MS} (h : MR α μ) {j : Nat} (hj : j < a_c α) : (a_T α j = 1 ∨ a_T α j = 2) → m_ca μ j = a_C α j := (h.2.2.2.2.2 j hj).2.2.2
theorem MR.us0 {α : AS} {μ : MS} (h : MR α μ) {j : Nat} (hj : j < a_c α) : m_us μ j = 0 ↔ ¬ a_T α j = 0 := by
  rw [h.us hj]
  by_cases hz : a_T α j = 0
  · rw [if_pos hz]; exact ⟨fun q => absurd q (by decide), fun q => absurd hz q⟩
  · rw [if_neg hz]; exact ⟨fun _ => hz, fun _ => rfl⟩
theorem M_at {α : AS} {μ : MS} (lim : Int32) (h : MR α μ) (g : GE α) (u : Int32) {post : Int32 → MS → Prop} (h1 : ∀ k, k < a_c α → nI (a_F α k) = u → post (nI k) μ) (h2 : (∀ k, k < a_c α → ¬ nI (a_F α k) = u) → post (-1) μ) : wM_at lim μ u post := by
  have hc := g.c
  have key : ∀ f k, a_c α < k + f → k ≤ a_c α → (∀ i, i < k → ¬ nI (a_F α i) = u) → wM_at_2 lim post f μ u (nI k) := by
    intro f
    induction f with
    | zero => intro k h3 h4; omega
    | succ f ih =>
      intro k h3 h4 h5
      show wM_at_2_s lim post (wM_at_2 lim post f) μ u (nI k)
      refine ⟨fun q => ?_, fun q => ?_⟩
      · rw [h.ch, s_le (by omega) (by omega)] at q
        exact h2 (fun i hi => h5 i (by omega))
      · rw [h.ch, s_le (by omega) (by omega)] at q
        have hk : k < a_c α := by omega
        refine ⟨s_in (by omega) (by omega), ?_⟩
        rw [s_cl (by omega), h.fi hk]
        refine ⟨fun q2 => ?_, fun q2 => h1 k hk q2⟩
        rw [s_1]
        exact ih (k + 1) (by omega) (by omega) (fun i hi => by
          rcases Nat.lt_or_ge i k with h6 | h6
          · exact h5 i h6
          · have : i = k := by omega
            subst this; exact q2)
  exact ⟨a_c α + 1, key (a_c α + 1) 0 (by omega) (by omega) (fun i hi => absurd hi (by omega))⟩
/-- the chunk at a given unit, if it is known -/
theorem M_atk {α : AS} {μ : MS} (lim : Int32) (h : MR α μ) (g : GE α) {k : Nat} (hk : k < a_c α) {post : Int32 → MS → Prop} (h1 : post (nI k) μ) : wM_at lim μ (nI (a_F α k)) post := by
  refine M_at lim h g _ (fun i hi e => ?_) (fun q => absurd rfl (q k hk))
  have hl1 := g.le (Nat.le_of_lt hi)
  have hl2 := g.le (Nat.le_of_lt hk)
  rw [s_eq (by omega) (by omega)] at e
  have := g.inj (Nat.le_of_lt hi) (Nat.le_of_lt hk) e
  subst this
  exact h1
theorem M_top {α : AS} {μ : MS} (lim : Int32) (h : MR α μ) (g : GE α) {post : Int32 → MS → Prop} (h1 : ∀ k, k + 1 = a_c α → ¬ a_T α k = 0 → post (nI k) μ) (h2 : (a_c α = 0 ∨ ∃ k, k + 1 = a_c α ∧ a_T α k = 0) → post (-1) μ) : wM_top lim μ post := by
  have hc := g.c
  refine ⟨fun q => ?_, fun q => ?_⟩
  · rw [h.ch] at q
    exact h2 (Or.inl (by have := (s_le (b := 0) (by omega) (by omega)).mp q; omega))
  · rw [h.ch] at q ⊢
    have hp : 0 < a_c α := by
      rcases Nat.eq_zero_or_pos (a_c α) with z | z
      · rw [z] at q; exact absurd (by decide) q
      · exact z
    rw [s_m _ hp]
    refine ⟨s_in (by omega) (by omega), ?_⟩
    rw [s_cl (by omega)]
    refine ⟨fun q2 => h2 (Or.inr ⟨a_c α - 1, by omega, ?_⟩), fun q2 => h1 (a_c α - 1) (by omega) ?_⟩
    · rw [h.us0 (by omega)] at q2
      exact Decidable.byContradiction fun z => q2 z
    · exact (h.us0 (by omega)).mp q2
end
section
def a_ins {τ : Type} (f : Nat → τ) (k : Nat) (v : τ) : Nat → τ := fun j => if j ≤ k then f j else if j = k + 1 then v else f (j - 1)
def a_del {τ : Type} (f : Nat → τ) (k : Nat) : Nat → τ := fun j => if j ≤ k then f j else f (j + 1)
theorem a_ins_lo {τ : Type} {f : Nat → τ} {k j : Nat} {v : τ} (h : j ≤ k) : a_ins f k v j = f j := if_pos h
theorem a_ins_at {τ : Type} {f : Nat → τ} {k : Nat} {v : τ} : a_ins f k v (k + 1) = v := by unfold a_ins; rw [if_neg (by omega), if_pos rfl]
theorem a_ins_hi {τ : Type} {f : Nat → τ} {k j : Nat} {v : τ} (h : k + 1 < j) : a_ins f k v j = f (j - 1) := by unfold a_ins; rw [if_neg (by omega), if_neg (by omega)]
theorem a_del_lo {τ : Type} {f : Nat → τ} {k j : Nat} (h : j ≤ k) : a_del f k j = f j := if_pos h
theorem a_del_hi {τ : Type} {f : Nat → τ} {k j : Nat} (h : k < j) : a_del f k j = f (j + 1) := if_neg (by omega)
theorem up_at {τ : Type} {f : Nat → τ} {k : Nat} {v : τ} : va_up f k v k = v := if_pos rfl
theorem up_ne {τ : Type} {f : Nat → τ} {k j : Nat} {v : τ} (h : j ≠ k) : va_up f k v j = f j := if_neg h
theorem ud_at {f : Nat → Int32} {k : Nat} {v : Int32} : upd f k v k = v := if_pos rfl
theorem ud_ne {f : Nat → Int32} {k j : Nat} {v : Int32} (h : j ≠ k) : upd f k v j = f j := if_neg h
def a_part (α : AS) (k s : Nat) (v : Int32) : AS := (a_c α + 1, a_ins (a_F α) k (a_F α k + s), va_up (a_ins (a_S α) k (a_S α k - s)) k s, a_ins (a_T α) k v, a_ins (a_C α) k 0, a_V α, a_K α, a_un α)
def a_join (α : AS) (k : Nat) : AS := (a_c α - 1, a_del (a_F α) k, va_up (a_del (a_S α) k) k (a_S α k + a_S α (k + 1)), a_del (a_T α) k, a_del (a_C α) k, a_V α, a_K α, a_un α)
def a_sT (α : AS) (k : Nat) (v : Int32) : AS := (a_c α, a_F α, a_S α, va_up (a_T α) k v, a_C α, a_V α, a_K α, a_un α)
def a_sV (α : AS) (v : Int32) : AS := (a_c α, a_F α, a_S α, a_T α, a_C α, v, a_K α, a_un α)
def a_stor (α : AS) (k : Nat) : AS := (a_c α, a_F α, a_S α, a_T α, va_up (a_C α) k (a_K α + 1), a_V α, a_K α + 1, a_un α)
def a_sun (α : AS) (f : Nat → Int32) : AS := (a_c α, a_F α, a_S α, a_T α, a_C α, a_V α, a_K α, f)
def shr (g : Nat → Int32) (i c : Nat) : Nat → Int32 := fun j => if i < j ∧ j ≤ c then g (j - 1) else g j
theorem shr_0 (g : Nat → Int32) (c : Nat) : shr g c c = g := funext fun j => if_neg (by omega)
theorem shr_lo {g : Nat → Int32} {i c j : Nat} (h : j ≤ i) : shr g i c j = g j := if_neg (by omega)
theorem shr_hi {g : Nat → Int32} {i c j : Nat} (h : i < j) (h2 : j ≤ c) : shr g i c j = g (j - 1) := if_pos ⟨h, h2⟩
theorem shr_s (g : Nat → Int32) {i c : Nat} (h : 1 ≤ i) (h2 : i ≤ c) : upd (shr g i c) i (shr g i c (i - 1)) = shr g (i - 1) c := by
  funext j
  by_cases e : j = i
  · subst e; rw [ud_at, shr_lo (by omega), shr_hi (by omega) h2]
  · rw [ud_ne e]
    by_cases h3 : i < j ∧ j ≤ c
    · rw [shr_hi h3.1 h3.2, shr_hi (by omega) h3.2]
    · unfold shr
      rw [if_neg h3, if_neg (by omega)]
def shl (g : Nat → Int32) (k i : Nat) : Nat → Int32 := fun j => if k < j ∧ j < i then g (j + 1) else g j
theorem shl_0 (g : Nat → Int32) (k : Nat) : shl g k (k + 1) = g := funext fun j => if_neg (by omega)
theorem shl_lo {g : Nat → Int32} {k i j : Nat} (h : j ≤ k) : shl g k i j = g j := if_neg (by omega)
theorem shl_hi {g : Nat → Int32} {k i j : Nat} (h : i ≤ j) : shl g k i j = g j := if_neg (by omega)
theorem shl_in {g : Nat → Int32} {k i j : Nat} (h : k < j) (h2 : j < i) : shl g k i j = g (j + 1) := if_pos ⟨h, h2⟩
theorem shl_s (g : Nat → Int32) {k i : Nat} (h : k < i) : upd (shl g k i) i (shl g k i (i + 1)) = shl g k (i + 1) := by
  funext j
  by_cases e : j = i
  · subst e; rw [ud_at, shl_hi (by omega), shl_in h (by omega)]
  · rw [ud_ne e]
    unfold shl
    by_cases h3 : k < j ∧ j < i
    · rw [if_pos h3, if_pos (by omega)]
    · rw [if_neg h3, if_neg (by omega)]
theorem s_d1 {a : Nat} (h : 0 < a) : nI a + (-1) = nI (a - 1) := sb_m1 h
theorem s_sub {a b : Nat} (h : b ≤ a) : nI a - nI b = nI (a - b) := pk_sub h
theorem M_part {α : AS} {μ : MS} (lim : Int32) (h : MR α μ) (g : GE α) {k s : Nat} {v : Int32} (hk : k < a_c α) (hs : s ≤ a_S α k) (hv : ¬ v = 0) {post : MS → Prop} (hp : ∀ μ', MR (a_part α k s v) μ' → post μ') : wM_part lim μ (nI k) (nI s) post := by
  obtain ⟨un, fi, sz, us, ca, en, ch, cl, vi⟩ := μ
  have hc := g.c
  have hS := g.sz hk
  obtain ⟨c, hcc⟩ : ∃ c, c = a_c α := ⟨_, rfl⟩
  rw [← hcc] at hc hk
  have key : ∀ f i, i ≤ c → k + 1 ≤ i → i < f + (k + 1) → wM_part_5 lim post f (un, shr fi i c, shr sz i c, shr us i c, shr ca i c, en, ch, cl, vi) (nI k) (nI s) (nI i) := by
    intro f
    induction f with
    | zero => intro i h3 h4; omega
    | succ f ih =>
      intro i h1 h2 h3
      show wM_part_5_s lim post (wM_part_5 lim post f) (un, shr fi i c, shr sz i c, shr us i c, shr ca i c, en, ch, cl, vi) (nI k) (nI s) (nI i)
      unfold wM_part_5_s
      rw [s_1, s_le (by omega) (by omega), s_m i (by omega), s_cl (show i < 100000 by omega), s_cl (show i - 1 < 100000 by omega)]
      refine ⟨fun q => ?_, fun q => ?_⟩
      · have e : i = k + 1 := by omega
        subst e
        unfold wM_part_74
        rw [s_1, s_cl (show k < 100000 by omega), s_cl (show k + 1 < 100000 by omega)]
        have i0 : vp_in (nI k) 258 := s_in (by omega) (by omega)
        have i1 : vp_in (nI (k + 1)) 258 := s_in (by omega) (by omega)
        refine ⟨i0, i1, i0, i1, i1, i1, i0, hp _ ?_⟩
        have hch : ch = nI c := by rw [hcc]; exact h.1
        refine ⟨?_, ?_, h.2.2.1, h.2.2.2.1, h.2.2.2.2.1, ?_⟩
        · show ch + 1 = nI (a_c α + 1)
          rw [hch, s_1, hcc]
        · show en = nI (a_ins (a_F α) k (a_F α k + s) (a_c α + 1))
          rw [a_ins_hi (by omega)]
          exact h.2.1
        · intro j hj
          have hj : j < a_c α + 1 := hj
          show upd (shr fi (k + 1) c) (k + 1) (shr fi (k + 1) c k + nI s) j = nI (a_ins (a_F α) k (a_F α k + s) j) ∧ upd (upd (shr sz (k + 1) c) (k + 1) (shr sz (k + 1) c k - nI s)) k (nI s) j = nI (va_up (a_ins (a_S α) k (a_S α k - s)) k s j) ∧ upd (shr us (k + 1) c) (k + 1) 0 j = (if a_ins (a_T α) k v j = 0 then 1 else 0) ∧ ((a_ins (a_T α) k v j = 1 ∨ a_ins (a_T α) k v j = 2) → upd (shr ca (k + 1) c) (k + 1) 0 j = a_ins (a_C α) k 0 j)
          have f0 : fi k = nI (a_F α k) := h.fi (by omega)
          have z0 : sz k = nI (a_S α k) := h.sz (by omega)
          rcases (show j < k ∨ j = k ∨ j = k + 1 ∨ k + 1 < j by omega) with r | r | r | r
          · rw [ud_ne (by omega), ud_ne (by omega), ud_ne (by omega), ud_ne (by omega), ud_ne (by omega), shr_lo (by omega), shr_lo (by omega), shr_lo (by omega), shr_lo (by omega), a_ins_lo (by omega), up_ne (by omega), a_ins_lo (by omega), a_ins_lo (by omega), a_ins_lo (by omega)]
            exact ⟨h.fi (by omega), h.sz (by omega), h.us (by omega), h.ca (by omega)⟩
          · subst r
            rw [ud_ne (by omega), ud_at, ud_ne (by omega), ud_ne (by omega), shr_lo (by omega), shr_lo (by omega), shr_lo (by omega), a_ins_lo (by omega), up_at, a_ins_lo (by omega), a_ins_lo (by omega)]
            exact ⟨h.fi (by omega), rfl, h.us (by omega), h.ca (by omega)⟩
          · subst r
            rw [ud_at, ud_ne (by omega), ud_at, ud_at, ud_at, shr_lo (by omega), shr_lo (by omega), a_ins_at, up_ne (by omega), a_ins_at, a_ins_at, a_ins_at, f0, z0, nI_add, s_sub hs, if_neg hv]
            exact ⟨rfl, rfl, rfl, fun _ => rfl⟩
          · rw [ud_ne (by omega), ud_ne (by omega), ud_ne (by omega), ud_ne (by omega), ud_ne (by omega), shr_hi (by omega) (by omega), shr_hi (by omega) (by omega), shr_hi (by omega) (by omega), shr_hi (by omega) (by omega), a_ins_hi (by omega), up_ne (by omega), a_ins_hi (by omega), a_ins_hi (by omega), a_ins_hi (by omega)]
            exact ⟨h.fi (by omega), h.sz (by omega), h.us (by omega), h.ca (by omega)⟩
      · have i0 : vp_in (nI (i - 1)) 258 := s_in (by omega) (by omega)
        have i1 : vp_in (nI i) 258 := s_in (by omega) (by omega)
        refine ⟨i0, i1, i0, i1, i0, i1, i0, i1, ?_⟩
        rw [s_d1 (by omega)]
        have hb : vp_nar .boolean (shr us i c (i - 1)) = shr us i c (i - 1) := by
          rw [shr_lo (by omega), show us (i - 1) = _ from h.us (by omega)]
          exact s_bit _ _
        have e := ih (i - 1) (by omega) (by omega) (by omega)
        rw [← shr_s fi (by omega) h1, ← shr_s sz (by omega) h1, ← shr_s us (by omega) h1, ← shr_s ca (by omega) h1] at e
        rw [← hb] at e
        exact e
  have hch : ch = nI c := by rw [hcc]; exact h.1
  refine ⟨c + 1, ?_⟩
  have e := key (c + 1) c (by omega) (by omega) (by omega)
  rw [shr_0, shr_0, shr_0, shr_0] at e
  show wM_part_5 lim post (c + 1) _ (nI k) (nI s) ch
  rw [hch]
  rw [hch] at e
  exact e
end
section
theorem M_join {α : AS} {μ : MS} (lim : Int32) (h : MR α μ) (g : GE α) {k : Nat} (hk : k + 1 < a_c α) {post : MS → Prop} (hp : ∀ μ', MR (a_join α k) μ' → post μ') : wM_join lim μ (nI k) post := by
  obtain ⟨un, fi, sz, us, ca, en, ch, cl, vi⟩ := μ
  have hc := g.c
  have hS := g.sz (show k < a_c α by omega)
  have hS2 := g.sz hk
  obtain ⟨c, hcc⟩ : ∃ c, c = a_c α := ⟨_, rfl⟩
  rw [← hcc] at hc hk
  have hch : ch = nI c := by rw [hcc]; exact h.1
  have z0 : sz k = nI (a_S α k) := h.sz (by omega)
  have z1 : sz (k + 1) = nI (a_S α (k + 1)) := h.sz (by omega)
  obtain ⟨s1, hs1⟩ : ∃ s1, s1 = upd sz k (nI (a_S α k + a_S α (k + 1))) := ⟨_, rfl⟩
  have key : ∀ f i, i + 1 ≤ c → k + 1 ≤ i → c ≤ i + f → wM_join_25 lim post f (un, shl fi k i, shl s1 k i, shl us k i, shl ca k i, en, ch, cl, vi) (nI i) := by
    intro f
    induction f with
    | zero => intro i h3 h4; omega
    | succ f ih =>
      intro i h1 h2 h3
      show wM_join_25_s lim post (wM_join_25 lim post f) (un, shl fi k i, shl s1 k i, shl us k i, shl ca k i, en, ch, cl, vi) (nI i)
      unfold wM_join_25_s
      rw [s_1, show m_ch (un, shl fi k i, shl s1 k i, shl us k i, shl ca k i, en, ch, cl, vi) = nI c from hch, s_le (by omega) (by omega), s_cl (show i < 100000 by omega), s_cl (show i + 1 < 100000 by omega)]
      refine ⟨fun q => ?_, fun q => ?_⟩
      · have e : i + 1 = c := by omega
        refine hp _ ?_
        refine ⟨?_, ?_, h.2.2.1, h.2.2.2.1, h.2.2.2.2.1, ?_⟩
        · show ch - 1 = nI (a_c α - 1)
          rw [hch, s_m c (by omega), hcc]
        · show en = nI (a_del (a_F α) k (a_c α - 1))
          rw [a_del_hi (by omega), show a_c α - 1 + 1 = a_c α by omega]
          exact h.2.1
        · intro j hj
          have hj : j < a_c α - 1 := hj
          show shl fi k i j = nI (a_del (a_F α) k j) ∧ shl s1 k i j = nI (va_up (a_del (a_S α) k) k (a_S α k + a_S α (k + 1)) j) ∧ shl us k i j = (if a_del (a_T α) k j = 0 then 1 else 0) ∧ ((a_del (a_T α) k j = 1 ∨ a_del (a_T α) k j = 2) → shl ca k i j = a_del (a_C α) k j)
          rcases (show j < k ∨ j = k ∨ k < j by omega) with r | r | r
          · rw [shl_lo (by omega), shl_lo (by omega), shl_lo (by omega), shl_lo (by omega), a_del_lo (by omega), up_ne (by omega), a_del_lo (by omega), a_del_lo (by omega), a_del_lo (by omega), hs1, ud_ne (by omega)]
            exact ⟨h.fi (by omega), h.sz (by omega), h.us (by omega), h.ca (by omega)⟩
          · subst r
            rw [shl_lo (by omega), shl_lo (by omega), shl_lo (by omega), shl_lo (by omega), a_del_lo (by omega), up_at, a_del_lo (by omega), a_del_lo (by omega), hs1, ud_at]
            exact ⟨h.fi (by omega), rfl, h.us (by omega), h.ca (by omega)⟩
          · rw [shl_in r (by omega), shl_in r (by omega), shl_in r (by omega), shl_in r (by omega), a_del_hi r, up_ne (by omega), a_del_hi r, a_del_hi r, a_del_hi r, hs1, ud_ne (by omega)]
            exact ⟨h.fi (by omega), h.sz (by omega), h.us (by omega), h.ca (by omega)⟩
      · have i0 : vp_in (nI (i + 1)) 258 := s_in (by omega) (by omega)
        have i1 : vp_in (nI i) 258 := s_in (by omega) (by omega)
        refine ⟨i0, i1, i0, i1, i0, i1, i0, i1, ?_⟩
        have hb : vp_nar .boolean (shl us k i (i + 1)) = shl us k i (i + 1) := by
          rw [shl_hi (by omega), show us (i + 1) = _ from h.us (by omega)]
          exact s_bit _ _
        have e := ih (i + 1) (by omega) (by omega) (by omega)
        rw [← shl_s fi (by omega), ← shl_s s1 (by omega), ← shl_s us (by omega), ← shl_s ca (by omega)] at e
        rw [← hb] at e
        exact e
  unfold wM_join
  rw [s_1, s_cl (show k < 100000 by omega), s_cl (show k + 1 < 100000 by omega)]
  have i0 : vp_in (nI k) 258 := s_in (by omega) (by omega)
  have i1 : vp_in (nI (k + 1)) 258 := s_in (by omega) (by omega)
  refine ⟨i0, i1, i0, c, ?_⟩
  have e := key c (k + 1) (by omega) (by omega) (by omega)
  rw [shl_0, shl_0, shl_0, shl_0, hs1, ← nI_add, ← z0, ← z1] at e
  exact e
def a_stor2 (α : AS) (k : Nat) (v : Int32) : AS := (a_c α, a_F α, a_S α, va_up (a_T α) k v, va_up (a_C α) k (a_K α + 1), a_V α, a_K α + 1, a_un α)
theorem M_store {α : AS} {μ : MS} (lim : Int32) (h : MR α μ) (g : GE α) {k : Nat} {v : Int32} (hk : k < a_c α) (hv : ¬ v = 0) (hT : ¬ a_T α k = 0) {post : MS → Prop} (hp : ∀ μ', MR (a_stor2 α k v) μ' → post μ') : wM_store lim μ (nI k) post := by
  obtain ⟨un, fi, sz, us, ca, en, ch, cl, vi⟩ := μ
  have hc := g.c
  have hcl : cl = a_K α := h.cl
  unfold wM_store
  rw [s_cl (show k < 100000 by omega)]
  refine ⟨s_in (by omega) (by omega), hp _ ⟨h.1, h.2.1, ?_, h.2.2.2.1, h.2.2.2.2.1, ?_⟩⟩
  · show cl + 1 = a_K α + 1
    rw [hcl]
  · intro j hj
    show fi j = nI (a_F α j) ∧ sz j = nI (a_S α j) ∧ us j = (if va_up (a_T α) k v j = 0 then 1 else 0) ∧ ((va_up (a_T α) k v j = 1 ∨ va_up (a_T α) k v j = 2) → upd ca k (cl + 1) j = va_up (a_C α) k (a_K α + 1) j)
    have hj : j < a_c α := hj
    by_cases e : j = k
    · subst e
      rw [ud_at, up_at, up_at, hcl, if_neg hv]
      have u := h.us hj
      rw [if_neg hT] at u
      exact ⟨h.fi hj, h.sz hj, u, fun _ => rfl⟩
    · rw [ud_ne e, up_ne e, up_ne e]
      exact ⟨h.fi hj, h.sz hj, h.us hj, h.ca hj⟩
theorem MR.use {α : AS} {μ : MS} (h : MR α μ) {k : Nat} (hk : k < a_c α) : MR (a_sT α k 0) (m_sus μ (upd (m_us μ) k 1)) := by
  obtain ⟨un, fi, sz, us, ca, en, ch, cl, vi⟩ := μ
  refine ⟨h.1, h.2.1, h.2.2.1, h.2.2.2.1, h.2.2.2.2.1, ?_⟩
  intro j hj
  have hj : j < a_c α := hj
  show fi j = nI (a_F α j) ∧ sz j = nI (a_S α j) ∧ upd us k 1 j = (if va_up (a_T α) k 0 j = 0 then 1 else 0) ∧ ((va_up (a_T α) k 0 j = 1 ∨ va_up (a_T α) k 0 j = 2) → ca j = a_C α j)
  by_cases e : j = k
  · subst e
    rw [ud_at, up_at, if_pos rfl]
    exact ⟨h.fi hj, h.sz hj, rfl, fun q => absurd q (by decide)⟩
  · rw [ud_ne e, up_ne e]
    exact ⟨h.fi hj, h.sz hj, h.us hj, h.ca hj⟩
theorem MR.unuse {α : AS} {μ : MS} (h : MR α μ) {k : Nat} {v : Int32} (hk : k < a_c α) (hv : ¬ v = 0 ∧ ¬ v = 1 ∧ ¬ v = 2) : MR (a_sT α k v) (m_sus μ (upd (m_us μ) k 0)) := by
  obtain ⟨un, fi, sz, us, ca, en, ch, cl, vi⟩ := μ
  refine ⟨h.1, h.2.1, h.2.2.1, h.2.2.2.1, h.2.2.2.2.1, ?_⟩
  intro j hj
  have hj : j < a_c α := hj
  show fi j = nI (a_F α j) ∧ sz j = nI (a_S α j) ∧ upd us k 0 j = (if va_up (a_T α) k v j = 0 then 1 else 0) ∧ ((va_up (a_T α) k v j = 1 ∨ va_up (a_T α) k v j = 2) → ca j = a_C α j)
  by_cases e : j = k
  · subst e
    rw [ud_at, up_at, if_neg hv.1]
    exact ⟨h.fi hj, h.sz hj, rfl, fun q => q.elim (fun z => absurd z hv.2.1) (fun z => absurd z hv.2.2)⟩
  · rw [ud_ne e, up_ne e]
    exact ⟨h.fi hj, h.sz hj, h.us hj, h.ca hj⟩
/-- another code of a free chunk that lies in no store -/
theorem MR.code {α : AS} {μ : MS} (h : MR α μ) {k : Nat} {v : Int32} (hT : ¬ a_T α k = 0) (hv : ¬ v = 0 ∧ ¬ v = 1 ∧ ¬ v = 2) : MR (a_sT α k v) μ := by
  refine ⟨h.1, h.2.1, h.2.2.1, h.2.2.2.1, h.2.2.2.2.1, ?_⟩
  intro j hj
  have hj : j < a_c α := hj
  show m_fi μ j = nI (a_F α j) ∧ m_sz μ j = nI (a_S α j) ∧ m_us μ j = (if va_up (a_T α) k v j = 0 then 1 else 0) ∧ ((va_up (a_T α) k v j = 1 ∨ va_up (a_T α) k v j = 2) → m_ca μ j = a_C α j)
  by_cases e : j = k
  · subst e
    rw [up_at, if_neg hv.1]
    have u := h.us hj
    rw [if_neg hT] at u
    exact ⟨h.fi hj, h.sz hj, u, fun q => q.elim (fun z => absurd z hv.2.1) (fun z => absurd z hv.2.2)⟩
  · rw [up_ne e]
    exact ⟨h.fi hj, h.sz hj, h.us hj, h.ca hj⟩
theorem MR.vic {α : AS} {μ : MS} (h : MR α μ) (v : Int32) : MR (a_sV α v) (m_svi μ v) := ⟨h.1, h.2.1, h.2.2.1, rfl, h.2.2.2.2.1, h.2.2.2.2.2⟩
theorem M_cut {α : AS} {μ : MS} (lim : Int32) (h : MR α μ) (g : GE α) {k s : Nat} {v : Int32} (hk : k < a_c α) (hs : s ≤ a_S α k) (hv : ¬ v = 0) {post : Int32 → MS → Prop} (h0 : a_S α k < s + 2 → ∀ μ', MR (a_sT α k 0) μ' → post 0 μ') (h1 : s + 2 ≤ a_S α k → ∀ μ', MR (a_part (a_sT α k 0) k s v) μ' → post 1 μ') : wM_cut lim μ (nI k) (nI s) post := by
  have hc := g.c
  have hS := g.sz hk
  have u := h.use hk
  unfold wM_cut
  rw [s_cl (show k < 100000 by omega), show m_sz (m_sus μ (upd (m_us μ) k 1)) k = m_sz μ k from rfl, h.sz hk, s_sub hs]
  have i0 : vp_in (nI k) 258 := s_in (by omega) (by omega)
  refine ⟨i0, i0, fun q => ?_, fun q => ?_⟩
  · have q := (s_le (a := 2) (by omega) (by omega)).mp q
    exact M_part lim u g hk hs hv (fun μ' hm => h1 (by omega) μ' hm)
  · have q : ¬ 2 ≤ a_S α k - s := fun z => q ((s_le (a := 2) (by omega) (by omega)).mpr z)
    exact h0 (by omega) _ u
end
section
def bstT (rc : MS → Int32 → Int32 → Int32 → Int32 → Prop) (σ : MS) (v1 v2 v3 v4 : Int32) : Prop := (vp_in v4 258 ∧ (((m_sz σ v4.toNatClampNeg) < v1 → rc σ v1 v2 v3 (v4 + 1)) ∧ (¬ (m_sz σ v4.toNatClampNeg) < v1 → (vp_in v4 258 ∧ ((v2 < (m_sz σ v4.toNatClampNeg) → rc σ v1 v2 v3 (v4 + 1)) ∧ (¬ v2 < (m_sz σ v4.toNatClampNeg) → ((v3 < 0 → rc σ v1 v2 v4 (v4 + 1)) ∧ (¬ v3 < 0 → (vp_in v4 258 ∧ (vp_in v3 258 ∧ (((m_sz σ v4.toNatClampNeg) < (m_sz σ v3.toNatClampNeg) → rc σ v1 v2 v4 (v4 + 1)) ∧ (¬ (m_sz σ v4.toNatClampNeg) < (m_sz σ v3.toNatClampNeg) → (vp_in v4 258 ∧ (vp_in v3 258 ∧ ((¬ (m_sz σ v4.toNatClampNeg) = (m_sz σ v3.toNatClampNeg) → rc σ v1 v2 v3 (v4 + 1)) ∧ ((m_sz σ v4.toNatClampNeg) = (m_sz σ v3.toNatClampNeg) → (vp_in v4 258 ∧ (vp_in v3 258 ∧ (((m_ca σ v4.toNatClampNeg) ≤ (m_ca σ v3.toNatClampNeg) → rc σ v1 v2 v3 (v4 + 1)) ∧ (¬ (m_ca σ v4.toNatClampNeg) ≤ (m_ca σ v3.toNatClampNeg) → rc σ v1 v2 v4 (v4 + 1)))))))))))))))))))))
def TO (α : AS) (j : Nat) : Prop := a_T α j = 0 ∨ (a_T α j = 1 ∧ a_S α j < 16 ∧ j + 1 ≠ a_c α) ∨ (a_T α j = 2 ∧ 16 ≤ a_S α j ∧ j + 1 ≠ a_c α) ∨ (a_T α j = 3 ∧ a_V α = nI (a_F α j) ∧ j + 1 ≠ a_c α) ∨ (a_T α j = 4 ∧ j + 1 = a_c α)
def WF (n : Nat) (α : AS) : Prop := GE α ∧ a_F α (a_c α) ≤ n ∧ n ≤ 512 ∧ (∀ j, j < a_c α → TO α j) ∧ (∀ j, j + 1 < a_c α → a_T α j = 0 ∨ a_T α (j + 1) = 0) ∧ (a_V α = -1 ∨ ∃ j, j < a_c α ∧ a_V α = nI (a_F α j) ∧ a_T α j = 3)
theorem WF.ge {n : Nat} {α : AS} (w : WF n α) : GE α := w.1
theorem WF.to {n : Nat} {α : AS} (w : WF n α) {j : Nat} (hj : j < a_c α) : TO α j := w.2.2.2.1 j hj
/-- the victim is the chunk that the victim's unit names -/
theorem WF.v3 {n : Nat} {α : AS} (w : WF n α) {j : Nat} (hj : j < a_c α) (e : a_V α = nI (a_F α j)) : a_T α j = 3 := by
  have g := w.ge
  rcases w.2.2.2.2.2 with h | ⟨i, hi, h1, h2⟩
  · have := g.le (Nat.le_of_lt hj)
    exact absurd (e.symm.trans h) (s_m1 (by omega))
  · have l1 := g.le (Nat.le_of_lt hi)
    have l2 := g.le (Nat.le_of_lt hj)
    have e2 := (s_eq (by omega) (by omega)).mp (h1.symm.trans e)
    have := g.inj (Nat.le_of_lt hi) (Nat.le_of_lt hj) e2
    subst this
    exact h2
theorem M_stateOf {n : Nat} {α : AS} {μ : MS} (lim : Int32) (h : MR α μ) (w : WF n α) {k : Nat} (hk : k < a_c α) {post : Int32 → MS → Prop} (hp : post (a_T α k) μ) : wM_stateOf lim μ (nI k) post := by
  have g := w.ge
  have hc := g.c
  have hS := g.sz hk
  have hF := (g.2.1 k hk).1
  have hE := g.2.2
  have i0 : vp_in (nI k) 258 := s_in (by omega) (by omega)
  unfold wM_stateOf
  rw [s_cl (show k < 100000 by omega), h.fi hk, h.sz hk, h.en, h.vi, nI_add]
  have t := w.to hk
  refine ⟨i0, fun q => ⟨i0, i0, fun q2 => ⟨i0, fun q3 => ⟨i0, fun q4 => ?_, fun q4 => ?_⟩, fun q3 => ?_⟩, fun q2 => ?_⟩, fun q => ?_⟩
  · have q4 := (s_le (a := 16) (by omega) (by omega)).mp q4
    have q := (h.us0 hk).mp q
    rcases t with t | t | t | t | t
    · exact absurd t q
    · omega
    · rw [t.1] at hp; exact hp
    · exact absurd t.2.1.symm q3
    · exact absurd (by rw [← t.2, hF]) q2
  · have q4 : ¬ 16 ≤ a_S α k := fun z => q4 ((s_le (a := 16) (by omega) (by omega)).mpr z)
    have q := (h.us0 hk).mp q
    rcases t with t | t | t | t | t
    · exact absurd t q
    · rw [t.1] at hp; exact hp
    · omega
    · exact absurd t.2.1.symm q3
    · exact absurd (by rw [← t.2, hF]) q2
  · rw [w.v3 hk q3.symm] at hp; exact hp
  · have q := (h.us0 hk).mp q
    have q2 := (s_eq (by omega) (by omega)).mp q2
    have e : k + 1 = a_c α := g.inj (by omega) (Nat.le_refl _) (by rw [hF]; exact q2)
    rcases t with t | t | t | t | t
    · exact absurd t q
    · omega
    · omega
    · omega
    · rw [t.1] at hp; exact hp
  · have q : a_T α k = 0 := Decidable.byContradiction fun z => q ((h.us0 hk).mpr z)
    rw [q] at hp; exact hp
def cand (α : AS) (lo hi i : Nat) : Prop := (a_T α i = 1 ∨ a_T α i = 2) ∧ lo ≤ a_S α i ∧ a_S α i ≤ hi
def bet (α : AS) (b i : Nat) : Prop := a_S α b < a_S α i ∨ (a_S α b = a_S α i ∧ (a_C α i < a_C α b ∨ (a_C α i = a_C α b ∧ b ≤ i)))
def BstU (α : AS) (lo hi m b : Nat) : Prop := b < m ∧ cand α lo hi b ∧ ∀ i, i < m → cand α lo hi i → bet α b i
def BI (α : AS) (lo hi m : Nat) (v : Int32) : Prop := (v = -1 ∧ ∀ i, i < m → ¬ cand α lo hi i) ∨ ∃ b, v = nI b ∧ BstU α lo hi m b
theorem BI.no {α : AS} {lo hi m : Nat} {v : Int32} (h : BI α lo hi m v) (hn : ¬ cand α lo hi m) : BI α lo hi (m + 1) v := by
  have ex : ∀ {i : Nat}, i < m + 1 → cand α lo hi i → i < m := fun {i} h1 h2 => by
    rcases Nat.lt_or_ge i m with z | z
    · exact z
    · have : i = m := by omega
      subst this; exact absurd h2 hn
  rcases h with h | ⟨b, e, h1, h2, h3⟩
  · exact Or.inl ⟨h.1, fun i hi hc => h.2 i (ex hi hc) hc⟩
  · exact Or.inr ⟨b, e, by omega, h2, fun i hi hc => h3 i (ex hi hc) hc⟩
theorem BI.new {α : AS} {lo hi m : Nat} (h : ∀ i, i < m → ¬ cand α lo hi i) (hc : cand α lo hi m) : BI α lo hi (m + 1) (nI m) := by
  refine Or.inr ⟨m, rfl, by omega, hc, fun i hi h2 => ?_⟩
  rcases Nat.lt_or_ge i m with z | z
  · exact absurd h2 (h i z)
  · have : i = m := by omega
    subst this; exact Or.inr ⟨rfl, Or.inr ⟨rfl, Nat.le_refl _⟩⟩
theorem BI.rep {α : AS} {lo hi m b : Nat} (h : BstU α lo hi m b) (hc : cand α lo hi m) (hb : a_S α m < a_S α b ∨ (a_S α m = a_S α b ∧ a_C α b < a_C α m)) : BI α lo hi (m + 1) (nI m) := by
  refine Or.inr ⟨m, rfl, by omega, hc, fun i hi h2 => ?_⟩
  rcases Nat.lt_or_ge i m with z | z
  · rcases hb with hb | hb <;> rcases h.2.2 i z h2 with q | ⟨q, r⟩
    · exact Or.inl (by omega)
    · exact Or.inl (by omega)
    · exact Or.inl (by omega)
    · refine Or.inr ⟨by omega, Or.inl ?_⟩
      rcases r with r | r
      · exact Int32.lt_trans r hb.2
      · rw [r.1]; exact hb.2
  · have : i = m := by omega
    subst this; exact Or.inr ⟨rfl, Or.inr ⟨rfl, Nat.le_refl _⟩⟩
theorem BI.keep {α : AS} {lo hi m b : Nat} (h : BstU α lo hi m b) (hb : bet α b m) : BI α lo hi (m + 1) (nI b) := by
  refine Or.inr ⟨b, rfl, by have := h.1; omega, h.2.1, fun i hi h2 => ?_⟩
  rcases Nat.lt_or_ge i m with z | z
  · exact h.2.2 i z h2
  · have : i = m := by omega
    subst this; exact hb
theorem bst_step {n : Nat} {α : AS} {μ : MS} (h : MR α μ) (w : WF n α) {lo hi m : Nat} (hlo : lo < 100000) (hhi : hi < 100000) (hm : m < a_c α) (hT : a_T α m = 1 ∨ a_T α m = 2) {v3 : Int32} (hI : BI α lo hi m v3) {rc : MS → Int32 → Int32 → Int32 → Int32 → Prop} (hrc : ∀ v, BI α lo hi (m + 1) v → rc μ (nI lo) (nI hi) v (nI (m + 1))) : bstT rc μ (nI lo) (nI hi) v3 (nI m) := by
  have g := w.ge
  have hc := g.c
  have hS := g.sz hm
  have i0 : vp_in (nI m) 258 := s_in (by omega) (by omega)
  unfold bstT
  rw [s_cl (show m < 100000 by omega), h.sz hm, s_1, s_lt (by omega) hlo, s_lt hhi (by omega)]
  refine ⟨i0, fun q => hrc _ (hI.no (fun z => by have := z.2.1; omega)), fun q => ⟨i0, fun q2 => hrc _ (hI.no (fun z => by have := z.2.2; omega)), fun q2 => ?_⟩⟩
  have cm : cand α lo hi m := ⟨hT, by omega, by omega⟩
  rcases hI with hI | ⟨b, rfl, hI⟩
  · obtain ⟨rfl, hI⟩ := hI
    exact ⟨fun _ => hrc _ (BI.new hI cm), fun q3 => absurd (by decide) q3⟩
  · have hb := hI.1
    have hSb := g.sz (show b < a_c α by omega)
    have i1 : vp_in (nI b) 258 := s_in (by omega) (by omega)
    refine ⟨fun q3 => absurd q3 (s_pos (by omega)), fun q3 => ⟨i0, i1, ?_⟩⟩
    rw [s_cl (show b < 100000 by omega), h.sz (show b < a_c α by omega), s_lt (by omega) (by omega), s_eq (by omega) (by omega), h.ca hm hT, h.ca (show b < a_c α by omega) hI.2.1.1]
    refine ⟨fun q4 => hrc _ (BI.rep hI cm (Or.inl q4)), fun q4 => ⟨i0, i1, fun q5 => hrc _ (BI.keep hI (Or.inl (by omega))), fun q5 => ⟨i0, i1, fun q6 => hrc _ (BI.keep hI (Or.inr ⟨q5.symm, ?_⟩)), fun q6 => hrc _ (BI.rep hI cm (Or.inr ⟨q5, Int32.not_le.mp q6⟩))⟩⟩⟩
    rcases Int32.lt_or_eq_of_le q6 with z | z
    · exact Or.inl z
    · exact Or.inr ⟨z, by omega⟩
theorem M_best {n : Nat} {α : AS} {μ : MS} (lim : Int32) (h : MR α μ) (w : WF n α) {lo hi : Nat} (hlo : lo < 100000) (hhi : hi < 100000) {post : Int32 → MS → Prop} (h1 : ∀ b, BstU α lo hi (a_c α) b → post (nI b) μ) (h2 : (∀ i, i < a_c α → ¬ cand α lo hi i) → post (-1) μ) : wM_best lim μ (nI lo) (nI hi) post := by
  have g := w.ge
  have hc := g.c
  have key : ∀ f m v3, a_c α < m + f → m ≤ a_c α → BI α lo hi m v3 → wM_best_5 lim post f μ (nI lo) (nI hi) v3 (nI m) := by
    intro f
    induction f with
    | zero => intro m v3 h3 h4; omega
    | succ f ih =>
      intro m v3 h3 h4 hI
      show wM_best_5_s lim post (wM_best_5 lim post f) μ (nI lo) (nI hi) v3 (nI m)
      refine ⟨fun q => ?_, fun q => ?_⟩
      · rw [h.ch, s_le (by omega) (by omega)] at q
        have e : m = a_c α := by omega
        subst e
        rcases hI with hI | ⟨b, rfl, hI⟩
        · rw [hI.1]; exact h2 hI.2
        · exact h1 b hI
      · rw [h.ch, s_le (by omega) (by omega)] at q
        have hm : m < a_c α := by omega
        have hrc : ∀ v, BI α lo hi (m + 1) v → wM_best_5 lim post f μ (nI lo) (nI hi) v (nI (m + 1)) := fun v hv => ih (m + 1) v (by omega) (by omega) hv
        refine M_stateOf lim h w hm ?_
        refine ⟨fun e => ?_, fun e => ⟨fun e2 => ?_, fun e2 => ?_⟩⟩
        · exact bst_step h w hlo hhi hm (Or.inl e) hI hrc
        · show wM_best_5 lim post f μ (nI lo) (nI hi) v3 (nI m + 1)
          rw [s_1]
          exact hrc _ (hI.no (fun z => z.1.elim e e2))
        · exact bst_step h w hlo hhi hm (Or.inr e2) hI hrc
  exact ⟨a_c α + 1, key (a_c α + 1) 0 (-1) (by omega) (by omega) (Or.inl ⟨rfl, fun i hi => absurd hi (by omega)⟩)⟩
theorem BstU.uniq {α : AS} {lo hi m a b : Nat} (h1 : BstU α lo hi m a) (h2 : BstU α lo hi m b) : a = b := by
  have e1 := h1.2.2 b h2.1 h2.2.1
  have e2 := h2.2.2 a h1.1 h1.2.1
  rcases e1 with e1 | ⟨e1, f1⟩ <;> rcases e2 with e2 | ⟨e2, f2⟩
  · omega
  · omega
  · omega
  · rcases f1 with f1 | f1 <;> rcases f2 with f2 | f2
    · exact absurd (Int32.lt_trans f1 f2) (Int32.lt_irrefl)
    · rw [f2.1] at f1; exact absurd f1 (Int32.lt_irrefl)
    · rw [f1.1] at f2; exact absurd f2 (Int32.lt_irrefl)
    · omega
end
section
def a_code (s : Nat) : Int32 := if s < 16 then 1 else 2
theorem a_code_n (s : Nat) : ¬ a_code s = 0 ∧ (a_code s = 1 ∨ a_code s = 2) := by unfold a_code; split <;> decide
def NV (α : AS) (s : Nat) : Prop := ∀ v, v < a_c α → a_T α v = 3 → a_S α v < s
def NC (α : AS) (lo hi : Nat) : Prop := ∀ i, i < a_c α → ¬ cand α lo hi i
def cutV (α : AS) (v s : Nat) : AS := if a_S α v < s + 2 then a_sV (a_sT α v 0) (-1) else a_sV (a_part (a_sT α v 0) v s 3) (nI (a_F α v + s))
def cutT (α : AS) (t s : Nat) : AS := if a_S α t < s + 2 then a_sT α t 0 else a_part (a_sT α t 0) t s 4
def cutS (α : AS) (b s : Nat) : AS := if a_S α b < s + 2 then a_sT α b 0 else a_stor2 (a_part (a_sT α b 0) b s 5) (b + 1) (a_code (a_S α b - s))
def cutN0 (α : AS) (b s : Nat) : AS := a_sV (a_part (a_sT α b 0) b s 3) (nI (a_F α b + s))
def cutN1 (α : AS) (b s w : Nat) : AS := a_sV (a_stor2 (a_part (a_sT α b 0) b s 3) (if w < b then w else w + 1) (a_code (a_S α w))) (nI (a_F α b + s))
def hi1 (s : Nat) : Nat := if s < 15 then s + 1 else s
def TS (α : AS) (s k : Nat) (β : AS) : Prop :=
  (BstU α s (hi1 s) (a_c α) k ∧ β = a_sT α k 0) ∨
  (NC α s (hi1 s) ∧ k < a_c α ∧ a_T α k = 3 ∧ s ≤ a_S α k ∧ β = cutV α k s) ∨
  (NC α s (hi1 s) ∧ NV α s ∧ BstU α (s + 1) 1000 (a_c α) k ∧ ((a_S α k < s + 2 ∧ β = a_sT α k 0) ∨ (s + 2 ≤ a_S α k ∧ a_V α = -1 ∧ β = cutN0 α k s) ∨ (s + 2 ≤ a_S α k ∧ ∃ w, w < a_c α ∧ a_T α w = 3 ∧ β = cutN1 α k s w)))
def TL (α : AS) (s k : Nat) (β : AS) : Prop :=
  (BstU α s 1000 (a_c α) k ∧ (∀ v, v < a_c α → a_T α v = 3 → a_S α v < s ∨ a_S α k < a_S α v) ∧ β = cutS α k s) ∨
  (k < a_c α ∧ a_T α k = 3 ∧ s ≤ a_S α k ∧ (∀ b, BstU α s 1000 (a_c α) b → a_S α k ≤ a_S α b) ∧ β = cutV α k s)
def NoSt (α : AS) (s : Nat) : Prop := NC α s 1000 ∧ NV α s
theorem WF.v1 {n : Nat} {α : AS} (w : WF n α) {j : Nat} (hj : j < a_c α) (e : a_T α j = 3) : a_V α = nI (a_F α j) ∧ j + 1 ≠ a_c α := by
  rcases w.to hj with t | t | t | t | t
  · rw [e] at t; exact absurd t (by decide)
  · rw [e] at t; exact absurd t.1 (by decide)
  · rw [e] at t; exact absurd t.1 (by decide)
  · exact t.2
  · rw [e] at t; exact absurd t.1 (by decide)
theorem WF.vu {n : Nat} {α : AS} (w : WF n α) {i j : Nat} (hi : i < a_c α) (hj : j < a_c α) (ei : a_T α i = 3) (ej : a_T α j = 3) : i = j := by
  have g := w.ge
  have l1 := g.le (Nat.le_of_lt hi)
  have l2 := g.le (Nat.le_of_lt hj)
  have e := (s_eq (by omega) (by omega)).mp ((w.v1 hi ei).1.symm.trans (w.v1 hj ej).1)
  exact g.inj (Nat.le_of_lt hi) (Nat.le_of_lt hj) e
theorem WF.vn {n : Nat} {α : AS} (w : WF n α) (e : a_V α = -1) {j : Nat} (hj : j < a_c α) : ¬ a_T α j = 3 := by
  intro t
  have l2 := w.ge.le (Nat.le_of_lt hj)
  exact absurd ((w.v1 hj t).1.symm.trans e) (s_m1 (by omega))
theorem TS_uniq {n : Nat} {α : AS} (w : WF n α) {s k1 k2 : Nat} {b1 b2 : AS} (h1 : TS α s k1 b1) (h2 : TS α s k2 b2) : k1 = k2 ∧ b1 = b2 := by
  rcases h1 with ⟨a1, rfl⟩ | ⟨a1, a2, a3, a4, rfl⟩ | ⟨a1, a2, a3, a4⟩ <;> rcases h2 with ⟨c1, rfl⟩ | ⟨c1, c2, c3, c4, rfl⟩ | ⟨c1, c2, c3, c4⟩
  · have := a1.uniq c1; subst this; exact ⟨rfl, rfl⟩
  · exact absurd a1.2.1 (c1 _ a1.1)
  · exact absurd a1.2.1 (c1 _ a1.1)
  · exact absurd c1.2.1 (a1 _ c1.1)
  · have := w.vu a2 c2 a3 c3; subst this; exact ⟨rfl, rfl⟩
  · have := c2 _ a2 a3; omega
  · exact absurd c1.2.1 (a1 _ c1.1)
  · have := a2 _ c2 c3; omega
  · have := a3.uniq c3; subst this
    refine ⟨rfl, ?_⟩
    rcases a4 with ⟨x1, rfl⟩ | ⟨x1, x2, rfl⟩ | ⟨x1, w1, x2, x3, rfl⟩ <;> rcases c4 with ⟨y1, rfl⟩ | ⟨y1, y2, rfl⟩ | ⟨y1, w2, y2, y3, rfl⟩
    · rfl
    · omega
    · omega
    · omega
    · rfl
    · exact absurd y3 (w.vn x2 y2)
    · omega
    · exact absurd x3 (w.vn y2 x2)
    · have := w.vu x2 y2 x3 y3; subst this; rfl
theorem TL_uniq {n : Nat} {α : AS} (w : WF n α) {s k1 k2 : Nat} {b1 b2 : AS} (h1 : TL α s k1 b1) (h2 : TL α s k2 b2) : k1 = k2 ∧ b1 = b2 := by
  rcases h1 with ⟨a1, a2, rfl⟩ | ⟨a1, a2, a3, a4, rfl⟩ <;> rcases h2 with ⟨c1, c2, rfl⟩ | ⟨c1, c2, c3, c4, rfl⟩
  · have := a1.uniq c1; subst this; exact ⟨rfl, rfl⟩
  · have h3 := a2 _ c1 c2
    have h4 := c4 _ a1
    omega
  · have h3 := c2 _ a1 a2
    have h4 := a4 _ c1
    omega
  · have := w.vu a1 c1 a2 c2; subst this; exact ⟨rfl, rfl⟩
theorem TS_no {α : AS} {s k : Nat} {β : AS} (hs : s < 16) (h : TS α s k β) (hn : NoSt α s) : False := by
  rcases h with ⟨a1, -⟩ | ⟨a1, a2, a3, a4, -⟩ | ⟨a1, a2, a3, a4⟩
  · have := a1.2.1
    exact hn.1 _ a1.1 ⟨this.1, this.2.1, by have h2 := this.2.2; unfold hi1 at h2; split at h2 <;> omega⟩
  · have := hn.2 _ a2 a3; omega
  · have := a3.2.1
    exact hn.1 _ a3.1 ⟨this.1, by have := this.2.1; omega, this.2.2⟩
theorem TL_no {α : AS} {s k : Nat} {β : AS} (h : TL α s k β) (hn : NoSt α s) : False := by
  rcases h with ⟨a1, -, -⟩ | ⟨a1, a2, a3, a4, -⟩
  · exact hn.1 _ a1.1 a1.2.1
  · have := hn.2 _ a1 a2; omega
theorem M_fromVictim {n : Nat} {α : AS} {μ : MS} (lim : Int32) (h : MR α μ) (w : WF n α) {s : Nat} (hs : s < 100000) {post : Int32 → MS → Prop} (h1 : ∀ v, v < a_c α → a_T α v = 3 → s ≤ a_S α v → ∀ μ', MR (cutV α v s) μ' → post (nI v) μ') (h2 : NV α s → post (-1) μ) : wM_fromVictim lim μ (nI s) post := by
  have g := w.ge
  have hc := g.c
  unfold wM_fromVictim
  rw [h.vi]
  rcases w.2.2.2.2.2 with e | ⟨j, hj, e, t⟩
  · rw [e]
    refine ⟨fun q => absurd q (by decide), fun q => ⟨fun _ => h2 (fun v hv tv => absurd tv (w.vn e hv)), fun q2 => absurd (by decide) q2⟩⟩
  · have hl := g.le (Nat.le_of_lt hj)
    have hS := g.sz hj
    rw [e]
    refine ⟨fun q => M_atk lim h g hj ?_, fun q => absurd (s_pos' (by omega)) q⟩
    unfold wM_fromVictim_19
    rw [s_cl (show j < 100000 by omega), h.sz hj, s_le hs (by omega), s_1]
    refine ⟨fun q => absurd q (s_pos (by omega)), fun q => ⟨s_in (by omega) (by omega), fun q2 => ?_, fun q2 => ?_⟩⟩
    · refine M_cut lim h g (v := 3) hj q2 (by decide) (fun q3 μ' hm => ?_) (fun q3 μ' hm => ?_)
      · refine ⟨fun _ => h1 j hj t q2 _ ?_, fun q4 => absurd rfl q4⟩
        unfold cutV
        rw [if_pos q3]
        exact hm.vic (-1)
      · refine ⟨fun q4 => absurd q4 (by decide), fun _ => ⟨s_in (by omega) (by omega), h1 j hj t q2 _ ?_⟩⟩
        unfold cutV
        rw [if_neg (by omega), s_cl (show j + 1 < 100000 by omega)]
        have ef : m_fi μ' (j + 1) = nI (a_F α j + s) := by
          rw [hm.fi (show j + 1 < a_c α + 1 by omega)]
          exact congrArg nI a_ins_at
        rw [ef]
        exact hm.vic _
    · exact h2 (fun v hv tv => by have := w.vu hv hj tv t; subst this; omega)
end
section
theorem GE.part {α : AS} (g : GE α) {k s : Nat} {v : Int32} (hk : k < a_c α) (h2 : 2 ≤ s) (hs : s + 2 ≤ a_S α k) : GE (a_part α k s v) := by
  have hF := g.2.1 k hk
  refine ⟨?_, ?_, ?_⟩
  · show a_ins (a_F α) k (a_F α k + s) 0 = 0
    rw [a_ins_lo (by omega)]; exact g.1
  · intro j hj
    have hj : j < a_c α + 1 := hj
    show a_ins (a_F α) k (a_F α k + s) (j + 1) = a_ins (a_F α) k (a_F α k + s) j + va_up (a_ins (a_S α) k (a_S α k - s)) k s j ∧ 2 ≤ va_up (a_ins (a_S α) k (a_S α k - s)) k s j
    rcases (show j < k ∨ j = k ∨ j = k + 1 ∨ k + 1 < j by omega) with r | r | r | r
    · rw [a_ins_lo (by omega), a_ins_lo (by omega), up_ne (by omega), a_ins_lo (by omega)]
      exact g.2.1 j (by omega)
    · subst r
      rw [a_ins_at, a_ins_lo (by omega), up_at]
      omega
    · subst r
      rw [a_ins_hi (by omega), a_ins_at, up_ne (by omega), a_ins_at]
      show a_F α (k + 1) = _ ∧ _
      omega
    · rw [a_ins_hi (by omega), a_ins_hi (by omega), up_ne (by omega), a_ins_hi (by omega)]
      have := g.2.1 (j - 1) (by omega)
      rw [show j - 1 + 1 = j by omega] at this
      rw [show j + 1 - 1 = j by omega]
      exact this
  · show a_ins (a_F α) k (a_F α k + s) (a_c α + 1) ≤ 512
    rw [a_ins_hi (by omega)]
    exact g.2.2
theorem GE.join {α : AS} (g : GE α) {k : Nat} (hk : k + 1 < a_c α) : GE (a_join α k) := by
  have hF := g.2.1 k (by omega)
  have hF2 := g.2.1 (k + 1) hk
  refine ⟨?_, ?_, ?_⟩
  · show a_del (a_F α) k 0 = 0
    rw [a_del_lo (by omega)]; exact g.1
  · intro j hj
    have hj : j < a_c α - 1 := hj
    show a_del (a_F α) k (j + 1) = a_del (a_F α) k j + va_up (a_del (a_S α) k) k (a_S α k + a_S α (k + 1)) j ∧ 2 ≤ va_up (a_del (a_S α) k) k (a_S α k + a_S α (k + 1)) j
    rcases (show j < k ∨ j = k ∨ k < j by omega) with r | r | r
    · rw [a_del_lo (by omega), a_del_lo (by omega), up_ne (by omega), a_del_lo (by omega)]
      exact g.2.1 j (by omega)
    · subst r
      rw [a_del_hi (by omega), a_del_lo (by omega), up_at]
      omega
    · rw [a_del_hi (by omega), a_del_hi (by omega), up_ne (by omega), a_del_hi (by omega)]
      exact g.2.1 (j + 1) (by omega)
  · show a_del (a_F α) k (a_c α - 1) ≤ 512
    rw [a_del_hi (by omega), show a_c α - 1 + 1 = a_c α by omega]
    exact g.2.2
theorem M_vicat {α : AS} {μ : MS} (lim : Int32) (h : MR α μ) (g : GE α) (hv : a_V α = -1 ∨ ∃ j, j < a_c α ∧ a_V α = nI (a_F α j)) {K : Int32 → MS → Prop} (h0 : a_V α = -1 → K (-1) μ) (h1 : ∀ j, j < a_c α → a_V α = nI (a_F α j) → K (nI j) μ) : (0 ≤ m_vi μ → wM_at lim μ (m_vi μ) K) ∧ (¬ 0 ≤ m_vi μ → K (-1) μ) := by
  rw [h.vi]
  rcases hv with e | ⟨j, hj, e⟩
  · refine ⟨fun q => ?_, fun _ => h0 e⟩
    rw [e] at q
    exact absurd q (by decide)
  · have hl := g.le (Nat.le_of_lt hj)
    refine ⟨fun _ => ?_, fun q => ?_⟩
    · rw [e]
      exact M_atk lim h g hj (h1 j hj e)
    · rw [e] at q
      exact absurd (s_pos' (by omega)) q
theorem M_takeSmall {n : Nat} {α : AS} {μ : MS} (lim : Int32) (h : MR α μ) (w : WF n α) {s : Nat} (hs2 : 2 ≤ s) (hs : s < 16) {post : Int32 → MS → Prop} (hp : ∀ k β μ', TS α s k β → MR β μ' → post (nI k) μ') (hn : NoSt α s → post (-1) μ) : wM_takeSmall lim μ (nI s) post := by
  have g := w.ge
  have hc := g.c
  have body : wM_takeSmall_15 lim μ (nI s) (nI s) (nI (hi1 s)) post := by
    have hh : hi1 s < 100000 := by unfold hi1; split <;> omega
    unfold wM_takeSmall_15
    refine M_best lim h w (by omega) hh (fun b hb => ?_) (fun hnc => ?_)
    · have hb1 := hb.1
      refine ⟨fun q => absurd q (s_pos (by omega)), fun q => ⟨s_in (by omega) (by omega), ?_⟩⟩
      rw [s_cl (by omega)]
      exact hp b _ _ (Or.inl ⟨hb, rfl⟩) (h.use hb1)
    · refine ⟨fun _ => ?_, fun q => absurd (by decide) q⟩
      refine M_fromVictim lim h w (by omega) (fun v hv tv hsv μ' hm => ⟨fun q => absurd q (s_pos (by omega)), fun q => hp v _ μ' (Or.inr (Or.inl ⟨hnc, hv, tv, hsv, rfl⟩)) hm⟩) (fun hnv => ⟨fun _ => ?_, fun q => absurd (by decide) q⟩)
      rw [s_1]
      refine M_best lim h w (hi := 1000) (by omega) (by omega) (fun b hb => ?_) (fun hnc2 => ?_)
      · have hb1 := hb.1
        have hsb : s ≤ a_S α b := by have := hb.2.1.2.1; omega
        refine ⟨fun _ => ?_, fun q => absurd (s_pos' (by omega)) q⟩
        refine M_cut lim h g (v := 3) hb1 hsb (by decide) (fun q3 μ' hm => ⟨fun _ => hp b _ μ' (Or.inr (Or.inr ⟨hnc, hnv, hb, Or.inl ⟨q3, rfl⟩⟩)) hm, fun q4 => absurd rfl q4⟩) (fun q3 μ' hm => ⟨fun q4 => absurd q4 (by decide), fun _ => ?_⟩)
        have g1 : GE (a_part (a_sT α b 0) b s 3) := GE.part (α := a_sT α b 0) g hb1 hs2 q3
        have last : ∀ (β : AS) (μ' : MS), MR β μ' → a_c β = a_c α + 1 → a_F β (b + 1) = a_F α b + s → post (nI b) (m_svi μ' (nI (a_F α b + s))) → wM_takeSmall_99 lim μ' (nI b) post := by
          intro β μ' hm e1 e2 hq
          unfold wM_takeSmall_99
          rw [s_1, s_cl (show b + 1 < 100000 by omega), hm.fi (by omega), e2]
          exact ⟨s_in (by omega) (by omega), hq⟩
        have hF1 : a_F (a_part (a_sT α b 0) b s 3) (b + 1) = a_F α b + s := a_ins_at
        rcases w.2.2.2.2.2 with e | ⟨j, hj, e, t⟩
        · refine M_vicat lim hm g1 (Or.inl e) (fun _ => ?_) (fun j hj ej => ?_)
          · refine ⟨fun _ => last _ _ hm rfl hF1 (hp b _ _ (Or.inr (Or.inr ⟨hnc, hnv, hb, Or.inr (Or.inl ⟨q3, e, rfl⟩)⟩)) (hm.vic _)), fun q => absurd (by decide) q⟩
          · have hl := g1.le (Nat.le_of_lt hj)
            exact absurd ((show a_V α = _ from ej).symm.trans e) (s_m1 (by omega))
        · have hjb : j ≠ b := fun z => by
            subst z
            rcases hb.2.1.1 with z | z <;> rw [z] at t <;> exact absurd t (by decide)
          have hj' : (if j < b then j else j + 1) < a_c α + 1 := by split <;> omega
          have eF : a_F (a_part (a_sT α b 0) b s 3) (if j < b then j else j + 1) = a_F α j := by
            show a_ins (a_F α) b (a_F α b + s) _ = _
            split
            · exact a_ins_lo (by omega)
            · rw [a_ins_hi (by omega)]; rfl
          have eT : a_T (a_part (a_sT α b 0) b s 3) (if j < b then j else j + 1) = 3 := by
            show a_ins (va_up (a_T α) b 0) b 3 _ = _
            split
            · rw [a_ins_lo (by omega), up_ne (by omega)]; exact t
            · rw [a_ins_hi (by omega), show j + 1 - 1 = j by omega, up_ne (by omega)]; exact t
          have hl := g.le (Nat.le_of_lt hj)
          rw [hm.vi, show a_V (a_part (a_sT α b 0) b s 3) = nI (a_F α j) from e, ← eF]
          refine ⟨fun _ => M_atk lim hm g1 hj' ?_, fun q => absurd (s_pos' (by rw [eF]; omega)) q⟩
          refine ⟨fun q => absurd q (s_pos (by omega)), fun q => ?_⟩
          refine M_store lim hm g1 (v := a_code (a_S α j)) hj' (a_code_n _).1 (by rw [eT]; decide) (fun μ2 hm2 => ?_)
          exact last _ _ hm2 rfl hF1 (hp b _ _ (Or.inr (Or.inr ⟨hnc, hnv, hb, Or.inr (Or.inr ⟨q3, j, hj, t, rfl⟩)⟩)) (hm2.vic _))
      · refine ⟨fun q => absurd q (by decide), fun _ => hn ⟨fun i hi hcd => ?_, hnv⟩⟩
        rcases (show a_S α i = s ∨ s + 1 ≤ a_S α i by have := hcd.2.1; omega) with z | z
        · exact hnc i hi ⟨hcd.1, by omega, by unfold hi1; split <;> omega⟩
        · exact hnc2 i hi ⟨hcd.1, z, hcd.2.2⟩
  refine ⟨fun q => ?_, fun q => ?_⟩
  · have q := (s_le (a := 15) (by omega) (by omega)).mp q
    have e : hi1 s = s := by unfold hi1; rw [if_neg (by omega)]
    rw [e] at body
    exact body
  · have q : ¬ 15 ≤ s := fun z => q ((s_le (a := 15) (by omega) (by omega)).mpr z)
    have e : hi1 s = s + 1 := by unfold hi1; rw [if_pos (by omega)]
    rw [e] at body
    rw [s_1]
    exact body
theorem M_takeLarge {n : Nat} {α : AS} {μ : MS} (lim : Int32) (h : MR α μ) (w : WF n α) {s : Nat} (hs : 16 ≤ s) (hs9 : s < 90000) {post : Int32 → MS → Prop} (hp : ∀ k β μ', TL α s k β → MR β μ' → post (nI k) μ') (hn : NoSt α s → post (-1) μ) : wM_takeLarge lim μ (nI s) post := by
  have g := w.ge
  have hc := g.c
  have p62 : ∀ b, BstU α s 1000 (a_c α) b → (∀ v, v < a_c α → a_T α v = 3 → a_S α v < s ∨ a_S α b < a_S α v) → wM_takeLarge_62 lim μ (nI s) (nI b) post := by
    intro b hb hv
    have hb1 := hb.1
    have hsb := hb.2.1.2.1
    unfold wM_takeLarge_62
    refine M_cut lim h g (v := 5) hb1 hsb (by decide) (fun q μ' hm => ⟨fun _ => hp b _ μ' (Or.inl ⟨hb, hv, ?_⟩) hm, fun q4 => absurd rfl q4⟩) (fun q μ' hm => ⟨fun q4 => absurd q4 (by decide), fun _ => ?_⟩)
    · unfold cutS; rw [if_pos q]
    · have g1 : GE (a_part (a_sT α b 0) b s 5) := GE.part (α := a_sT α b 0) g hb1 (by omega) q
      rw [s_1]
      refine M_store lim hm g1 (v := a_code (a_S α b - s)) (show b + 1 < a_c α + 1 by omega) (a_code_n _).1 (by rw [show a_T (a_part (a_sT α b 0) b s 5) (b + 1) = 5 from a_ins_at]; decide) (fun μ2 hm2 => hp b _ μ2 (Or.inl ⟨hb, hv, ?_⟩) hm2)
      unfold cutS; rw [if_neg (by omega)]
  have p80 : (∀ v, v < a_c α → a_T α v = 3 → s ≤ a_S α v → ∀ b, BstU α s 1000 (a_c α) b → a_S α v ≤ a_S α b) → (NV α s → NC α s 1000) → wM_takeLarge_80 lim μ (nI s) post := by
    intro hv hnc
    unfold wM_takeLarge_80
    exact M_fromVictim lim h w (by omega) (fun v hv1 tv hsv μ' hm => hp v _ μ' (Or.inr ⟨hv1, tv, hsv, hv v hv1 tv hsv, rfl⟩) hm) (fun hnv => hn ⟨hnc hnv, hnv⟩)
  unfold wM_takeLarge
  have hvv : a_V α = -1 ∨ ∃ j, j < a_c α ∧ a_V α = nI (a_F α j) := w.2.2.2.2.2.elim Or.inl (fun ⟨j, hj, e, _⟩ => Or.inr ⟨j, hj, e⟩)
  refine M_best lim h w (hi := 1000) (by omega) (by omega) (fun b hb => ?_) (fun hnc => ?_)
  · have hb1 := hb.1
    have hSb := g.sz hb1
    refine M_vicat lim h g hvv (fun e => ?_) (fun j hj e => ?_)
    · exact ⟨fun q => absurd q (s_pos (by omega)), fun _ => ⟨fun _ => p62 b hb (fun v hv tv => absurd tv (w.vn e hv)), fun q => absurd (by decide) q⟩⟩
    · have t := w.v3 hj e
      have hSj := g.sz hj
      have ij : vp_in (nI j) 258 := s_in (by omega) (by omega)
      have ib : vp_in (nI b) 258 := s_in (by omega) (by omega)
      unfold wM_takeLarge_28
      rw [s_cl (show j < 100000 by omega), s_cl (show b < 100000 by omega), h.sz hj, h.sz hb1, s_lt (by omega) (by omega), s_le (by omega) (by omega)]
      refine ⟨fun q => absurd q (s_pos (by omega)), fun _ => ⟨fun q => absurd q (s_pos (by omega)), fun _ => ⟨ij, fun q => ?_, fun q => ⟨ib, ij, fun q2 => ?_, fun q2 => ?_⟩⟩⟩⟩
      · exact p62 b hb (fun v hv tv => by have := w.vu hv hj tv t; subst this; exact Or.inl q)
      · exact p80 (fun v hv tv _ b2 hb2 => by have := w.vu hv hj tv t; subst this; have := hb2.uniq hb; subst this; exact q2) (fun hnv => absurd (hnv j hj t) q)
      · exact p62 b hb (fun v hv tv => by have := w.vu hv hj tv t; subst this; exact Or.inr (by omega))
  · have z80 : wM_takeLarge_80 lim μ (nI s) post := p80 (fun v hv tv _ b2 hb2 => absurd hb2.2.1 (hnc b2 hb2.1)) (fun _ => hnc)
    refine M_vicat lim h g hvv (fun e => ?_) (fun j hj e => ?_)
    · exact ⟨fun _ => z80, fun q => absurd (by decide) q⟩
    · exact ⟨fun _ => z80, fun q => absurd (by decide) q⟩
end
section
def up16 (u : Nat) : Nat := (u + 15) / 16 * 16
def noTop (α : AS) : Prop := a_c α = 0 ∨ ∃ t, t + 1 = a_c α ∧ a_T α t = 0
def a_growT (α : AS) (t m : Nat) : AS := (a_c α, va_up (a_F α) (a_c α) (a_F α (a_c α) + m), va_up (a_S α) t (a_S α t + m), a_T α, a_C α, a_V α, a_K α, x_fl (a_un α) (a_F α (a_c α)) (a_F α (a_c α) + m) 0)
def a_grow0 (α : AS) (m : Nat) : AS := (a_c α + 1, va_up (a_F α) (a_c α + 1) (a_F α (a_c α) + m), va_up (a_S α) (a_c α) m, va_up (a_T α) (a_c α) 4, a_C α, a_V α, a_K α, x_fl (a_un α) (a_F α (a_c α)) (a_F α (a_c α) + m) 0)
theorem M_growloop {μ : MS} (lim : Int32) {e m : Nat} (he : m_en μ = nI e) (hm : e + m ≤ 512) {post : Int32 → MS → Prop} (hp : post 1 (m_sen (m_sun μ (x_fl (m_un μ) e (e + m) 0)) (nI (e + m)))) : ∃ f, wM_grow_103 lim post f μ (nI m) (nI e) := by
  have key : ∀ f i, e ≤ i → i ≤ e + m → e + m < i + f → wM_grow_103 lim post f (m_sun μ (x_fl (m_un μ) e i 0)) (nI m) (nI i) := by
    intro f
    induction f with
    | zero => intro i h1 h2; omega
    | succ f ih =>
      intro i h1 h2 h3
      show wM_grow_103_s lim post (wM_grow_103 lim post f) (m_sun μ (x_fl (m_un μ) e i 0)) (nI m) (nI i)
      unfold wM_grow_103_s
      rw [show m_en (m_sun μ (x_fl (m_un μ) e i 0)) = nI e from he, nI_add, s_le (by omega) (by omega), s_cl (by omega), s_1]
      refine ⟨fun q => ?_, fun q => ⟨s_in (by omega) (by omega), ?_⟩⟩
      · have z : i = e + m := by omega
        subst z
        unfold wM_grow_128
        rw [show m_en (m_sun μ (x_fl (m_un μ) e (e + m) 0)) = nI e from he, nI_add]
        exact hp
      · have r := ih (i + 1) (by omega) (by omega) (by omega)
        rw [← x_fl_s (m_un μ) 0 h1] at r
        exact r
  refine ⟨m + 1, ?_⟩
  have r := key (m + 1) e (by omega) (by omega) (by omega)
  rw [x_fl_0] at r
  exact r
theorem M_grow {n : Nat} {α : AS} {μ : MS} (h : MR α μ) (g : GE α) (hn5 : n ≤ 512) {u : Nat} (hu : u < 2000) {post : Int32 → MS → Prop} (h1 : a_F α (a_c α) + up16 u ≤ n → ∀ t, t + 1 = a_c α → ¬ a_T α t = 0 → ∀ μ', MR (a_growT α t (up16 u)) μ' → post 1 μ') (h2 : a_F α (a_c α) + up16 u ≤ n → noTop α → ∀ μ', MR (a_grow0 α (up16 u)) μ' → post 1 μ') (h3 : n < a_F α (a_c α) + up16 u → post 0 μ) : wM_grow (nI n) μ (nI u) post := by
  have hc := g.c
  have hE := g.2.2
  have e16 : (nI u + 15) / 16 * 16 = nI (up16 u) := by
    rw [show (15 : Int32) = nI 15 from rfl, nI_add, show (16 : Int32) = nI 16 from rfl, pk_div (by omega) (by omega) (by omega), pk_mul]
    rfl
  have hup : up16 u ≤ 2100 := by unfold up16; omega
  unfold wM_grow
  rw [e16, h.en, nI_add, s_le (by omega) (by omega)]
  refine ⟨fun q => ?_, fun q => h3 (by omega)⟩
  refine M_top _ h g (fun t ht hT => ?_) (fun hno => ?_)
  · refine ⟨fun _ => ?_, fun q2 => absurd (s_pos' (by omega)) q2⟩
    have it : vp_in (nI t) 258 := s_in (by omega) (by omega)
    have hSt := g.sz (show t < a_c α by omega)
    unfold wM_grow_83
    rw [s_cl (show t < 100000 by omega), h.sz (show t < a_c α by omega), nI_add]
    refine ⟨it, it, ?_⟩
    rw [show m_en (m_ssz μ (upd (m_sz μ) t (nI (a_S α t + up16 u)))) = nI (a_F α (a_c α)) from h.en]
    refine M_growloop (μ := m_ssz μ (upd (m_sz μ) t (nI (a_S α t + up16 u)))) (m := up16 u) _ h.en (by omega) (h1 q t ht hT _ ?_)
    obtain ⟨un, fi, sz, us, ca, en, ch, cl, vi⟩ := μ
    refine ⟨h.1, ?_, h.2.2.1, h.2.2.2.1, ?_, ?_⟩
    · show nI (a_F α (a_c α) + up16 u) = nI (va_up (a_F α) (a_c α) (a_F α (a_c α) + up16 u) (a_c α))
      rw [up_at]
    · show x_fl un _ _ 0 = x_fl (a_un α) _ _ 0
      rw [show un = a_un α from h.un]
    · intro j hj
      have hj : j < a_c α := hj
      show fi j = nI (va_up (a_F α) (a_c α) (a_F α (a_c α) + up16 u) j) ∧ upd sz t (nI (a_S α t + up16 u)) j = nI (va_up (a_S α) t (a_S α t + up16 u) j) ∧ us j = (if a_T α j = 0 then 1 else 0) ∧ ((a_T α j = 1 ∨ a_T α j = 2) → ca j = a_C α j)
      rw [up_ne (by omega)]
      by_cases z : j = t
      · subst z
        rw [ud_at, up_at]
        exact ⟨h.fi hj, rfl, h.us hj, h.ca hj⟩
      · rw [ud_ne z, up_ne z]
        exact ⟨h.fi hj, h.sz hj, h.us hj, h.ca hj⟩
  · refine ⟨fun q2 => absurd q2 (by decide), fun _ => ?_⟩
    have ic : vp_in (nI (a_c α)) 258 := s_in (by omega) (by omega)
    obtain ⟨un, fi, sz, us, ca, en, ch, cl, vi⟩ := μ
    have hch : ch = nI (a_c α) := h.1
    have hen : en = nI (a_F α (a_c α)) := h.2.1
    subst hch
    subst hen
    refine ⟨ic, ic, ic, ?_⟩
    show wM_grow_83 (nI n) (un, upd fi (nI (a_c α)).toNatClampNeg (nI (a_F α (a_c α))), upd sz (nI (a_c α)).toNatClampNeg 0, upd us (nI (a_c α)).toNatClampNeg 0, ca, nI (a_F α (a_c α)), nI (a_c α) + 1, cl, vi) (nI (up16 u)) (nI (a_c α)) post
    rw [s_cl (show a_c α < 100000 by omega), s_1]
    unfold wM_grow_83
    rw [s_cl (show a_c α < 100000 by omega)]
    refine ⟨ic, ic, ?_⟩
    have ez : m_sz (un, upd fi (a_c α) (nI (a_F α (a_c α))), upd sz (a_c α) 0, upd us (a_c α) 0, ca, nI (a_F α (a_c α)), nI (a_c α + 1), cl, vi) (a_c α) + nI (up16 u) = nI (up16 u) := by
      show upd sz (a_c α) 0 (a_c α) + nI (up16 u) = _
      rw [ud_at]
      exact Int32.zero_add _
    rw [ez]
    refine M_growloop (e := a_F α (a_c α)) (m := up16 u) _ rfl (by omega) (h2 q hno _ ?_)
    refine ⟨rfl, ?_, h.2.2.1, h.2.2.2.1, ?_, ?_⟩
    · show nI (a_F α (a_c α) + up16 u) = nI (va_up (a_F α) (a_c α + 1) (a_F α (a_c α) + up16 u) (a_c α + 1))
      rw [up_at]
    · show x_fl un _ _ 0 = x_fl (a_un α) _ _ 0
      rw [show un = a_un α from h.un]
    · intro j hj
      have hj : j < a_c α + 1 := hj
      show upd fi (a_c α) (nI (a_F α (a_c α))) j = nI (va_up (a_F α) (a_c α + 1) (a_F α (a_c α) + up16 u) j) ∧ upd (upd sz (a_c α) 0) (a_c α) (nI (up16 u)) j = nI (va_up (a_S α) (a_c α) (up16 u) j) ∧ upd us (a_c α) 0 j = (if va_up (a_T α) (a_c α) 4 j = 0 then 1 else 0) ∧ ((va_up (a_T α) (a_c α) 4 j = 1 ∨ va_up (a_T α) (a_c α) 4 j = 2) → ca j = a_C α j)
      rw [up_ne (show j ≠ a_c α + 1 by omega)]
      by_cases z : j = a_c α
      · subst z
        rw [ud_at, ud_at, up_at, ud_at, up_at]
        exact ⟨rfl, rfl, rfl, fun q => absurd q (by decide)⟩
      · rw [ud_ne z, ud_ne z, ud_ne z, up_ne z, ud_ne z, up_ne z]
        exact ⟨h.fi (by omega), h.sz (by omega), h.us (by omega), h.ca (by omega)⟩
def TT (n : Nat) (α : AS) (s k : Nat) (β : AS) : Prop :=
  (k + 1 = a_c α ∧ a_T α k = 4 ∧ s ≤ a_S α k ∧ β = cutT α k s) ∨
  (k + 1 = a_c α ∧ a_T α k = 4 ∧ a_S α k < s ∧ a_F α (a_c α) + up16 (s - a_S α k) ≤ n ∧ β = cutT (a_growT α k (up16 (s - a_S α k))) k s) ∨
  (noTop α ∧ a_F α (a_c α) + up16 s ≤ n ∧ k = a_c α ∧ β = cutT (a_grow0 α (up16 s)) k s)
def TF (n : Nat) (α : AS) (s : Nat) : Prop :=
  (∃ t, t + 1 = a_c α ∧ a_T α t = 4 ∧ a_S α t < s ∧ n < a_F α (a_c α) + up16 (s - a_S α t)) ∨ (noTop α ∧ n < a_F α (a_c α) + up16 s)
def TK (n : Nat) (α : AS) (s k : Nat) (β : AS) : Prop := (s < 16 ∧ TS α s k β) ∨ (16 ≤ s ∧ TL α s k β) ∨ (NoSt α s ∧ TT n α s k β)
def TN (n : Nat) (α : AS) (s : Nat) : Prop := NoSt α s ∧ TF n α s
theorem WF.top4 {n : Nat} {α : AS} (w : WF n α) {t : Nat} (ht : t + 1 = a_c α) (hT : ¬ a_T α t = 0) : a_T α t = 4 := by
  rcases w.to (show t < a_c α by omega) with z | z | z | z | z
  · exact absurd z hT
  · exact absurd ht z.2.2
  · exact absurd ht z.2.2
  · exact absurd ht z.2.2
  · exact z.1
theorem GE.growT {α : AS} (g : GE α) {t m : Nat} (ht : t + 1 = a_c α) (hm : a_F α (a_c α) + m ≤ 512) : GE (a_growT α t m) := by
  refine ⟨?_, ?_, ?_⟩
  · show va_up (a_F α) (a_c α) (a_F α (a_c α) + m) 0 = 0
    rw [up_ne (by omega)]; exact g.1
  · intro j hj
    have hj : j < a_c α := hj
    show va_up (a_F α) (a_c α) (a_F α (a_c α) + m) (j + 1) = va_up (a_F α) (a_c α) (a_F α (a_c α) + m) j + va_up (a_S α) t (a_S α t + m) j ∧ 2 ≤ va_up (a_S α) t (a_S α t + m) j
    have := g.2.1 j hj
    rw [up_ne (show j ≠ a_c α by omega)]
    by_cases z : j = t
    · subst z
      rw [ht, up_at, up_at]
      rw [ht] at this
      omega
    · rw [up_ne (show j + 1 ≠ a_c α by omega), up_ne z]
      exact this
  · show va_up (a_F α) (a_c α) (a_F α (a_c α) + m) (a_c α) ≤ 512
    rw [up_at]; exact hm
theorem GE.grow0 {α : AS} (g : GE α) {m : Nat} (h2 : 2 ≤ m) (hm : a_F α (a_c α) + m ≤ 512) : GE (a_grow0 α m) := by
  refine ⟨?_, ?_, ?_⟩
  · show va_up (a_F α) (a_c α + 1) (a_F α (a_c α) + m) 0 = 0
    rw [up_ne (by omega)]; exact g.1
  · intro j hj
    have hj : j < a_c α + 1 := hj
    show va_up (a_F α) (a_c α + 1) (a_F α (a_c α) + m) (j + 1) = va_up (a_F α) (a_c α + 1) (a_F α (a_c α) + m) j + va_up (a_S α) (a_c α) m j ∧ 2 ≤ va_up (a_S α) (a_c α) m j
    rw [up_ne (show j ≠ a_c α + 1 by omega)]
    by_cases z : j = a_c α
    · subst z
      rw [up_at, up_at]
      omega
    · rw [up_ne (show j + 1 ≠ a_c α + 1 by omega), up_ne z]
      exact g.2.1 j (by omega)
  · show va_up (a_F α) (a_c α + 1) (a_F α (a_c α) + m) (a_c α + 1) ≤ 512
    rw [up_at]; exact hm
theorem M_take66 {β : AS} {μ : MS} (lim : Int32) (h : MR β μ) (g : GE β) {k s : Nat} (hk : k + 1 = a_c β) (hT : ¬ a_T β k = 0) (hs : s ≤ a_S β k) {post : Int32 → MS → Prop} (hp : ∀ μ', MR (cutT β k s) μ' → post (nI k) μ') : wM_take_66 lim μ (nI s) post := by
  unfold wM_take_66
  refine M_top lim h g (fun t ht _ => ?_) (fun hno => ?_)
  · have : t = k := by omega
    subst this
    refine M_cut lim h g (v := 4) (by omega) hs (by decide) (fun q μ' hm => hp μ' ?_) (fun q μ' hm => hp μ' ?_)
    · unfold cutT; rw [if_pos q]; exact hm
    · unfold cutT; rw [if_neg (by omega)]; exact hm
  · rcases hno with z | ⟨t, ht, z⟩
    · omega
    · have : t = k := by omega
      subst this; exact absurd z hT
theorem M_take {n : Nat} {α : AS} {μ : MS} (h : MR α μ) (w : WF n α) {s : Nat} (hs2 : 2 ≤ s) (hs : s < 1000) {post : Int32 → MS → Prop} (hp : ∀ k β μ', TK n α s k β → MR β μ' → post (nI k) μ') (hn : TN n α s → post (-1) μ) : wM_take (nI n) μ (nI s) post := by
  have g := w.ge
  have hc := g.c
  have hn5 := w.2.2.1
  have hE := g.2.2
  have fin : NoSt α s → wM_take_19 (nI n) μ (nI s) (-1) post := by
    intro hno
    refine ⟨fun _ => ?_, fun q => absurd (by decide) q⟩
    refine M_top _ h g (fun t ht hT => ?_) (fun hnt => ?_)
    · have t4 := w.top4 ht hT
      have hSt := g.sz (show t < a_c α by omega)
      refine ⟨fun _ => ⟨s_in (by omega) (by omega), ?_⟩, fun q => absurd (s_pos' (by omega)) q⟩
      unfold wM_take_45
      rw [s_cl (by omega), h.sz (by omega), s_le (by omega) (by omega)]
      refine ⟨fun q => ?_, fun q => ?_⟩
      · exact M_take66 _ h g ht hT q (fun μ' hm => hp t _ μ' (Or.inr (Or.inr ⟨hno, Or.inl ⟨ht, t4, q, rfl⟩⟩)) hm)
      · rw [s_sub (by omega)]
        have hup : s - a_S α t ≤ up16 (s - a_S α t) := by unfold up16; omega
        refine M_grow h g hn5 (by omega) (fun q2 t2 ht2 hT2 μ' hm => ?_) (fun q2 hnt μ' hm => ?_) (fun q2 => ?_)
        · have : t2 = t := by omega
          subst this
          refine ⟨fun _ => ?_, fun q3 => absurd q3 (by decide)⟩
          have g1 := g.growT ht (m := up16 (s - a_S α t2)) (by omega)
          refine M_take66 _ hm g1 (k := t2) ht hT (show s ≤ va_up (a_S α) t2 _ t2 by rw [up_at]; omega) (fun μ2 hm2 => hp t2 _ μ2 (Or.inr (Or.inr ⟨hno, Or.inr (Or.inl ⟨ht, t4, by omega, q2, rfl⟩)⟩)) hm2)
        · rcases hnt with z | ⟨t2, ht2, z⟩
          · omega
          · have : t2 = t := by omega
            subst this; exact absurd z hT
        · exact ⟨fun q3 => absurd rfl q3, fun _ => hn ⟨hno, Or.inl ⟨t, ht, t4, by omega, q2⟩⟩⟩
    · refine ⟨fun q => absurd q (by decide), fun _ => ?_⟩
      unfold wM_take_45
      have e0 : nI s - 0 = nI s := s_sub (b := 0) (by omega)
      rw [e0]
      have hup : s ≤ up16 s := by unfold up16; omega
      refine ⟨fun q => absurd ((s_le (b := 0) (by omega) (by omega)).mp q) (by omega), fun q => ?_⟩
      refine M_grow h g hn5 (by omega) (fun q2 t2 ht2 hT2 μ' hm => ?_) (fun q2 _ μ' hm => ?_) (fun q2 => ?_)
      · rcases hnt with z | ⟨t, ht, z⟩
        · omega
        · have : t2 = t := by omega
          subst this; exact absurd z hT2
      · refine ⟨fun _ => ?_, fun q3 => absurd q3 (by decide)⟩
        have g1 := g.grow0 (m := up16 s) (by omega) (by omega)
        refine M_take66 _ hm g1 (k := a_c α) rfl (by rw [show a_T (a_grow0 α (up16 s)) (a_c α) = 4 from up_at]; decide) (show s ≤ va_up (a_S α) (a_c α) (up16 s) (a_c α) by rw [up_at]; omega) (fun μ2 hm2 => hp _ _ μ2 (Or.inr (Or.inr ⟨hno, Or.inr (Or.inr ⟨hnt, q2, rfl, rfl⟩)⟩)) hm2)
      · exact ⟨fun q3 => absurd rfl q3, fun _ => hn ⟨hno, Or.inr ⟨hnt, q2⟩⟩⟩
  have got : ∀ (k : Nat) (μ' : MS), k < 100000 → post (nI k) μ' → wM_take_19 (nI n) μ' (nI s) (nI k) post := fun k μ' hk q => ⟨fun z => absurd z (s_pos hk), fun _ => q⟩
  have kS : ∀ k β, TS α s k β → k < 100000 := fun k β ht => by
    rcases ht with ⟨a, -⟩ | ⟨-, a, -⟩ | ⟨-, -, a, -⟩
    · have := a.1; omega
    · omega
    · have := a.1; omega
  have kL : ∀ k β, TL α s k β → k < 100000 := fun k β ht => by
    rcases ht with ⟨a, -⟩ | ⟨a, -⟩
    · have := a.1; omega
    · omega
  refine ⟨fun q => ?_, fun q => ?_⟩
  · have q := (s_le (a := 16) (by omega) (by omega)).mp q
    exact M_takeLarge _ h w q (by omega) (fun k β μ' ht hm => got k μ' (kL k β ht) (hp k β μ' (Or.inr (Or.inl ⟨q, ht⟩)) hm)) fin
  · have q : ¬ 16 ≤ s := fun z => q ((s_le (a := 16) (by omega) (by omega)).mpr z)
    exact M_takeSmall _ h w hs2 (by omega) (fun k β μ' ht hm => got k μ' (kS k β ht) (hp k β μ' (Or.inl ⟨by omega, ht⟩) hm)) fin
theorem TK_uniq {n : Nat} {α : AS} (w : WF n α) {s k1 k2 : Nat} {b1 b2 : AS} (h1 : TK n α s k1 b1) (h2 : TK n α s k2 b2) : k1 = k2 ∧ b1 = b2 := by
  rcases h1 with ⟨a, h1⟩ | ⟨a, h1⟩ | ⟨a, h1⟩ <;> rcases h2 with ⟨c, h2⟩ | ⟨c, h2⟩ | ⟨c, h2⟩
  · exact TS_uniq w h1 h2
  · omega
  · exact (TS_no a h1 c).elim
  · omega
  · exact TL_uniq w h1 h2
  · exact (TL_no h1 c).elim
  · exact (TS_no c h2 a).elim
  · exact (TL_no h2 a).elim
  · have nt : ∀ k, k + 1 = a_c α → a_T α k = 4 → ¬ noTop α := fun k e t z => by
      rcases z with z | ⟨t2, e2, z⟩
      · omega
      · have : t2 = k := by omega
        subst this; rw [t] at z; exact absurd z (by decide)
    rcases h1 with ⟨x1, x2, x3, rfl⟩ | ⟨x1, x2, x3, x4, rfl⟩ | ⟨x1, x2, rfl, rfl⟩ <;> rcases h2 with ⟨y1, y2, y3, rfl⟩ | ⟨y1, y2, y3, y4, rfl⟩ | ⟨y1, y2, rfl, rfl⟩
    · have : k1 = k2 := by omega
      subst this; exact ⟨rfl, rfl⟩
    · have : k1 = k2 := by omega
      subst this; omega
    · exact absurd y1 (nt _ x1 x2)
    · have : k1 = k2 := by omega
      subst this; omega
    · have : k1 = k2 := by omega
      subst this; exact ⟨rfl, rfl⟩
    · exact absurd y1 (nt _ x1 x2)
    · exact absurd x1 (nt _ y1 y2)
    · exact absurd x1 (nt _ y1 y2)
    · exact ⟨rfl, rfl⟩
theorem TK_no {n : Nat} {α : AS} {s k : Nat} {β : AS} (h : TK n α s k β) (hn : TN n α s) : False := by
  rcases h with ⟨a, h⟩ | ⟨a, h⟩ | ⟨a, h⟩
  · exact TS_no a h hn.1
  · exact TL_no h hn.1
  · have nt : ∀ k, k + 1 = a_c α → a_T α k = 4 → ¬ noTop α := fun k e t z => by
      rcases z with z | ⟨t2, e2, z⟩
      · omega
      · have : t2 = k := by omega
        subst this; rw [t] at z; exact absurd z (by decide)
    rcases h with ⟨x1, x2, x3, -⟩ | ⟨x1, x2, x3, x4, -⟩ | ⟨x1, x2, x3, -⟩ <;> rcases hn.2 with ⟨t, y1, y2, y3, y4⟩ | ⟨y1, y2⟩
    · have : k = t := by omega
      subst this; omega
    · exact absurd y1 (nt _ x1 x2)
    · have : k = t := by omega
      subst this; omega
    · exact absurd y1 (nt _ x1 x2)
    · exact absurd x1 (nt _ y1 y2)
    · omega
end
