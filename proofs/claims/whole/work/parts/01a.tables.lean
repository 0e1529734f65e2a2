-- ===== PART A: goes FIRST, ahead of the names: the tables' words, and 'selects' of the private methods out of them =====
/-- a private method of a class that the tables say can be made, by its rows of tables_1 -/
def lw_okq (q : MethodName × Nat) : Prop := (q.1.cls ≠ "java/lang/invoke/MethodHandle" ∧ q.1.cls ≠ "java/lang/invoke/VarHandle") ∧ Cond.instantiable q.1.cls q.2 ∈ tables_1 ∧ Cond.privateMethod q.1 ∈ tables_1 ∧ Cond.instanceMethod q.1 ∈ tables_1
theorem lw_p0 : lw_okq (⟨"GradientShards", "isWorker", "(I)Z"⟩, 9) := ⟨⟨by decide +kernel, by decide +kernel⟩, List.mem_of_getElem? (i := 9) (by decide +kernel), List.mem_of_getElem? (i := 162) (by decide +kernel), List.mem_of_getElem? (i := 163) (by decide +kernel)⟩
theorem lw_p1 : lw_okq (⟨"GradientShards", "isHeld", "(I)Z"⟩, 9) := ⟨⟨by decide +kernel, by decide +kernel⟩, List.mem_of_getElem? (i := 9) (by decide +kernel), List.mem_of_getElem? (i := 169) (by decide +kernel), List.mem_of_getElem? (i := 170) (by decide +kernel)⟩
theorem lw_p2 : lw_okq (⟨"GradientShards", "linkOf", "(II)LGradientShards$Link;"⟩, 9) := ⟨⟨by decide +kernel, by decide +kernel⟩, List.mem_of_getElem? (i := 9) (by decide +kernel), List.mem_of_getElem? (i := 176) (by decide +kernel), List.mem_of_getElem? (i := 177) (by decide +kernel)⟩
theorem lw_p3 : lw_okq (⟨"GradientShards$Link", "keptNumber", "()I"⟩, 12) := ⟨⟨by decide +kernel, by decide +kernel⟩, List.mem_of_getElem? (i := 25) (by decide +kernel), List.mem_of_getElem? (i := 180) (by decide +kernel), List.mem_of_getElem? (i := 181) (by decide +kernel)⟩
theorem lw_p4 : lw_okq (⟨"GradientShards", "makeMessage", "(LGradientShards$Link;II)V"⟩, 9) := ⟨⟨by decide +kernel, by decide +kernel⟩, List.mem_of_getElem? (i := 9) (by decide +kernel), List.mem_of_getElem? (i := 184) (by decide +kernel), List.mem_of_getElem? (i := 185) (by decide +kernel)⟩
theorem lw_p5 : lw_okq (⟨"GradientShards$Link", "append", "(II)I"⟩, 12) := ⟨⟨by decide +kernel, by decide +kernel⟩, List.mem_of_getElem? (i := 25) (by decide +kernel), List.mem_of_getElem? (i := 188) (by decide +kernel), List.mem_of_getElem? (i := 189) (by decide +kernel)⟩
theorem lw_p6 : lw_okq (⟨"GradientShards", "sendMessage", "(LGradientShards$Link;I)V"⟩, 9) := ⟨⟨by decide +kernel, by decide +kernel⟩, List.mem_of_getElem? (i := 9) (by decide +kernel), List.mem_of_getElem? (i := 195) (by decide +kernel), List.mem_of_getElem? (i := 196) (by decide +kernel)⟩
theorem lw_p7 : lw_okq (⟨"GradientShards$Link", "noteSending", "(II)V"⟩, 12) := ⟨⟨by decide +kernel, by decide +kernel⟩, List.mem_of_getElem? (i := 25) (by decide +kernel), List.mem_of_getElem? (i := 199) (by decide +kernel), List.mem_of_getElem? (i := 200) (by decide +kernel)⟩
theorem lw_p8 : lw_okq (⟨"GradientShards$Net", "send", "(I)V"⟩, 4) := ⟨⟨by decide +kernel, by decide +kernel⟩, List.mem_of_getElem? (i := 107) (by decide +kernel), List.mem_of_getElem? (i := 206) (by decide +kernel), List.mem_of_getElem? (i := 207) (by decide +kernel)⟩
theorem lw_p9 : lw_okq (⟨"GradientShards$Net", "isFull", "()Z"⟩, 4) := ⟨⟨by decide +kernel, by decide +kernel⟩, List.mem_of_getElem? (i := 107) (by decide +kernel), List.mem_of_getElem? (i := 210) (by decide +kernel), List.mem_of_getElem? (i := 211) (by decide +kernel)⟩
theorem lw_p10 : lw_okq (⟨"GradientShards", "keepsTooManyToEnd", "(I)Z"⟩, 9) := ⟨⟨by decide +kernel, by decide +kernel⟩, List.mem_of_getElem? (i := 9) (by decide +kernel), List.mem_of_getElem? (i := 218) (by decide +kernel), List.mem_of_getElem? (i := 219) (by decide +kernel)⟩
theorem lw_p11 : lw_okq (⟨"GradientShards$Net", "holds", "(I)Z"⟩, 4) := ⟨⟨by decide +kernel, by decide +kernel⟩, List.mem_of_getElem? (i := 107) (by decide +kernel), List.mem_of_getElem? (i := 239) (by decide +kernel), List.mem_of_getElem? (i := 240) (by decide +kernel)⟩
theorem lw_p12 : lw_okq (⟨"GradientShards$Net", "remove", "(I)V"⟩, 4) := ⟨⟨by decide +kernel, by decide +kernel⟩, List.mem_of_getElem? (i := 107) (by decide +kernel), List.mem_of_getElem? (i := 243) (by decide +kernel), List.mem_of_getElem? (i := 244) (by decide +kernel)⟩
theorem lw_p13 : lw_okq (⟨"GradientShards$Link", "confirm", "(I)Z"⟩, 12) := ⟨⟨by decide +kernel, by decide +kernel⟩, List.mem_of_getElem? (i := 25) (by decide +kernel), List.mem_of_getElem? (i := 262) (by decide +kernel), List.mem_of_getElem? (i := 263) (by decide +kernel)⟩
theorem lw_p14 : lw_okq (⟨"GradientShards", "arrive", "(LGradientShards$Shard;LGradientShards$Link;I)I"⟩, 9) := ⟨⟨by decide +kernel, by decide +kernel⟩, List.mem_of_getElem? (i := 9) (by decide +kernel), List.mem_of_getElem? (i := 266) (by decide +kernel), List.mem_of_getElem? (i := 267) (by decide +kernel)⟩
theorem lw_p15 : lw_okq (⟨"GradientShards$Link", "hasTaken", "(I)Z"⟩, 12) := ⟨⟨by decide +kernel, by decide +kernel⟩, List.mem_of_getElem? (i := 25) (by decide +kernel), List.mem_of_getElem? (i := 270) (by decide +kernel), List.mem_of_getElem? (i := 271) (by decide +kernel)⟩
def lw_privs_1 : List (MethodName × Nat) := [(⟨"GradientShards", "isWorker", "(I)Z"⟩, 9), (⟨"GradientShards", "isHeld", "(I)Z"⟩, 9), (⟨"GradientShards", "linkOf", "(II)LGradientShards$Link;"⟩, 9), (⟨"GradientShards$Link", "keptNumber", "()I"⟩, 12), (⟨"GradientShards", "makeMessage", "(LGradientShards$Link;II)V"⟩, 9), (⟨"GradientShards$Link", "append", "(II)I"⟩, 12), (⟨"GradientShards", "sendMessage", "(LGradientShards$Link;I)V"⟩, 9), (⟨"GradientShards$Link", "noteSending", "(II)V"⟩, 12), (⟨"GradientShards$Net", "send", "(I)V"⟩, 4), (⟨"GradientShards$Net", "isFull", "()Z"⟩, 4), (⟨"GradientShards", "keepsTooManyToEnd", "(I)Z"⟩, 9), (⟨"GradientShards$Net", "holds", "(I)Z"⟩, 4), (⟨"GradientShards$Net", "remove", "(I)V"⟩, 4), (⟨"GradientShards$Link", "confirm", "(I)Z"⟩, 12), (⟨"GradientShards", "arrive", "(LGradientShards$Shard;LGradientShards$Link;I)I"⟩, 9), (⟨"GradientShards$Link", "hasTaken", "(I)Z"⟩, 12)]
theorem lw_r1 : ∀ q ∈ lw_privs_1, lw_okq q := List.forall_mem_cons.mpr ⟨lw_p0, List.forall_mem_cons.mpr ⟨lw_p1, List.forall_mem_cons.mpr ⟨lw_p2, List.forall_mem_cons.mpr ⟨lw_p3, List.forall_mem_cons.mpr ⟨lw_p4, List.forall_mem_cons.mpr ⟨lw_p5, List.forall_mem_cons.mpr ⟨lw_p6, List.forall_mem_cons.mpr ⟨lw_p7, List.forall_mem_cons.mpr ⟨lw_p8, List.forall_mem_cons.mpr ⟨lw_p9, List.forall_mem_cons.mpr ⟨lw_p10, List.forall_mem_cons.mpr ⟨lw_p11, List.forall_mem_cons.mpr ⟨lw_p12, List.forall_mem_cons.mpr ⟨lw_p13, List.forall_mem_cons.mpr ⟨lw_p14, List.forall_mem_cons.mpr ⟨lw_p15, fun _ h => absurd h List.not_mem_nil⟩⟩⟩⟩⟩⟩⟩⟩⟩⟩⟩⟩⟩⟩⟩⟩
theorem lw_p16 : lw_okq (⟨"GradientShards$Link", "take", "(I)V"⟩, 12) := ⟨⟨by decide +kernel, by decide +kernel⟩, List.mem_of_getElem? (i := 25) (by decide +kernel), List.mem_of_getElem? (i := 274) (by decide +kernel), List.mem_of_getElem? (i := 275) (by decide +kernel)⟩
theorem lw_p17 : lw_okq (⟨"GradientShards$Shard", "applyEndedClocks", "()V"⟩, 9) := ⟨⟨by decide +kernel, by decide +kernel⟩, List.mem_of_getElem? (i := 18) (by decide +kernel), List.mem_of_getElem? (i := 278) (by decide +kernel), List.mem_of_getElem? (i := 279) (by decide +kernel)⟩
theorem lw_p18 : lw_okq (⟨"GradientShards$Shard", "leastEndsHandled", "()I"⟩, 9) := ⟨⟨by decide +kernel, by decide +kernel⟩, List.mem_of_getElem? (i := 18) (by decide +kernel), List.mem_of_getElem? (i := 282) (by decide +kernel), List.mem_of_getElem? (i := 283) (by decide +kernel)⟩
theorem lw_p19 : lw_okq (⟨"GradientShards$Shard", "sumOfContributions", "(I)I"⟩, 9) := ⟨⟨by decide +kernel, by decide +kernel⟩, List.mem_of_getElem? (i := 18) (by decide +kernel), List.mem_of_getElem? (i := 287) (by decide +kernel), List.mem_of_getElem? (i := 288) (by decide +kernel)⟩
theorem lw_p20 : lw_okq (⟨"GradientShards$Link", "contribution", "(I)I"⟩, 12) := ⟨⟨by decide +kernel, by decide +kernel⟩, List.mem_of_getElem? (i := 25) (by decide +kernel), List.mem_of_getElem? (i := 291) (by decide +kernel), List.mem_of_getElem? (i := 292) (by decide +kernel)⟩
theorem lw_p21 : lw_okq (⟨"GradientShards$Shard", "applySum", "(II)V"⟩, 9) := ⟨⟨by decide +kernel, by decide +kernel⟩, List.mem_of_getElem? (i := 18) (by decide +kernel), List.mem_of_getElem? (i := 299) (by decide +kernel), List.mem_of_getElem? (i := 300) (by decide +kernel)⟩
theorem lw_p22 : lw_okq (⟨"GradientShards$Link", "moveBoundaryBehindNextEnd", "()V"⟩, 12) := ⟨⟨by decide +kernel, by decide +kernel⟩, List.mem_of_getElem? (i := 25) (by decide +kernel), List.mem_of_getElem? (i := 306) (by decide +kernel), List.mem_of_getElem? (i := 307) (by decide +kernel)⟩
theorem lw_p23 : lw_okq (⟨"GradientShards$Link", "isDueAgain", "(I)Z"⟩, 12) := ⟨⟨by decide +kernel, by decide +kernel⟩, List.mem_of_getElem? (i := 25) (by decide +kernel), List.mem_of_getElem? (i := 323) (by decide +kernel), List.mem_of_getElem? (i := 324) (by decide +kernel)⟩
theorem lw_p24 : lw_okq (⟨"GradientShards", "isUp", "(I)Z"⟩, 9) := ⟨⟨by decide +kernel, by decide +kernel⟩, List.mem_of_getElem? (i := 9) (by decide +kernel), List.mem_of_getElem? (i := 337) (by decide +kernel), List.mem_of_getElem? (i := 338) (by decide +kernel)⟩
theorem lw_p25 : lw_okq (⟨"GradientShards$Net", "removeAllOf", "(I)V"⟩, 4) := ⟨⟨by decide +kernel, by decide +kernel⟩, List.mem_of_getElem? (i := 107) (by decide +kernel), List.mem_of_getElem? (i := 344) (by decide +kernel), List.mem_of_getElem? (i := 345) (by decide +kernel)⟩
theorem lw_p26 : lw_okq (⟨"GradientShards$Shard", "goBackToCheckpoint", "()V"⟩, 9) := ⟨⟨by decide +kernel, by decide +kernel⟩, List.mem_of_getElem? (i := 18) (by decide +kernel), List.mem_of_getElem? (i := 353) (by decide +kernel), List.mem_of_getElem? (i := 354) (by decide +kernel)⟩
theorem lw_p27 : lw_okq (⟨"GradientShards$Link", "goBackToStart", "(I)V"⟩, 12) := ⟨⟨by decide +kernel, by decide +kernel⟩, List.mem_of_getElem? (i := 25) (by decide +kernel), List.mem_of_getElem? (i := 358) (by decide +kernel), List.mem_of_getElem? (i := 359) (by decide +kernel)⟩
theorem lw_p28 : lw_okq (⟨"GradientShards$Shard", "makeCheckpoint", "()I"⟩, 9) := ⟨⟨by decide +kernel, by decide +kernel⟩, List.mem_of_getElem? (i := 18) (by decide +kernel), List.mem_of_getElem? (i := 366) (by decide +kernel), List.mem_of_getElem? (i := 367) (by decide +kernel)⟩
theorem lw_p29 : lw_okq (⟨"GradientShards$Link", "keepFromBoundary", "()I"⟩, 12) := ⟨⟨by decide +kernel, by decide +kernel⟩, List.mem_of_getElem? (i := 25) (by decide +kernel), List.mem_of_getElem? (i := 370) (by decide +kernel), List.mem_of_getElem? (i := 371) (by decide +kernel)⟩
theorem lw_p30 : lw_okq (⟨"GradientShards$Shard", "earlyNumber", "()I"⟩, 9) := ⟨⟨by decide +kernel, by decide +kernel⟩, List.mem_of_getElem? (i := 18) (by decide +kernel), List.mem_of_getElem? (i := 385) (by decide +kernel), List.mem_of_getElem? (i := 386) (by decide +kernel)⟩
theorem lw_p31 : lw_okq (⟨"GradientShards$Link", "earlyNumber", "()I"⟩, 12) := ⟨⟨by decide +kernel, by decide +kernel⟩, List.mem_of_getElem? (i := 25) (by decide +kernel), List.mem_of_getElem? (i := 389) (by decide +kernel), List.mem_of_getElem? (i := 390) (by decide +kernel)⟩
def lw_privs_2 : List (MethodName × Nat) := [(⟨"GradientShards$Link", "take", "(I)V"⟩, 12), (⟨"GradientShards$Shard", "applyEndedClocks", "()V"⟩, 9), (⟨"GradientShards$Shard", "leastEndsHandled", "()I"⟩, 9), (⟨"GradientShards$Shard", "sumOfContributions", "(I)I"⟩, 9), (⟨"GradientShards$Link", "contribution", "(I)I"⟩, 12), (⟨"GradientShards$Shard", "applySum", "(II)V"⟩, 9), (⟨"GradientShards$Link", "moveBoundaryBehindNextEnd", "()V"⟩, 12), (⟨"GradientShards$Link", "isDueAgain", "(I)Z"⟩, 12), (⟨"GradientShards", "isUp", "(I)Z"⟩, 9), (⟨"GradientShards$Net", "removeAllOf", "(I)V"⟩, 4), (⟨"GradientShards$Shard", "goBackToCheckpoint", "()V"⟩, 9), (⟨"GradientShards$Link", "goBackToStart", "(I)V"⟩, 12), (⟨"GradientShards$Shard", "makeCheckpoint", "()I"⟩, 9), (⟨"GradientShards$Link", "keepFromBoundary", "()I"⟩, 12), (⟨"GradientShards$Shard", "earlyNumber", "()I"⟩, 9), (⟨"GradientShards$Link", "earlyNumber", "()I"⟩, 12)]
theorem lw_r2 : ∀ q ∈ lw_privs_2, lw_okq q := List.forall_mem_cons.mpr ⟨lw_p16, List.forall_mem_cons.mpr ⟨lw_p17, List.forall_mem_cons.mpr ⟨lw_p18, List.forall_mem_cons.mpr ⟨lw_p19, List.forall_mem_cons.mpr ⟨lw_p20, List.forall_mem_cons.mpr ⟨lw_p21, List.forall_mem_cons.mpr ⟨lw_p22, List.forall_mem_cons.mpr ⟨lw_p23, List.forall_mem_cons.mpr ⟨lw_p24, List.forall_mem_cons.mpr ⟨lw_p25, List.forall_mem_cons.mpr ⟨lw_p26, List.forall_mem_cons.mpr ⟨lw_p27, List.forall_mem_cons.mpr ⟨lw_p28, List.forall_mem_cons.mpr ⟨lw_p29, List.forall_mem_cons.mpr ⟨lw_p30, List.forall_mem_cons.mpr ⟨lw_p31, fun _ h => absurd h List.not_mem_nil⟩⟩⟩⟩⟩⟩⟩⟩⟩⟩⟩⟩⟩⟩⟩⟩
theorem lw_p32 : lw_okq (⟨"GradientShards$Link", "unconfirmedNumber", "()I"⟩, 12) := ⟨⟨by decide +kernel, by decide +kernel⟩, List.mem_of_getElem? (i := 25) (by decide +kernel), List.mem_of_getElem? (i := 401) (by decide +kernel), List.mem_of_getElem? (i := 402) (by decide +kernel)⟩
theorem lw_p33 : lw_okq (⟨"GradientShardsModel", "isWorker", "(I)Z"⟩, 20) := ⟨⟨by decide +kernel, by decide +kernel⟩, List.mem_of_getElem? (i := 420) (by decide +kernel), List.mem_of_getElem? (i := 491) (by decide +kernel), List.mem_of_getElem? (i := 492) (by decide +kernel)⟩
theorem lw_p34 : lw_okq (⟨"GradientShardsModel", "waits", "(I)Z"⟩, 20) := ⟨⟨by decide +kernel, by decide +kernel⟩, List.mem_of_getElem? (i := 420) (by decide +kernel), List.mem_of_getElem? (i := 495) (by decide +kernel), List.mem_of_getElem? (i := 496) (by decide +kernel)⟩
theorem lw_p35 : lw_okq (⟨"GradientShardsModel", "make", "(II)V"⟩, 20) := ⟨⟨by decide +kernel, by decide +kernel⟩, List.mem_of_getElem? (i := 420) (by decide +kernel), List.mem_of_getElem? (i := 499) (by decide +kernel), List.mem_of_getElem? (i := 500) (by decide +kernel)⟩
theorem lw_p36 : lw_okq (⟨"GradientShardsModel", "send", "(ZII)V"⟩, 20) := ⟨⟨by decide +kernel, by decide +kernel⟩, List.mem_of_getElem? (i := 420) (by decide +kernel), List.mem_of_getElem? (i := 503) (by decide +kernel), List.mem_of_getElem? (i := 504) (by decide +kernel)⟩
theorem lw_p37 : lw_okq (⟨"GradientShardsModel", "clocksDone", "(I)I"⟩, 20) := ⟨⟨by decide +kernel, by decide +kernel⟩, List.mem_of_getElem? (i := 420) (by decide +kernel), List.mem_of_getElem? (i := 516) (by decide +kernel), List.mem_of_getElem? (i := 517) (by decide +kernel)⟩
theorem lw_p38 : lw_okq (⟨"GradientShardsModel", "turn", "(I)I"⟩, 20) := ⟨⟨by decide +kernel, by decide +kernel⟩, List.mem_of_getElem? (i := 420) (by decide +kernel), List.mem_of_getElem? (i := 520) (by decide +kernel), List.mem_of_getElem? (i := 521) (by decide +kernel)⟩
theorem lw_p39 : lw_okq (⟨"GradientShardsModel", "workOut", "(II)V"⟩, 20) := ⟨⟨by decide +kernel, by decide +kernel⟩, List.mem_of_getElem? (i := 420) (by decide +kernel), List.mem_of_getElem? (i := 529) (by decide +kernel), List.mem_of_getElem? (i := 530) (by decide +kernel)⟩
theorem lw_p40 : lw_okq (⟨"GradientShardsModel", "contribution", "(III)I"⟩, 20) := ⟨⟨by decide +kernel, by decide +kernel⟩, List.mem_of_getElem? (i := 420) (by decide +kernel), List.mem_of_getElem? (i := 533) (by decide +kernel), List.mem_of_getElem? (i := 534) (by decide +kernel)⟩
theorem lw_p41 : lw_okq (⟨"GradientShardsModel", "boundary", "(II)I"⟩, 20) := ⟨⟨by decide +kernel, by decide +kernel⟩, List.mem_of_getElem? (i := 420) (by decide +kernel), List.mem_of_getElem? (i := 537) (by decide +kernel), List.mem_of_getElem? (i := 538) (by decide +kernel)⟩
theorem lw_p42 : lw_okq (⟨"GradientShardsModel", "remove", "(I)V"⟩, 20) := ⟨⟨by decide +kernel, by decide +kernel⟩, List.mem_of_getElem? (i := 420) (by decide +kernel), List.mem_of_getElem? (i := 555) (by decide +kernel), List.mem_of_getElem? (i := 556) (by decide +kernel)⟩
theorem lw_p43 : lw_okq (⟨"GradientShardsModel", "takeBefore", "(II)V"⟩, 20) := ⟨⟨by decide +kernel, by decide +kernel⟩, List.mem_of_getElem? (i := 420) (by decide +kernel), List.mem_of_getElem? (i := 584) (by decide +kernel), List.mem_of_getElem? (i := 585) (by decide +kernel)⟩
def lw_privs_3 : List (MethodName × Nat) := [(⟨"GradientShards$Link", "unconfirmedNumber", "()I"⟩, 12), (⟨"GradientShardsModel", "isWorker", "(I)Z"⟩, 20), (⟨"GradientShardsModel", "waits", "(I)Z"⟩, 20), (⟨"GradientShardsModel", "make", "(II)V"⟩, 20), (⟨"GradientShardsModel", "send", "(ZII)V"⟩, 20), (⟨"GradientShardsModel", "clocksDone", "(I)I"⟩, 20), (⟨"GradientShardsModel", "turn", "(I)I"⟩, 20), (⟨"GradientShardsModel", "workOut", "(II)V"⟩, 20), (⟨"GradientShardsModel", "contribution", "(III)I"⟩, 20), (⟨"GradientShardsModel", "boundary", "(II)I"⟩, 20), (⟨"GradientShardsModel", "remove", "(I)V"⟩, 20), (⟨"GradientShardsModel", "takeBefore", "(II)V"⟩, 20)]
theorem lw_r3 : ∀ q ∈ lw_privs_3, lw_okq q := List.forall_mem_cons.mpr ⟨lw_p32, List.forall_mem_cons.mpr ⟨lw_p33, List.forall_mem_cons.mpr ⟨lw_p34, List.forall_mem_cons.mpr ⟨lw_p35, List.forall_mem_cons.mpr ⟨lw_p36, List.forall_mem_cons.mpr ⟨lw_p37, List.forall_mem_cons.mpr ⟨lw_p38, List.forall_mem_cons.mpr ⟨lw_p39, List.forall_mem_cons.mpr ⟨lw_p40, List.forall_mem_cons.mpr ⟨lw_p41, List.forall_mem_cons.mpr ⟨lw_p42, List.forall_mem_cons.mpr ⟨lw_p43, fun _ h => absurd h List.not_mem_nil⟩⟩⟩⟩⟩⟩⟩⟩⟩⟩⟩⟩
def lw_privs : List (MethodName × Nat) := lw_privs_1 ++ (lw_privs_2 ++ (lw_privs_3))
def lw_tbl : List Cond := k2_sels lw_privs ++ tables_1
theorem lw_privs_ok : ∀ q ∈ lw_privs, lw_okq q := by
  show ∀ q ∈ lw_privs_1 ++ (lw_privs_2 ++ (lw_privs_3)), lw_okq q
  exact List.forall_mem_append.mpr ⟨lw_r1, List.forall_mem_append.mpr ⟨lw_r2, lw_r3⟩⟩
def GW : List Cond := lw_tbl.filter goodWord
theorem gw_i {w : Cond} (i : Nat) (h : lw_tbl[i]? = some w) (hg : goodWord w = true) : w ∈ GW := List.mem_filter.mpr ⟨List.mem_of_getElem? h, hg⟩
theorem gw_good : ∀ w ∈ GW, goodWord w = true := fun _ h => (List.mem_filter.mp h).2
theorem gw_tbl : ∀ w ∈ GW, w ∈ lw_tbl := fun _ h => (List.mem_filter.mp h).1
def R_Lk : String := "GradientShards$Link"
def T_Lk : u_T := fun k => match k with
  | 0 => ("GradientShards$Link", "worker", "I", true)
  | 1 => ("GradientShards$Link", "shard", "I", true)
  | 2 => ("GradientShards$Link", "places", "[I", true)
  | 3 => ("GradientShards$Link", "pushed", "[I", true)
  | 4 => ("GradientShards$Link", "sendings", "[I", true)
  | 5 => ("GradientShards$Link", "taken", "[Z", true)
  | 6 => ("GradientShards$Link", "made", "I", false)
  | 7 => ("GradientShards$Link", "start", "I", false)
  | 8 => ("GradientShards$Link", "confirmed", "I", false)
  | 9 => ("GradientShards$Link", "turn", "I", false)
  | 10 => ("GradientShards$Link", "endsHandled", "I", false)
  | _ => ("GradientShards$Link", "boundary", "I", false)
def ty_Lk : Nat → FieldType := fun k => match k with
  | 0 => .int
  | 1 => .int
  | 2 => .array .int
  | 3 => .array .int
  | 4 => .array .int
  | 5 => .array .boolean
  | 6 => .int
  | 7 => .int
  | 8 => .int
  | 9 => .int
  | 10 => .int
  | _ => .int
theorem nm_Lk : ∀ a, a < 12 → ∀ b, b < 12 → a ≠ b → (T_Lk a).2.1 ≠ (T_Lk b).2.1 := by decide +kernel
theorem tyok_Lk : ∀ k, k < 12 → parseFieldDescriptor (T_Lk k).2.2.1 = some (ty_Lk k) := by decide +kernel
set_option maxRecDepth 100000 in
theorem uw_Lk : ∀ w ∈ u_ws R_Lk T_Lk 12, w ∈ GW := by decide +kernel
def R_Nt : String := "GradientShards$Net"
def T_Nt : u_T := fun k => match k with
  | 0 => ("GradientShards$Net", "codes", "[I", true)
  | 1 => ("GradientShards$Net", "size", "I", false)
  | 2 => ("GradientShards$Net", "sent", "I", false)
  | _ => ("GradientShards$Net", "lost", "I", false)
def ty_Nt : Nat → FieldType := fun k => match k with
  | 0 => .array .int
  | 1 => .int
  | 2 => .int
  | _ => .int
theorem nm_Nt : ∀ a, a < 4 → ∀ b, b < 4 → a ≠ b → (T_Nt a).2.1 ≠ (T_Nt b).2.1 := by decide +kernel
theorem tyok_Nt : ∀ k, k < 4 → parseFieldDescriptor (T_Nt k).2.2.1 = some (ty_Nt k) := by decide +kernel
set_option maxRecDepth 100000 in
theorem uw_Nt : ∀ w ∈ u_ws R_Nt T_Nt 4, w ∈ GW := by decide +kernel
def R_Sh : String := "GradientShards$Shard"
def T_Sh : u_T := fun k => match k with
  | 0 => ("GradientShards$Shard", "rule", "I", true)
  | 1 => ("GradientShards$Shard", "links", "[LGradientShards$Link;", true)
  | 2 => ("GradientShards$Shard", "values", "[I", true)
  | 3 => ("GradientShards$Shard", "memories", "[I", true)
  | 4 => ("GradientShards$Shard", "savedValues", "[I", true)
  | 5 => ("GradientShards$Shard", "savedMemories", "[I", true)
  | 6 => ("GradientShards$Shard", "clocksDone", "I", false)
  | 7 => ("GradientShards$Shard", "savedClocksDone", "I", false)
  | _ => ("GradientShards$Shard", "up", "Z", false)
def ty_Sh : Nat → FieldType := fun k => match k with
  | 0 => .int
  | 1 => .array (.object "GradientShards$Link")
  | 2 => .array .int
  | 3 => .array .int
  | 4 => .array .int
  | 5 => .array .int
  | 6 => .int
  | 7 => .int
  | _ => .boolean
theorem nm_Sh : ∀ a, a < 9 → ∀ b, b < 9 → a ≠ b → (T_Sh a).2.1 ≠ (T_Sh b).2.1 := by decide +kernel
theorem tyok_Sh : ∀ k, k < 9 → parseFieldDescriptor (T_Sh k).2.2.1 = some (ty_Sh k) := by decide +kernel
set_option maxRecDepth 100000 in
theorem uw_Sh : ∀ w ∈ u_ws R_Sh T_Sh 9, w ∈ GW := by decide +kernel
def R_Gs : String := "GradientShards"
def T_Gs : u_T := fun k => match k with
  | 0 => ("GradientShards", "slack", "I", true)
  | 1 => ("GradientShards", "clocks", "[I", true)
  | 2 => ("GradientShards", "shards", "[LGradientShards$Shard;", true)
  | 3 => ("GradientShards", "net", "LGradientShards$Net;", true)
  | 4 => ("GradientShards", "time", "I", false)
  | 5 => ("GradientShards", "sentAgain", "I", false)
  | 6 => ("GradientShards", "doubles", "I", false)
  | 7 => ("GradientShards", "checkpoints", "I", false)
  | _ => ("GradientShards", "recoveries", "I", false)
def ty_Gs : Nat → FieldType := fun k => match k with
  | 0 => .int
  | 1 => .array .int
  | 2 => .array (.object "GradientShards$Shard")
  | 3 => .object "GradientShards$Net"
  | 4 => .int
  | 5 => .int
  | 6 => .int
  | 7 => .int
  | _ => .int
theorem nm_Gs : ∀ a, a < 9 → ∀ b, b < 9 → a ≠ b → (T_Gs a).2.1 ≠ (T_Gs b).2.1 := by decide +kernel
theorem tyok_Gs : ∀ k, k < 9 → parseFieldDescriptor (T_Gs k).2.2.1 = some (ty_Gs k) := by decide +kernel
set_option maxRecDepth 100000 in
theorem uw_Gs : ∀ w ∈ u_ws R_Gs T_Gs 9, w ∈ GW := by decide +kernel
def R_Md : String := "GradientShardsModel"
def T_Md : u_T := fun k => match k with
  | 0 => ("GradientShardsModel", "workers", "I", false)
  | 1 => ("GradientShardsModel", "slack", "I", false)
  | 2 => ("GradientShardsModel", "rule", "I", false)
  | 3 => ("GradientShardsModel", "time", "I", false)
  | 4 => ("GradientShardsModel", "clocks", "[I", false)
  | 5 => ("GradientShardsModel", "made", "[I", false)
  | 6 => ("GradientShardsModel", "start", "[I", false)
  | 7 => ("GradientShardsModel", "sure", "[I", false)
  | 8 => ("GradientShardsModel", "what", "[I", false)
  | 9 => ("GradientShardsModel", "taken", "[Z", false)
  | 10 => ("GradientShardsModel", "sentAt", "[I", false)
  | 11 => ("GradientShardsModel", "down", "[Z", false)
  | 12 => ("GradientShardsModel", "checked", "[I", false)
  | 13 => ("GradientShardsModel", "counts", "[I", false)
  | 14 => ("GradientShardsModel", "held", "I", false)
  | 15 => ("GradientShardsModel", "ack", "[Z", false)
  | 16 => ("GradientShardsModel", "link", "[I", false)
  | 17 => ("GradientShardsModel", "number", "[I", false)
  | 18 => ("GradientShardsModel", "value", "I", false)
  | _ => ("GradientShardsModel", "memory", "I", false)
def ty_Md : Nat → FieldType := fun k => match k with
  | 0 => .int
  | 1 => .int
  | 2 => .int
  | 3 => .int
  | 4 => .array .int
  | 5 => .array .int
  | 6 => .array .int
  | 7 => .array .int
  | 8 => .array .int
  | 9 => .array .boolean
  | 10 => .array .int
  | 11 => .array .boolean
  | 12 => .array .int
  | 13 => .array .int
  | 14 => .int
  | 15 => .array .boolean
  | 16 => .array .int
  | 17 => .array .int
  | 18 => .int
  | _ => .int
theorem nm_Md : ∀ a, a < 20 → ∀ b, b < 20 → a ≠ b → (T_Md a).2.1 ≠ (T_Md b).2.1 := by decide +kernel
theorem tyok_Md : ∀ k, k < 20 → parseFieldDescriptor (T_Md k).2.2.1 = some (ty_Md k) := by decide +kernel
set_option maxRecDepth 100000 in
theorem uw_Md : ∀ w ∈ u_ws R_Md T_Md 20, w ∈ GW := by decide +kernel
def R_Lw : String := "GradientShardsLaw"
abbrev vwCl : List vw_C := [(R_Lk, T_Lk, 12), (R_Nt, T_Nt, 4), (R_Sh, T_Sh, 9), (R_Gs, T_Gs, 9), (R_Md, T_Md, 20)]
abbrev b_Lk_init : ByteArray := prog_2_method_1_code
def y_Lk_init : MethodName := ⟨"GradientShards$Link", "<init>", "(II)V"⟩
abbrev b_Lk_slotOf : ByteArray := prog_2_method_2_code
def y_Lk_slotOf : MethodName := ⟨"GradientShards$Link", "slotOf", "(I)I"⟩
abbrev b_Lk_keptNumber : ByteArray := prog_2_method_3_code
def y_Lk_keptNumber : MethodName := ⟨"GradientShards$Link", "keptNumber", "()I"⟩
abbrev b_Lk_unconfirmedNumber : ByteArray := prog_2_method_4_code
def y_Lk_unconfirmedNumber : MethodName := ⟨"GradientShards$Link", "unconfirmedNumber", "()I"⟩
abbrev b_Lk_append : ByteArray := prog_2_method_5_code
def y_Lk_append : MethodName := ⟨"GradientShards$Link", "append", "(II)I"⟩
abbrev b_Lk_noteSending : ByteArray := prog_2_method_6_code
def y_Lk_noteSending : MethodName := ⟨"GradientShards$Link", "noteSending", "(II)V"⟩
abbrev b_Lk_isDueAgain : ByteArray := prog_2_method_7_code
def y_Lk_isDueAgain : MethodName := ⟨"GradientShards$Link", "isDueAgain", "(I)Z"⟩
abbrev b_Lk_confirm : ByteArray := prog_2_method_8_code
def y_Lk_confirm : MethodName := ⟨"GradientShards$Link", "confirm", "(I)Z"⟩
abbrev b_Lk_hasTaken : ByteArray := prog_2_method_9_code
def y_Lk_hasTaken : MethodName := ⟨"GradientShards$Link", "hasTaken", "(I)Z"⟩
abbrev b_Lk_take : ByteArray := prog_2_method_10_code
def y_Lk_take : MethodName := ⟨"GradientShards$Link", "take", "(I)V"⟩
abbrev b_Lk_earlyNumber : ByteArray := prog_2_method_11_code
def y_Lk_earlyNumber : MethodName := ⟨"GradientShards$Link", "earlyNumber", "()I"⟩
abbrev b_Lk_contribution : ByteArray := prog_2_method_12_code
def y_Lk_contribution : MethodName := ⟨"GradientShards$Link", "contribution", "(I)I"⟩
abbrev b_Lk_moveBoundaryBehindNextEnd : ByteArray := prog_2_method_13_code
def y_Lk_moveBoundaryBehindNextEnd : MethodName := ⟨"GradientShards$Link", "moveBoundaryBehindNextEnd", "()V"⟩
abbrev b_Lk_keepFromBoundary : ByteArray := prog_2_method_14_code
def y_Lk_keepFromBoundary : MethodName := ⟨"GradientShards$Link", "keepFromBoundary", "()I"⟩
abbrev b_Lk_goBackToStart : ByteArray := prog_2_method_15_code
def y_Lk_goBackToStart : MethodName := ⟨"GradientShards$Link", "goBackToStart", "(I)V"⟩
abbrev b_Nt_init : ByteArray := prog_3_method_1_code
def y_Nt_init : MethodName := ⟨"GradientShards$Net", "<init>", "()V"⟩
abbrev b_Nt_codeOf : ByteArray := prog_3_method_2_code
def y_Nt_codeOf : MethodName := ⟨"GradientShards$Net", "codeOf", "(ILGradientShards$Link;I)I"⟩
abbrev b_Nt_kindOf : ByteArray := prog_3_method_3_code
def y_Nt_kindOf : MethodName := ⟨"GradientShards$Net", "kindOf", "(I)I"⟩
abbrev b_Nt_workerOf : ByteArray := prog_3_method_4_code
def y_Nt_workerOf : MethodName := ⟨"GradientShards$Net", "workerOf", "(I)I"⟩
abbrev b_Nt_shardOf : ByteArray := prog_3_method_5_code
def y_Nt_shardOf : MethodName := ⟨"GradientShards$Net", "shardOf", "(I)I"⟩
abbrev b_Nt_numberOf : ByteArray := prog_3_method_6_code
def y_Nt_numberOf : MethodName := ⟨"GradientShards$Net", "numberOf", "(I)I"⟩
abbrev b_Nt_holds : ByteArray := prog_3_method_7_code
def y_Nt_holds : MethodName := ⟨"GradientShards$Net", "holds", "(I)Z"⟩
abbrev b_Nt_isFull : ByteArray := prog_3_method_8_code
def y_Nt_isFull : MethodName := ⟨"GradientShards$Net", "isFull", "()Z"⟩
abbrev b_Nt_send : ByteArray := prog_3_method_9_code
def y_Nt_send : MethodName := ⟨"GradientShards$Net", "send", "(I)V"⟩
abbrev b_Nt_remove : ByteArray := prog_3_method_10_code
def y_Nt_remove : MethodName := ⟨"GradientShards$Net", "remove", "(I)V"⟩
abbrev b_Nt_removeAllOf : ByteArray := prog_3_method_11_code
def y_Nt_removeAllOf : MethodName := ⟨"GradientShards$Net", "removeAllOf", "(I)V"⟩
abbrev b_Sh_init : ByteArray := prog_4_method_1_code
def y_Sh_init : MethodName := ⟨"GradientShards$Shard", "<init>", "(III)V"⟩
abbrev b_Sh_earlyNumber : ByteArray := prog_4_method_2_code
def y_Sh_earlyNumber : MethodName := ⟨"GradientShards$Shard", "earlyNumber", "()I"⟩
abbrev b_Sh_leastEndsHandled : ByteArray := prog_4_method_3_code
def y_Sh_leastEndsHandled : MethodName := ⟨"GradientShards$Shard", "leastEndsHandled", "()I"⟩
abbrev b_Sh_applyEndedClocks : ByteArray := prog_4_method_4_code
def y_Sh_applyEndedClocks : MethodName := ⟨"GradientShards$Shard", "applyEndedClocks", "()V"⟩
abbrev b_Sh_sumOfContributions : ByteArray := prog_4_method_5_code
def y_Sh_sumOfContributions : MethodName := ⟨"GradientShards$Shard", "sumOfContributions", "(I)I"⟩
abbrev b_Sh_applySum : ByteArray := prog_4_method_6_code
def y_Sh_applySum : MethodName := ⟨"GradientShards$Shard", "applySum", "(II)V"⟩
abbrev b_Sh_rootOf : ByteArray := prog_4_method_7_code
def y_Sh_rootOf : MethodName := ⟨"GradientShards$Shard", "rootOf", "(I)I"⟩
abbrev b_Sh_makeCheckpoint : ByteArray := prog_4_method_8_code
def y_Sh_makeCheckpoint : MethodName := ⟨"GradientShards$Shard", "makeCheckpoint", "()I"⟩
abbrev b_Sh_goBackToCheckpoint : ByteArray := prog_4_method_9_code
def y_Sh_goBackToCheckpoint : MethodName := ⟨"GradientShards$Shard", "goBackToCheckpoint", "()V"⟩
abbrev b_Gs_init : ByteArray := prog_1_method_1_code
def y_Gs_init : MethodName := ⟨"GradientShards", "<init>", "(III)V"⟩
abbrev b_Gs_add : ByteArray := prog_1_method_2_code
def y_Gs_add : MethodName := ⟨"GradientShards", "add", "(III)Z"⟩
abbrev b_Gs_advance : ByteArray := prog_1_method_3_code
def y_Gs_advance : MethodName := ⟨"GradientShards", "advance", "(I)Z"⟩
abbrev b_Gs_ready : ByteArray := prog_1_method_4_code
def y_Gs_ready : MethodName := ⟨"GradientShards", "ready", "(II)Z"⟩
abbrev b_Gs_pull : ByteArray := prog_1_method_5_code
def y_Gs_pull : MethodName := ⟨"GradientShards", "pull", "(II)I"⟩
abbrev b_Gs_clock : ByteArray := prog_1_method_6_code
def y_Gs_clock : MethodName := ⟨"GradientShards", "clock", "(I)I"⟩
abbrev b_Gs_deliver : ByteArray := prog_1_method_7_code
def y_Gs_deliver : MethodName := ⟨"GradientShards", "deliver", "(I)I"⟩
abbrev b_Gs_drop : ByteArray := prog_1_method_8_code
def y_Gs_drop : MethodName := ⟨"GradientShards", "drop", "(I)Z"⟩
abbrev b_Gs_copy : ByteArray := prog_1_method_9_code
def y_Gs_copy : MethodName := ⟨"GradientShards", "copy", "(I)Z"⟩
abbrev b_Gs_tick : ByteArray := prog_1_method_10_code
def y_Gs_tick : MethodName := ⟨"GradientShards", "tick", "()I"⟩
abbrev b_Gs_run : ByteArray := prog_1_method_11_code
def y_Gs_run : MethodName := ⟨"GradientShards", "run", "(I)I"⟩
abbrev b_Gs_kill : ByteArray := prog_1_method_12_code
def y_Gs_kill : MethodName := ⟨"GradientShards", "kill", "(I)Z"⟩
abbrev b_Gs_recover : ByteArray := prog_1_method_13_code
def y_Gs_recover : MethodName := ⟨"GradientShards", "recover", "(I)Z"⟩
abbrev b_Gs_checkpoint : ByteArray := prog_1_method_14_code
def y_Gs_checkpoint : MethodName := ⟨"GradientShards", "checkpoint", "(I)I"⟩
abbrev b_Gs_done : ByteArray := prog_1_method_15_code
def y_Gs_done : MethodName := ⟨"GradientShards", "done", "(I)I"⟩
abbrev b_Gs_early : ByteArray := prog_1_method_16_code
def y_Gs_early : MethodName := ⟨"GradientShards", "early", "(I)I"⟩
abbrev b_Gs_kept : ByteArray := prog_1_method_17_code
def y_Gs_kept : MethodName := ⟨"GradientShards", "kept", "(II)I"⟩
abbrev b_Gs_unconfirmed : ByteArray := prog_1_method_18_code
def y_Gs_unconfirmed : MethodName := ⟨"GradientShards", "unconfirmed", "(II)I"⟩
abbrev b_Gs_packets : ByteArray := prog_1_method_19_code
def y_Gs_packets : MethodName := ⟨"GradientShards", "packets", "()I"⟩
abbrev b_Gs_packet : ByteArray := prog_1_method_20_code
def y_Gs_packet : MethodName := ⟨"GradientShards", "packet", "(I)I"⟩
abbrev b_Gs_count : ByteArray := prog_1_method_21_code
def y_Gs_count : MethodName := ⟨"GradientShards", "count", "(I)I"⟩
abbrev b_Gs_isWorker : ByteArray := prog_1_method_22_code
def y_Gs_isWorker : MethodName := ⟨"GradientShards", "isWorker", "(I)Z"⟩
abbrev b_Gs_isKey : ByteArray := prog_1_method_23_code
def y_Gs_isKey : MethodName := ⟨"GradientShards", "isKey", "(I)Z"⟩
abbrev b_Gs_isShard : ByteArray := prog_1_method_24_code
def y_Gs_isShard : MethodName := ⟨"GradientShards", "isShard", "(I)Z"⟩
abbrev b_Gs_isUp : ByteArray := prog_1_method_25_code
def y_Gs_isUp : MethodName := ⟨"GradientShards", "isUp", "(I)Z"⟩
abbrev b_Gs_isHeld : ByteArray := prog_1_method_26_code
def y_Gs_isHeld : MethodName := ⟨"GradientShards", "isHeld", "(I)Z"⟩
abbrev b_Gs_keepsTooManyToEnd : ByteArray := prog_1_method_27_code
def y_Gs_keepsTooManyToEnd : MethodName := ⟨"GradientShards", "keepsTooManyToEnd", "(I)Z"⟩
abbrev b_Gs_linkOf : ByteArray := prog_1_method_28_code
def y_Gs_linkOf : MethodName := ⟨"GradientShards", "linkOf", "(II)LGradientShards$Link;"⟩
abbrev b_Gs_makeMessage : ByteArray := prog_1_method_29_code
def y_Gs_makeMessage : MethodName := ⟨"GradientShards", "makeMessage", "(LGradientShards$Link;II)V"⟩
abbrev b_Gs_sendMessage : ByteArray := prog_1_method_30_code
def y_Gs_sendMessage : MethodName := ⟨"GradientShards", "sendMessage", "(LGradientShards$Link;I)V"⟩
abbrev b_Gs_arrive : ByteArray := prog_1_method_31_code
def y_Gs_arrive : MethodName := ⟨"GradientShards", "arrive", "(LGradientShards$Shard;LGradientShards$Link;I)I"⟩
abbrev b_Gs_bounded : ByteArray := prog_1_method_32_code
def y_Gs_bounded : MethodName := ⟨"GradientShards", "bounded", "(I)I"⟩
abbrev b_Md_init : ByteArray := prog_6_method_1_code
def y_Md_init : MethodName := ⟨"GradientShardsModel", "<init>", "(III)V"⟩
abbrev b_Md_isWorker : ByteArray := prog_6_method_2_code
def y_Md_isWorker : MethodName := ⟨"GradientShardsModel", "isWorker", "(I)Z"⟩
abbrev b_Md_isShard : ByteArray := prog_6_method_3_code
def y_Md_isShard : MethodName := ⟨"GradientShardsModel", "isShard", "(I)Z"⟩
abbrev b_Md_waits : ByteArray := prog_6_method_4_code
def y_Md_waits : MethodName := ⟨"GradientShardsModel", "waits", "(I)Z"⟩
abbrev b_Md_send : ByteArray := prog_6_method_5_code
def y_Md_send : MethodName := ⟨"GradientShardsModel", "send", "(ZII)V"⟩
abbrev b_Md_remove : ByteArray := prog_6_method_6_code
def y_Md_remove : MethodName := ⟨"GradientShardsModel", "remove", "(I)V"⟩
abbrev b_Md_make : ByteArray := prog_6_method_7_code
def y_Md_make : MethodName := ⟨"GradientShardsModel", "make", "(II)V"⟩
abbrev b_Md_add : ByteArray := prog_6_method_8_code
def y_Md_add : MethodName := ⟨"GradientShardsModel", "add", "(III)Z"⟩
abbrev b_Md_advance : ByteArray := prog_6_method_9_code
def y_Md_advance : MethodName := ⟨"GradientShardsModel", "advance", "(I)Z"⟩
abbrev b_Md_turn : ByteArray := prog_6_method_10_code
def y_Md_turn : MethodName := ⟨"GradientShardsModel", "turn", "(I)I"⟩
abbrev b_Md_clocksDone : ByteArray := prog_6_method_11_code
def y_Md_clocksDone : MethodName := ⟨"GradientShardsModel", "clocksDone", "(I)I"⟩
abbrev b_Md_boundary : ByteArray := prog_6_method_12_code
def y_Md_boundary : MethodName := ⟨"GradientShardsModel", "boundary", "(II)I"⟩
abbrev b_Md_narrow : ByteArray := prog_6_method_13_code
def y_Md_narrow : MethodName := ⟨"GradientShardsModel", "narrow", "(I)I"⟩
abbrev b_Md_contribution : ByteArray := prog_6_method_14_code
def y_Md_contribution : MethodName := ⟨"GradientShardsModel", "contribution", "(III)I"⟩
abbrev b_Md_root : ByteArray := prog_6_method_15_code
def y_Md_root : MethodName := ⟨"GradientShardsModel", "root", "(I)I"⟩
abbrev b_Md_workOut : ByteArray := prog_6_method_16_code
def y_Md_workOut : MethodName := ⟨"GradientShardsModel", "workOut", "(II)V"⟩
abbrev b_Md_ready : ByteArray := prog_6_method_17_code
def y_Md_ready : MethodName := ⟨"GradientShardsModel", "ready", "(II)Z"⟩
abbrev b_Md_pull : ByteArray := prog_6_method_18_code
def y_Md_pull : MethodName := ⟨"GradientShardsModel", "pull", "(II)I"⟩
abbrev b_Md_clock : ByteArray := prog_6_method_19_code
def y_Md_clock : MethodName := ⟨"GradientShardsModel", "clock", "(I)I"⟩
abbrev b_Md_deliver : ByteArray := prog_6_method_20_code
def y_Md_deliver : MethodName := ⟨"GradientShardsModel", "deliver", "(I)I"⟩
abbrev b_Md_drop : ByteArray := prog_6_method_21_code
def y_Md_drop : MethodName := ⟨"GradientShardsModel", "drop", "(I)Z"⟩
abbrev b_Md_copy : ByteArray := prog_6_method_22_code
def y_Md_copy : MethodName := ⟨"GradientShardsModel", "copy", "(I)Z"⟩
abbrev b_Md_tick : ByteArray := prog_6_method_23_code
def y_Md_tick : MethodName := ⟨"GradientShardsModel", "tick", "()I"⟩
abbrev b_Md_run : ByteArray := prog_6_method_24_code
def y_Md_run : MethodName := ⟨"GradientShardsModel", "run", "(I)I"⟩
abbrev b_Md_takeBefore : ByteArray := prog_6_method_25_code
def y_Md_takeBefore : MethodName := ⟨"GradientShardsModel", "takeBefore", "(II)V"⟩
abbrev b_Md_kill : ByteArray := prog_6_method_26_code
def y_Md_kill : MethodName := ⟨"GradientShardsModel", "kill", "(I)Z"⟩
abbrev b_Md_recover : ByteArray := prog_6_method_27_code
def y_Md_recover : MethodName := ⟨"GradientShardsModel", "recover", "(I)Z"⟩
abbrev b_Md_checkpoint : ByteArray := prog_6_method_28_code
def y_Md_checkpoint : MethodName := ⟨"GradientShardsModel", "checkpoint", "(I)I"⟩
abbrev b_Md_done : ByteArray := prog_6_method_29_code
def y_Md_done : MethodName := ⟨"GradientShardsModel", "done", "(I)I"⟩
abbrev b_Md_early : ByteArray := prog_6_method_30_code
def y_Md_early : MethodName := ⟨"GradientShardsModel", "early", "(I)I"⟩
abbrev b_Md_kept : ByteArray := prog_6_method_31_code
def y_Md_kept : MethodName := ⟨"GradientShardsModel", "kept", "(II)I"⟩
abbrev b_Md_unconfirmed : ByteArray := prog_6_method_32_code
def y_Md_unconfirmed : MethodName := ⟨"GradientShardsModel", "unconfirmed", "(II)I"⟩
abbrev b_Md_packets : ByteArray := prog_6_method_33_code
def y_Md_packets : MethodName := ⟨"GradientShardsModel", "packets", "()I"⟩
abbrev b_Md_packet : ByteArray := prog_6_method_34_code
def y_Md_packet : MethodName := ⟨"GradientShardsModel", "packet", "(I)I"⟩
abbrev b_Md_count : ByteArray := prog_6_method_35_code
def y_Md_count : MethodName := ⟨"GradientShardsModel", "count", "(I)I"⟩
abbrev b_Lw_cell : ByteArray := method_2_code
def y_Lw_cell : MethodName := ⟨"GradientShardsLaw", "cell", "([II)I"⟩
abbrev b_Lw_law : ByteArray := code
def y_Lw_law : MethodName := ⟨"GradientShardsLaw", "law", "([I)Z"⟩
