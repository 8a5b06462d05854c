section
-- ===== PART A: goes FIRST, ahead of the names: the tables' words, and 'selects' of the private methods out of them =====
/-- a private method of a class that the tables say can be made, by its rows of tables_1 -/
def lw_okq (q : MethodName × Nat) : Prop := (q.1.cls ≠ "java/lang/invoke/MethodHandle" ∧ q.1.cls ≠ "java/lang/invoke/VarHandle") ∧ Cond.instantiable q.1.cls q.2 ∈ tables_1 ∧ Cond.privateMethod q.1 ∈ tables_1 ∧ Cond.instanceMethod q.1 ∈ tables_1
theorem lw_p0 : lw_okq (⟨"SplitSecrets$History", "draft", "(LSplitSecrets$Stores;)V"⟩, 3) := ⟨⟨by decide +kernel, by decide +kernel⟩, List.mem_of_getElem? (i := 143) (by decide +kernel), List.mem_of_getElem? (i := 235) (by decide +kernel), List.mem_of_getElem? (i := 236) (by decide +kernel)⟩
theorem lw_p1 : lw_okq (⟨"SplitSecrets$Stores", "copyState", "(LSplitSecrets$Stores;)V"⟩, 10) := ⟨⟨by decide +kernel, by decide +kernel⟩, List.mem_of_getElem? (i := 19) (by decide +kernel), List.mem_of_getElem? (i := 239) (by decide +kernel), List.mem_of_getElem? (i := 240) (by decide +kernel)⟩
theorem lw_p2 : lw_okq (⟨"SplitSecrets$Secret", "copySecret", "(LSplitSecrets$Secret;)V"⟩, 10) := ⟨⟨by decide +kernel, by decide +kernel⟩, List.mem_of_getElem? (i := 26) (by decide +kernel), List.mem_of_getElem? (i := 243) (by decide +kernel), List.mem_of_getElem? (i := 244) (by decide +kernel)⟩
theorem lw_p3 : lw_okq (⟨"SplitSecrets$Half", "copyHalf", "(LSplitSecrets$Half;)V"⟩, 7) := ⟨⟨by decide +kernel, by decide +kernel⟩, List.mem_of_getElem? (i := 32) (by decide +kernel), List.mem_of_getElem? (i := 247) (by decide +kernel), List.mem_of_getElem? (i := 248) (by decide +kernel)⟩
theorem lw_p4 : lw_okq (⟨"SplitSecrets$Stores", "changeSetting", "(II)I"⟩, 10) := ⟨⟨by decide +kernel, by decide +kernel⟩, List.mem_of_getElem? (i := 19) (by decide +kernel), List.mem_of_getElem? (i := 251) (by decide +kernel), List.mem_of_getElem? (i := 252) (by decide +kernel)⟩
theorem lw_p5 : lw_okq (⟨"SplitSecrets", "recorded", "(I)I"⟩, 6) := ⟨⟨by decide +kernel, by decide +kernel⟩, List.mem_of_getElem? (i := 11) (by decide +kernel), List.mem_of_getElem? (i := 259) (by decide +kernel), List.mem_of_getElem? (i := 260) (by decide +kernel)⟩
theorem lw_p6 : lw_okq (⟨"SplitSecrets$History", "recordDraft", "()V"⟩, 3) := ⟨⟨by decide +kernel, by decide +kernel⟩, List.mem_of_getElem? (i := 143) (by decide +kernel), List.mem_of_getElem? (i := 263) (by decide +kernel), List.mem_of_getElem? (i := 264) (by decide +kernel)⟩
theorem lw_p7 : lw_okq (⟨"SplitSecrets$Stores", "changeX", "(I)I"⟩, 10) := ⟨⟨by decide +kernel, by decide +kernel⟩, List.mem_of_getElem? (i := 19) (by decide +kernel), List.mem_of_getElem? (i := 271) (by decide +kernel), List.mem_of_getElem? (i := 272) (by decide +kernel)⟩
theorem lw_p8 : lw_okq (⟨"SplitSecrets$Stores", "admit", "(I)I"⟩, 10) := ⟨⟨by decide +kernel, by decide +kernel⟩, List.mem_of_getElem? (i := 19) (by decide +kernel), List.mem_of_getElem? (i := 279) (by decide +kernel), List.mem_of_getElem? (i := 280) (by decide +kernel)⟩
theorem lw_p9 : lw_okq (⟨"SplitSecrets$Stores", "someStoreSleeps", "()Z"⟩, 10) := ⟨⟨by decide +kernel, by decide +kernel⟩, List.mem_of_getElem? (i := 19) (by decide +kernel), List.mem_of_getElem? (i := 286) (by decide +kernel), List.mem_of_getElem? (i := 287) (by decide +kernel)⟩
theorem lw_p10 : lw_okq (⟨"SplitSecrets$Stores", "makeVersion", "(LSplitSecrets$Secret;I)V"⟩, 10) := ⟨⟨by decide +kernel, by decide +kernel⟩, List.mem_of_getElem? (i := 19) (by decide +kernel), List.mem_of_getElem? (i := 290) (by decide +kernel), List.mem_of_getElem? (i := 291) (by decide +kernel)⟩
theorem lw_p11 : lw_okq (⟨"SplitSecrets$Stores", "drawn", "()I"⟩, 10) := ⟨⟨by decide +kernel, by decide +kernel⟩, List.mem_of_getElem? (i := 19) (by decide +kernel), List.mem_of_getElem? (i := 294) (by decide +kernel), List.mem_of_getElem? (i := 295) (by decide +kernel)⟩
theorem lw_p12 : lw_okq (⟨"SplitSecrets$Half", "tagDueFor", "(I)I"⟩, 7) := ⟨⟨by decide +kernel, by decide +kernel⟩, List.mem_of_getElem? (i := 32) (by decide +kernel), List.mem_of_getElem? (i := 302) (by decide +kernel), List.mem_of_getElem? (i := 303) (by decide +kernel)⟩
theorem lw_p13 : lw_okq (⟨"SplitSecrets$Stores", "renew", "(I)I"⟩, 10) := ⟨⟨by decide +kernel, by decide +kernel⟩, List.mem_of_getElem? (i := 19) (by decide +kernel), List.mem_of_getElem? (i := 310) (by decide +kernel), List.mem_of_getElem? (i := 311) (by decide +kernel)⟩
theorem lw_p14 : lw_okq (⟨"SplitSecrets$Stores", "hasSecret", "(I)Z"⟩, 10) := ⟨⟨by decide +kernel, by decide +kernel⟩, List.mem_of_getElem? (i := 19) (by decide +kernel), List.mem_of_getElem? (i := 314) (by decide +kernel), List.mem_of_getElem? (i := 315) (by decide +kernel)⟩
theorem lw_p15 : lw_okq (⟨"SplitSecrets$Stores", "makeNextVersion", "(LSplitSecrets$Secret;)V"⟩, 10) := ⟨⟨by decide +kernel, by decide +kernel⟩, List.mem_of_getElem? (i := 19) (by decide +kernel), List.mem_of_getElem? (i := 318) (by decide +kernel), List.mem_of_getElem? (i := 319) (by decide +kernel)⟩
def lw_privs_1 : List (MethodName × Nat) := [(⟨"SplitSecrets$History", "draft", "(LSplitSecrets$Stores;)V"⟩, 3), (⟨"SplitSecrets$Stores", "copyState", "(LSplitSecrets$Stores;)V"⟩, 10), (⟨"SplitSecrets$Secret", "copySecret", "(LSplitSecrets$Secret;)V"⟩, 10), (⟨"SplitSecrets$Half", "copyHalf", "(LSplitSecrets$Half;)V"⟩, 7), (⟨"SplitSecrets$Stores", "changeSetting", "(II)I"⟩, 10), (⟨"SplitSecrets", "recorded", "(I)I"⟩, 6), (⟨"SplitSecrets$History", "recordDraft", "()V"⟩, 3), (⟨"SplitSecrets$Stores", "changeX", "(I)I"⟩, 10), (⟨"SplitSecrets$Stores", "admit", "(I)I"⟩, 10), (⟨"SplitSecrets$Stores", "someStoreSleeps", "()Z"⟩, 10), (⟨"SplitSecrets$Stores", "makeVersion", "(LSplitSecrets$Secret;I)V"⟩, 10), (⟨"SplitSecrets$Stores", "drawn", "()I"⟩, 10), (⟨"SplitSecrets$Half", "tagDueFor", "(I)I"⟩, 7), (⟨"SplitSecrets$Stores", "renew", "(I)I"⟩, 10), (⟨"SplitSecrets$Stores", "hasSecret", "(I)Z"⟩, 10), (⟨"SplitSecrets$Stores", "makeNextVersion", "(LSplitSecrets$Secret;)V"⟩, 10)]
theorem lw_r1 : ∀ q ∈ lw_privs_1, lw_okq q := List.forall_mem_cons.mpr ⟨lw_p0, List.forall_mem_cons.mpr ⟨lw_p1, List.forall_mem_cons.mpr ⟨lw_p2, List.forall_mem_cons.mpr ⟨lw_p3, List.forall_mem_cons.mpr ⟨lw_p4, List.forall_mem_cons.mpr ⟨lw_p5, List.forall_mem_cons.mpr ⟨lw_p6, List.forall_mem_cons.mpr ⟨lw_p7, List.forall_mem_cons.mpr ⟨lw_p8, List.forall_mem_cons.mpr ⟨lw_p9, List.forall_mem_cons.mpr ⟨lw_p10, List.forall_mem_cons.mpr ⟨lw_p11, List.forall_mem_cons.mpr ⟨lw_p12, List.forall_mem_cons.mpr ⟨lw_p13, List.forall_mem_cons.mpr ⟨lw_p14, List.forall_mem_cons.mpr ⟨lw_p15, fun _ h => absurd h List.not_mem_nil⟩⟩⟩⟩⟩⟩⟩⟩⟩⟩⟩⟩⟩⟩⟩⟩
theorem lw_p16 : lw_okq (⟨"SplitSecrets$Secret", "value", "()I"⟩, 10) := ⟨⟨by decide +kernel, by decide +kernel⟩, List.mem_of_getElem? (i := 26) (by decide +kernel), List.mem_of_getElem? (i := 322) (by decide +kernel), List.mem_of_getElem? (i := 323) (by decide +kernel)⟩
theorem lw_p17 : lw_okq (⟨"SplitSecrets$Secret", "ageKeeping", "(I)I"⟩, 10) := ⟨⟨by decide +kernel, by decide +kernel⟩, List.mem_of_getElem? (i := 26) (by decide +kernel), List.mem_of_getElem? (i := 326) (by decide +kernel), List.mem_of_getElem? (i := 327) (by decide +kernel)⟩
theorem lw_p18 : lw_okq (⟨"SplitSecrets$Half", "freeRowOfNow", "()V"⟩, 7) := ⟨⟨by decide +kernel, by decide +kernel⟩, List.mem_of_getElem? (i := 32) (by decide +kernel), List.mem_of_getElem? (i := 330) (by decide +kernel), List.mem_of_getElem? (i := 331) (by decide +kernel)⟩
theorem lw_p19 : lw_okq (⟨"SplitSecrets$Stores", "burnOldVersions", "(I)I"⟩, 10) := ⟨⟨by decide +kernel, by decide +kernel⟩, List.mem_of_getElem? (i := 19) (by decide +kernel), List.mem_of_getElem? (i := 341) (by decide +kernel), List.mem_of_getElem? (i := 342) (by decide +kernel)⟩
theorem lw_p20 : lw_okq (⟨"SplitSecrets$Stores", "turnSleep", "(I)I"⟩, 10) := ⟨⟨by decide +kernel, by decide +kernel⟩, List.mem_of_getElem? (i := 19) (by decide +kernel), List.mem_of_getElem? (i := 349) (by decide +kernel), List.mem_of_getElem? (i := 350) (by decide +kernel)⟩
theorem lw_p21 : lw_okq (⟨"SplitSecrets$Stores", "takeUpLie", "(IIII)I"⟩, 10) := ⟨⟨by decide +kernel, by decide +kernel⟩, List.mem_of_getElem? (i := 19) (by decide +kernel), List.mem_of_getElem? (i := 360) (by decide +kernel), List.mem_of_getElem? (i := 361) (by decide +kernel)⟩
theorem lw_p22 : lw_okq (⟨"SplitSecrets$Stores", "hasHalf", "(II)Z"⟩, 10) := ⟨⟨by decide +kernel, by decide +kernel⟩, List.mem_of_getElem? (i := 19) (by decide +kernel), List.mem_of_getElem? (i := 364) (by decide +kernel), List.mem_of_getElem? (i := 365) (by decide +kernel)⟩
theorem lw_p23 : lw_okq (⟨"SplitSecrets$Secret", "halfIn", "(I)LSplitSecrets$Half;"⟩, 10) := ⟨⟨by decide +kernel, by decide +kernel⟩, List.mem_of_getElem? (i := 26) (by decide +kernel), List.mem_of_getElem? (i := 371) (by decide +kernel), List.mem_of_getElem? (i := 372) (by decide +kernel)⟩
theorem lw_p24 : lw_okq (⟨"SplitSecrets$Stores", "mergeParts", "(I)I"⟩, 10) := ⟨⟨by decide +kernel, by decide +kernel⟩, List.mem_of_getElem? (i := 19) (by decide +kernel), List.mem_of_getElem? (i := 379) (by decide +kernel), List.mem_of_getElem? (i := 380) (by decide +kernel)⟩
theorem lw_p25 : lw_okq (⟨"SplitSecrets$Stores", "answerOfMerger", "(I)I"⟩, 10) := ⟨⟨by decide +kernel, by decide +kernel⟩, List.mem_of_getElem? (i := 19) (by decide +kernel), List.mem_of_getElem? (i := 383) (by decide +kernel), List.mem_of_getElem? (i := 384) (by decide +kernel)⟩
theorem lw_p26 : lw_okq (⟨"SplitSecrets$Secret", "answerIfMerged", "()I"⟩, 10) := ⟨⟨by decide +kernel, by decide +kernel⟩, List.mem_of_getElem? (i := 26) (by decide +kernel), List.mem_of_getElem? (i := 387) (by decide +kernel), List.mem_of_getElem? (i := 388) (by decide +kernel)⟩
theorem lw_p27 : lw_okq (⟨"SplitSecrets$Half", "catches", "(LSplitSecrets$Half;)Z"⟩, 7) := ⟨⟨by decide +kernel, by decide +kernel⟩, List.mem_of_getElem? (i := 32) (by decide +kernel), List.mem_of_getElem? (i := 391) (by decide +kernel), List.mem_of_getElem? (i := 392) (by decide +kernel)⟩
theorem lw_p28 : lw_okq (⟨"SplitSecrets$Half", "toldPart", "()I"⟩, 7) := ⟨⟨by decide +kernel, by decide +kernel⟩, List.mem_of_getElem? (i := 32) (by decide +kernel), List.mem_of_getElem? (i := 395) (by decide +kernel), List.mem_of_getElem? (i := 396) (by decide +kernel)⟩
theorem lw_p29 : lw_okq (⟨"SplitSecrets$Half", "partWith", "(I)I"⟩, 7) := ⟨⟨by decide +kernel, by decide +kernel⟩, List.mem_of_getElem? (i := 32) (by decide +kernel), List.mem_of_getElem? (i := 399) (by decide +kernel), List.mem_of_getElem? (i := 400) (by decide +kernel)⟩
theorem lw_p30 : lw_okq (⟨"SplitSecrets$Half", "toldTag", "()I"⟩, 7) := ⟨⟨by decide +kernel, by decide +kernel⟩, List.mem_of_getElem? (i := 32) (by decide +kernel), List.mem_of_getElem? (i := 404) (by decide +kernel), List.mem_of_getElem? (i := 405) (by decide +kernel)⟩
theorem lw_p31 : lw_okq (⟨"SplitSecrets$Secret", "open", "(II)V"⟩, 10) := ⟨⟨by decide +kernel, by decide +kernel⟩, List.mem_of_getElem? (i := 26) (by decide +kernel), List.mem_of_getElem? (i := 409) (by decide +kernel), List.mem_of_getElem? (i := 410) (by decide +kernel)⟩
def lw_privs_2 : List (MethodName × Nat) := [(⟨"SplitSecrets$Secret", "value", "()I"⟩, 10), (⟨"SplitSecrets$Secret", "ageKeeping", "(I)I"⟩, 10), (⟨"SplitSecrets$Half", "freeRowOfNow", "()V"⟩, 7), (⟨"SplitSecrets$Stores", "burnOldVersions", "(I)I"⟩, 10), (⟨"SplitSecrets$Stores", "turnSleep", "(I)I"⟩, 10), (⟨"SplitSecrets$Stores", "takeUpLie", "(IIII)I"⟩, 10), (⟨"SplitSecrets$Stores", "hasHalf", "(II)Z"⟩, 10), (⟨"SplitSecrets$Secret", "halfIn", "(I)LSplitSecrets$Half;"⟩, 10), (⟨"SplitSecrets$Stores", "mergeParts", "(I)I"⟩, 10), (⟨"SplitSecrets$Stores", "answerOfMerger", "(I)I"⟩, 10), (⟨"SplitSecrets$Secret", "answerIfMerged", "()I"⟩, 10), (⟨"SplitSecrets$Half", "catches", "(LSplitSecrets$Half;)Z"⟩, 7), (⟨"SplitSecrets$Half", "toldPart", "()I"⟩, 7), (⟨"SplitSecrets$Half", "partWith", "(I)I"⟩, 7), (⟨"SplitSecrets$Half", "toldTag", "()I"⟩, 7), (⟨"SplitSecrets$Secret", "open", "(II)V"⟩, 10)]
theorem lw_r2 : ∀ q ∈ lw_privs_2, lw_okq q := List.forall_mem_cons.mpr ⟨lw_p16, List.forall_mem_cons.mpr ⟨lw_p17, List.forall_mem_cons.mpr ⟨lw_p18, List.forall_mem_cons.mpr ⟨lw_p19, List.forall_mem_cons.mpr ⟨lw_p20, List.forall_mem_cons.mpr ⟨lw_p21, List.forall_mem_cons.mpr ⟨lw_p22, List.forall_mem_cons.mpr ⟨lw_p23, List.forall_mem_cons.mpr ⟨lw_p24, List.forall_mem_cons.mpr ⟨lw_p25, List.forall_mem_cons.mpr ⟨lw_p26, List.forall_mem_cons.mpr ⟨lw_p27, List.forall_mem_cons.mpr ⟨lw_p28, List.forall_mem_cons.mpr ⟨lw_p29, List.forall_mem_cons.mpr ⟨lw_p30, List.forall_mem_cons.mpr ⟨lw_p31, fun _ h => absurd h List.not_mem_nil⟩⟩⟩⟩⟩⟩⟩⟩⟩⟩⟩⟩⟩⟩⟩⟩
theorem lw_p32 : lw_okq (⟨"SplitSecrets$Half", "lies", "()Z"⟩, 7) := ⟨⟨by decide +kernel, by decide +kernel⟩, List.mem_of_getElem? (i := 32) (by decide +kernel), List.mem_of_getElem? (i := 413) (by decide +kernel), List.mem_of_getElem? (i := 414) (by decide +kernel)⟩
theorem lw_p33 : lw_okq (⟨"SplitSecrets$Stores", "givePartToThief", "(III)I"⟩, 10) := ⟨⟨by decide +kernel, by decide +kernel⟩, List.mem_of_getElem? (i := 19) (by decide +kernel), List.mem_of_getElem? (i := 421) (by decide +kernel), List.mem_of_getElem? (i := 422) (by decide +kernel)⟩
theorem lw_p34 : lw_okq (⟨"SplitSecrets$Secret", "partForThief", "(II)I"⟩, 10) := ⟨⟨by decide +kernel, by decide +kernel⟩, List.mem_of_getElem? (i := 26) (by decide +kernel), List.mem_of_getElem? (i := 425) (by decide +kernel), List.mem_of_getElem? (i := 426) (by decide +kernel)⟩
theorem lw_p35 : lw_okq (⟨"SplitSecrets$Secret", "takenSet", "(I)I"⟩, 10) := ⟨⟨by decide +kernel, by decide +kernel⟩, List.mem_of_getElem? (i := 26) (by decide +kernel), List.mem_of_getElem? (i := 430) (by decide +kernel), List.mem_of_getElem? (i := 431) (by decide +kernel)⟩
theorem lw_p36 : lw_okq (⟨"SplitSecrets$Stores", "passBeats", "(I)I"⟩, 10) := ⟨⟨by decide +kernel, by decide +kernel⟩, List.mem_of_getElem? (i := 19) (by decide +kernel), List.mem_of_getElem? (i := 438) (by decide +kernel), List.mem_of_getElem? (i := 439) (by decide +kernel)⟩
theorem lw_p37 : lw_okq (⟨"SplitSecrets$Stores", "passOneBeat", "()V"⟩, 10) := ⟨⟨by decide +kernel, by decide +kernel⟩, List.mem_of_getElem? (i := 19) (by decide +kernel), List.mem_of_getElem? (i := 442) (by decide +kernel), List.mem_of_getElem? (i := 443) (by decide +kernel)⟩
theorem lw_p38 : lw_okq (⟨"SplitSecrets$Stores", "figureOfHalf", "(III)I"⟩, 10) := ⟨⟨by decide +kernel, by decide +kernel⟩, List.mem_of_getElem? (i := 19) (by decide +kernel), List.mem_of_getElem? (i := 453) (by decide +kernel), List.mem_of_getElem? (i := 454) (by decide +kernel)⟩
theorem lw_p39 : lw_okq (⟨"SplitSecrets$Stores", "figureOfSecret", "(II)I"⟩, 10) := ⟨⟨by decide +kernel, by decide +kernel⟩, List.mem_of_getElem? (i := 19) (by decide +kernel), List.mem_of_getElem? (i := 463) (by decide +kernel), List.mem_of_getElem? (i := 464) (by decide +kernel)⟩
theorem lw_p40 : lw_okq (⟨"SplitSecrets$Stores", "figureOfOldVersion", "(III)I"⟩, 10) := ⟨⟨by decide +kernel, by decide +kernel⟩, List.mem_of_getElem? (i := 19) (by decide +kernel), List.mem_of_getElem? (i := 471) (by decide +kernel), List.mem_of_getElem? (i := 472) (by decide +kernel)⟩
theorem lw_p41 : lw_okq (⟨"SplitSecrets$Stores", "figure", "(I)I"⟩, 10) := ⟨⟨by decide +kernel, by decide +kernel⟩, List.mem_of_getElem? (i := 19) (by decide +kernel), List.mem_of_getElem? (i := 480) (by decide +kernel), List.mem_of_getElem? (i := 481) (by decide +kernel)⟩
theorem lw_p42 : lw_okq (⟨"SplitSecrets$Stores", "setOfOpen", "()I"⟩, 10) := ⟨⟨by decide +kernel, by decide +kernel⟩, List.mem_of_getElem? (i := 19) (by decide +kernel), List.mem_of_getElem? (i := 484) (by decide +kernel), List.mem_of_getElem? (i := 485) (by decide +kernel)⟩
theorem lw_p43 : lw_okq (⟨"SplitSecrets$Stores", "setOfKnown", "()I"⟩, 10) := ⟨⟨by decide +kernel, by decide +kernel⟩, List.mem_of_getElem? (i := 19) (by decide +kernel), List.mem_of_getElem? (i := 488) (by decide +kernel), List.mem_of_getElem? (i := 489) (by decide +kernel)⟩
theorem lw_p44 : lw_okq (⟨"SplitSecrets$Stores", "otherPartFor", "(III)I"⟩, 10) := ⟨⟨by decide +kernel, by decide +kernel⟩, List.mem_of_getElem? (i := 19) (by decide +kernel), List.mem_of_getElem? (i := 496) (by decide +kernel), List.mem_of_getElem? (i := 497) (by decide +kernel)⟩
theorem lw_p45 : lw_okq (⟨"SplitSecrets$Stores", "tagOffsetThatPasses", "(III)I"⟩, 10) := ⟨⟨by decide +kernel, by decide +kernel⟩, List.mem_of_getElem? (i := 19) (by decide +kernel), List.mem_of_getElem? (i := 504) (by decide +kernel), List.mem_of_getElem? (i := 505) (by decide +kernel)⟩
theorem lw_p46 : lw_okq (⟨"SplitSecrets$Secret", "halfBeside", "(I)LSplitSecrets$Half;"⟩, 10) := ⟨⟨by decide +kernel, by decide +kernel⟩, List.mem_of_getElem? (i := 26) (by decide +kernel), List.mem_of_getElem? (i := 508) (by decide +kernel), List.mem_of_getElem? (i := 509) (by decide +kernel)⟩
theorem lw_p47 : lw_okq (⟨"SplitSecrets$Stores", "offsetsThatPass", "(III)I"⟩, 10) := ⟨⟨by decide +kernel, by decide +kernel⟩, List.mem_of_getElem? (i := 19) (by decide +kernel), List.mem_of_getElem? (i := 517) (by decide +kernel), List.mem_of_getElem? (i := 518) (by decide +kernel)⟩
def lw_privs_3 : List (MethodName × Nat) := [(⟨"SplitSecrets$Half", "lies", "()Z"⟩, 7), (⟨"SplitSecrets$Stores", "givePartToThief", "(III)I"⟩, 10), (⟨"SplitSecrets$Secret", "partForThief", "(II)I"⟩, 10), (⟨"SplitSecrets$Secret", "takenSet", "(I)I"⟩, 10), (⟨"SplitSecrets$Stores", "passBeats", "(I)I"⟩, 10), (⟨"SplitSecrets$Stores", "passOneBeat", "()V"⟩, 10), (⟨"SplitSecrets$Stores", "figureOfHalf", "(III)I"⟩, 10), (⟨"SplitSecrets$Stores", "figureOfSecret", "(II)I"⟩, 10), (⟨"SplitSecrets$Stores", "figureOfOldVersion", "(III)I"⟩, 10), (⟨"SplitSecrets$Stores", "figure", "(I)I"⟩, 10), (⟨"SplitSecrets$Stores", "setOfOpen", "()I"⟩, 10), (⟨"SplitSecrets$Stores", "setOfKnown", "()I"⟩, 10), (⟨"SplitSecrets$Stores", "otherPartFor", "(III)I"⟩, 10), (⟨"SplitSecrets$Stores", "tagOffsetThatPasses", "(III)I"⟩, 10), (⟨"SplitSecrets$Secret", "halfBeside", "(I)LSplitSecrets$Half;"⟩, 10), (⟨"SplitSecrets$Stores", "offsetsThatPass", "(III)I"⟩, 10)]
theorem lw_r3 : ∀ q ∈ lw_privs_3, lw_okq q := List.forall_mem_cons.mpr ⟨lw_p32, List.forall_mem_cons.mpr ⟨lw_p33, List.forall_mem_cons.mpr ⟨lw_p34, List.forall_mem_cons.mpr ⟨lw_p35, List.forall_mem_cons.mpr ⟨lw_p36, List.forall_mem_cons.mpr ⟨lw_p37, List.forall_mem_cons.mpr ⟨lw_p38, List.forall_mem_cons.mpr ⟨lw_p39, List.forall_mem_cons.mpr ⟨lw_p40, List.forall_mem_cons.mpr ⟨lw_p41, List.forall_mem_cons.mpr ⟨lw_p42, List.forall_mem_cons.mpr ⟨lw_p43, List.forall_mem_cons.mpr ⟨lw_p44, List.forall_mem_cons.mpr ⟨lw_p45, List.forall_mem_cons.mpr ⟨lw_p46, List.forall_mem_cons.mpr ⟨lw_p47, fun _ h => absurd h List.not_mem_nil⟩⟩⟩⟩⟩⟩⟩⟩⟩⟩⟩⟩⟩⟩⟩⟩
theorem lw_p48 : lw_okq (⟨"SplitSecrets$Stores", "partsNeeded", "(I)I"⟩, 10) := ⟨⟨by decide +kernel, by decide +kernel⟩, List.mem_of_getElem? (i := 19) (by decide +kernel), List.mem_of_getElem? (i := 526) (by decide +kernel), List.mem_of_getElem? (i := 527) (by decide +kernel)⟩
theorem lw_p49 : lw_okq (⟨"SplitSecrets$Secret", "rowsAtRisk", "()I"⟩, 10) := ⟨⟨by decide +kernel, by decide +kernel⟩, List.mem_of_getElem? (i := 26) (by decide +kernel), List.mem_of_getElem? (i := 530) (by decide +kernel), List.mem_of_getElem? (i := 531) (by decide +kernel)⟩
theorem lw_p50 : lw_okq (⟨"SplitSecrets$Stores", "versionsAtRisk", "(I)I"⟩, 10) := ⟨⟨by decide +kernel, by decide +kernel⟩, List.mem_of_getElem? (i := 19) (by decide +kernel), List.mem_of_getElem? (i := 538) (by decide +kernel), List.mem_of_getElem? (i := 539) (by decide +kernel)⟩
theorem lw_p51 : lw_okq (⟨"SplitSecrets$Pad", "append", "(J)I"⟩, 2) := ⟨⟨by decide +kernel, by decide +kernel⟩, List.mem_of_getElem? (i := 163) (by decide +kernel), List.mem_of_getElem? (i := 551) (by decide +kernel), List.mem_of_getElem? (i := 552) (by decide +kernel)⟩
theorem lw_p52 : lw_okq (⟨"SplitSecrets$Pad", "clear", "()I"⟩, 2) := ⟨⟨by decide +kernel, by decide +kernel⟩, List.mem_of_getElem? (i := 163) (by decide +kernel), List.mem_of_getElem? (i := 565) (by decide +kernel), List.mem_of_getElem? (i := 566) (by decide +kernel)⟩
theorem lw_p53 : lw_okq (⟨"SplitSecrets$Reader", "firstFault", "()I"⟩, 7) := ⟨⟨by decide +kernel, by decide +kernel⟩, List.mem_of_getElem? (i := 179) (by decide +kernel), List.mem_of_getElem? (i := 573) (by decide +kernel), List.mem_of_getElem? (i := 574) (by decide +kernel)⟩
theorem lw_p54 : lw_okq (⟨"SplitSecrets$Reader", "goToStart", "()V"⟩, 7) := ⟨⟨by decide +kernel, by decide +kernel⟩, List.mem_of_getElem? (i := 179) (by decide +kernel), List.mem_of_getElem? (i := 577) (by decide +kernel), List.mem_of_getElem? (i := 578) (by decide +kernel)⟩
theorem lw_p55 : lw_okq (⟨"SplitSecrets$Reader", "readsNextOrder", "()Z"⟩, 7) := ⟨⟨by decide +kernel, by decide +kernel⟩, List.mem_of_getElem? (i := 179) (by decide +kernel), List.mem_of_getElem? (i := 581) (by decide +kernel), List.mem_of_getElem? (i := 582) (by decide +kernel)⟩
theorem lw_p56 : lw_okq (⟨"SplitSecrets$Reader", "reads", "(C)Z"⟩, 7) := ⟨⟨by decide +kernel, by decide +kernel⟩, List.mem_of_getElem? (i := 179) (by decide +kernel), List.mem_of_getElem? (i := 585) (by decide +kernel), List.mem_of_getElem? (i := 586) (by decide +kernel)⟩
theorem lw_p57 : lw_okq (⟨"SplitSecrets$Pad", "signAt", "(I)C"⟩, 2) := ⟨⟨by decide +kernel, by decide +kernel⟩, List.mem_of_getElem? (i := 163) (by decide +kernel), List.mem_of_getElem? (i := 589) (by decide +kernel), List.mem_of_getElem? (i := 590) (by decide +kernel)⟩
theorem lw_p58 : lw_okq (⟨"SplitSecrets$Reader", "readsNumber", "()Z"⟩, 7) := ⟨⟨by decide +kernel, by decide +kernel⟩, List.mem_of_getElem? (i := 179) (by decide +kernel), List.mem_of_getElem? (i := 593) (by decide +kernel), List.mem_of_getElem? (i := 594) (by decide +kernel)⟩
theorem lw_p59 : lw_okq (⟨"SplitSecrets$Reader", "numberRead", "()I"⟩, 7) := ⟨⟨by decide +kernel, by decide +kernel⟩, List.mem_of_getElem? (i := 179) (by decide +kernel), List.mem_of_getElem? (i := 597) (by decide +kernel), List.mem_of_getElem? (i := 598) (by decide +kernel)⟩
theorem lw_p60 : lw_okq (⟨"SplitSecrets$Reader", "digitRead", "()I"⟩, 7) := ⟨⟨by decide +kernel, by decide +kernel⟩, List.mem_of_getElem? (i := 179) (by decide +kernel), List.mem_of_getElem? (i := 601) (by decide +kernel), List.mem_of_getElem? (i := 602) (by decide +kernel)⟩
theorem lw_p61 : lw_okq (⟨"SplitSecrets$Reader", "readsSecret", "()Z"⟩, 7) := ⟨⟨by decide +kernel, by decide +kernel⟩, List.mem_of_getElem? (i := 179) (by decide +kernel), List.mem_of_getElem? (i := 605) (by decide +kernel), List.mem_of_getElem? (i := 606) (by decide +kernel)⟩
theorem lw_p62 : lw_okq (⟨"SplitSecrets$Reader", "readsStore", "()Z"⟩, 7) := ⟨⟨by decide +kernel, by decide +kernel⟩, List.mem_of_getElem? (i := 179) (by decide +kernel), List.mem_of_getElem? (i := 609) (by decide +kernel), List.mem_of_getElem? (i := 610) (by decide +kernel)⟩
theorem lw_p63 : lw_okq (⟨"SplitSecrets$Reader", "readsOffsets", "()Z"⟩, 7) := ⟨⟨by decide +kernel, by decide +kernel⟩, List.mem_of_getElem? (i := 179) (by decide +kernel), List.mem_of_getElem? (i := 613) (by decide +kernel), List.mem_of_getElem? (i := 614) (by decide +kernel)⟩
def lw_privs_4 : List (MethodName × Nat) := [(⟨"SplitSecrets$Stores", "partsNeeded", "(I)I"⟩, 10), (⟨"SplitSecrets$Secret", "rowsAtRisk", "()I"⟩, 10), (⟨"SplitSecrets$Stores", "versionsAtRisk", "(I)I"⟩, 10), (⟨"SplitSecrets$Pad", "append", "(J)I"⟩, 2), (⟨"SplitSecrets$Pad", "clear", "()I"⟩, 2), (⟨"SplitSecrets$Reader", "firstFault", "()I"⟩, 7), (⟨"SplitSecrets$Reader", "goToStart", "()V"⟩, 7), (⟨"SplitSecrets$Reader", "readsNextOrder", "()Z"⟩, 7), (⟨"SplitSecrets$Reader", "reads", "(C)Z"⟩, 7), (⟨"SplitSecrets$Pad", "signAt", "(I)C"⟩, 2), (⟨"SplitSecrets$Reader", "readsNumber", "()Z"⟩, 7), (⟨"SplitSecrets$Reader", "numberRead", "()I"⟩, 7), (⟨"SplitSecrets$Reader", "digitRead", "()I"⟩, 7), (⟨"SplitSecrets$Reader", "readsSecret", "()Z"⟩, 7), (⟨"SplitSecrets$Reader", "readsStore", "()Z"⟩, 7), (⟨"SplitSecrets$Reader", "readsOffsets", "()Z"⟩, 7)]
theorem lw_r4 : ∀ q ∈ lw_privs_4, lw_okq q := List.forall_mem_cons.mpr ⟨lw_p48, List.forall_mem_cons.mpr ⟨lw_p49, List.forall_mem_cons.mpr ⟨lw_p50, List.forall_mem_cons.mpr ⟨lw_p51, List.forall_mem_cons.mpr ⟨lw_p52, List.forall_mem_cons.mpr ⟨lw_p53, List.forall_mem_cons.mpr ⟨lw_p54, List.forall_mem_cons.mpr ⟨lw_p55, List.forall_mem_cons.mpr ⟨lw_p56, List.forall_mem_cons.mpr ⟨lw_p57, List.forall_mem_cons.mpr ⟨lw_p58, List.forall_mem_cons.mpr ⟨lw_p59, List.forall_mem_cons.mpr ⟨lw_p60, List.forall_mem_cons.mpr ⟨lw_p61, List.forall_mem_cons.mpr ⟨lw_p62, List.forall_mem_cons.mpr ⟨lw_p63, fun _ h => absurd h List.not_mem_nil⟩⟩⟩⟩⟩⟩⟩⟩⟩⟩⟩⟩⟩⟩⟩⟩
theorem lw_p64 : lw_okq (⟨"SplitSecrets$Reader", "readsVersion", "()Z"⟩, 7) := ⟨⟨by decide +kernel, by decide +kernel⟩, List.mem_of_getElem? (i := 179) (by decide +kernel), List.mem_of_getElem? (i := 617) (by decide +kernel), List.mem_of_getElem? (i := 618) (by decide +kernel)⟩
theorem lw_p65 : lw_okq (⟨"SplitSecrets", "answerOfOrder", "()I"⟩, 6) := ⟨⟨by decide +kernel, by decide +kernel⟩, List.mem_of_getElem? (i := 11) (by decide +kernel), List.mem_of_getElem? (i := 627) (by decide +kernel), List.mem_of_getElem? (i := 628) (by decide +kernel)⟩
theorem lw_p66 : lw_okq (⟨"SplitSecrets", "versionOfOrder", "()I"⟩, 6) := ⟨⟨by decide +kernel, by decide +kernel⟩, List.mem_of_getElem? (i := 11) (by decide +kernel), List.mem_of_getElem? (i := 631) (by decide +kernel), List.mem_of_getElem? (i := 632) (by decide +kernel)⟩
theorem lw_p67 : lw_okq (⟨"SplitSecrets$Stores", "versionNow", "(I)I"⟩, 10) := ⟨⟨by decide +kernel, by decide +kernel⟩, List.mem_of_getElem? (i := 19) (by decide +kernel), List.mem_of_getElem? (i := 635) (by decide +kernel), List.mem_of_getElem? (i := 636) (by decide +kernel)⟩
theorem lw_p68 : lw_okq (⟨"SplitSecrets$History", "takesBack", "(LSplitSecrets$Stores;)Z"⟩, 3) := ⟨⟨by decide +kernel, by decide +kernel⟩, List.mem_of_getElem? (i := 143) (by decide +kernel), List.mem_of_getElem? (i := 643) (by decide +kernel), List.mem_of_getElem? (i := 644) (by decide +kernel)⟩
theorem lw_p69 : lw_okq (⟨"SplitSecretsModel", "record", "()V"⟩, 11) := ⟨⟨by decide +kernel, by decide +kernel⟩, List.mem_of_getElem? (i := 659) (by decide +kernel), List.mem_of_getElem? (i := 706) (by decide +kernel), List.mem_of_getElem? (i := 707) (by decide +kernel)⟩
theorem lw_p70 : lw_okq (⟨"SplitSecretsModel", "looks", "()V"⟩, 11) := ⟨⟨by decide +kernel, by decide +kernel⟩, List.mem_of_getElem? (i := 659) (by decide +kernel), List.mem_of_getElem? (i := 710) (by decide +kernel), List.mem_of_getElem? (i := 711) (by decide +kernel)⟩
theorem lw_p71 : lw_okq (⟨"SplitSecretsModel", "pushes", "()V"⟩, 11) := ⟨⟨by decide +kernel, by decide +kernel⟩, List.mem_of_getElem? (i := 659) (by decide +kernel), List.mem_of_getElem? (i := 714) (by decide +kernel), List.mem_of_getElem? (i := 715) (by decide +kernel)⟩
theorem lw_p72 : lw_okq (⟨"SplitSecretsModel", "tries", "(IIIII)I"⟩, 11) := ⟨⟨by decide +kernel, by decide +kernel⟩, List.mem_of_getElem? (i := 659) (by decide +kernel), List.mem_of_getElem? (i := 726) (by decide +kernel), List.mem_of_getElem? (i := 727) (by decide +kernel)⟩
theorem lw_p73 : lw_okq (⟨"SplitSecretsModel", "does", "(IIIII)I"⟩, 11) := ⟨⟨by decide +kernel, by decide +kernel⟩, List.mem_of_getElem? (i := 659) (by decide +kernel), List.mem_of_getElem? (i := 730) (by decide +kernel), List.mem_of_getElem? (i := 731) (by decide +kernel)⟩
theorem lw_p74 : lw_okq (⟨"SplitSecretsModel", "keeps", "(I)I"⟩, 11) := ⟨⟨by decide +kernel, by decide +kernel⟩, List.mem_of_getElem? (i := 659) (by decide +kernel), List.mem_of_getElem? (i := 734) (by decide +kernel), List.mem_of_getElem? (i := 735) (by decide +kernel)⟩
theorem lw_p75 : lw_okq (⟨"SplitSecretsModel", "areAwake", "()Z"⟩, 11) := ⟨⟨by decide +kernel, by decide +kernel⟩, List.mem_of_getElem? (i := 659) (by decide +kernel), List.mem_of_getElem? (i := 738) (by decide +kernel), List.mem_of_getElem? (i := 739) (by decide +kernel)⟩
theorem lw_p76 : lw_okq (⟨"SplitSecretsModel", "makes", "(III)V"⟩, 11) := ⟨⟨by decide +kernel, by decide +kernel⟩, List.mem_of_getElem? (i := 659) (by decide +kernel), List.mem_of_getElem? (i := 742) (by decide +kernel), List.mem_of_getElem? (i := 743) (by decide +kernel)⟩
theorem lw_p77 : lw_okq (⟨"SplitSecretsModel", "draw", "(I)I"⟩, 11) := ⟨⟨by decide +kernel, by decide +kernel⟩, List.mem_of_getElem? (i := 659) (by decide +kernel), List.mem_of_getElem? (i := 746) (by decide +kernel), List.mem_of_getElem? (i := 747) (by decide +kernel)⟩
theorem lw_p78 : lw_okq (⟨"SplitSecretsModel", "refreshed", "(I)I"⟩, 11) := ⟨⟨by decide +kernel, by decide +kernel⟩, List.mem_of_getElem? (i := 659) (by decide +kernel), List.mem_of_getElem? (i := 757) (by decide +kernel), List.mem_of_getElem? (i := 758) (by decide +kernel)⟩
theorem lw_p79 : lw_okq (⟨"SplitSecretsModel", "isSecret", "(I)Z"⟩, 11) := ⟨⟨by decide +kernel, by decide +kernel⟩, List.mem_of_getElem? (i := 659) (by decide +kernel), List.mem_of_getElem? (i := 761) (by decide +kernel), List.mem_of_getElem? (i := 762) (by decide +kernel)⟩
def lw_privs_5 : List (MethodName × Nat) := [(⟨"SplitSecrets$Reader", "readsVersion", "()Z"⟩, 7), (⟨"SplitSecrets", "answerOfOrder", "()I"⟩, 6), (⟨"SplitSecrets", "versionOfOrder", "()I"⟩, 6), (⟨"SplitSecrets$Stores", "versionNow", "(I)I"⟩, 10), (⟨"SplitSecrets$History", "takesBack", "(LSplitSecrets$Stores;)Z"⟩, 3), (⟨"SplitSecretsModel", "record", "()V"⟩, 11), (⟨"SplitSecretsModel", "looks", "()V"⟩, 11), (⟨"SplitSecretsModel", "pushes", "()V"⟩, 11), (⟨"SplitSecretsModel", "tries", "(IIIII)I"⟩, 11), (⟨"SplitSecretsModel", "does", "(IIIII)I"⟩, 11), (⟨"SplitSecretsModel", "keeps", "(I)I"⟩, 11), (⟨"SplitSecretsModel", "areAwake", "()Z"⟩, 11), (⟨"SplitSecretsModel", "makes", "(III)V"⟩, 11), (⟨"SplitSecretsModel", "draw", "(I)I"⟩, 11), (⟨"SplitSecretsModel", "refreshed", "(I)I"⟩, 11), (⟨"SplitSecretsModel", "isSecret", "(I)Z"⟩, 11)]
theorem lw_r5 : ∀ q ∈ lw_privs_5, lw_okq q := List.forall_mem_cons.mpr ⟨lw_p64, List.forall_mem_cons.mpr ⟨lw_p65, List.forall_mem_cons.mpr ⟨lw_p66, List.forall_mem_cons.mpr ⟨lw_p67, List.forall_mem_cons.mpr ⟨lw_p68, List.forall_mem_cons.mpr ⟨lw_p69, List.forall_mem_cons.mpr ⟨lw_p70, List.forall_mem_cons.mpr ⟨lw_p71, List.forall_mem_cons.mpr ⟨lw_p72, List.forall_mem_cons.mpr ⟨lw_p73, List.forall_mem_cons.mpr ⟨lw_p74, List.forall_mem_cons.mpr ⟨lw_p75, List.forall_mem_cons.mpr ⟨lw_p76, List.forall_mem_cons.mpr ⟨lw_p77, List.forall_mem_cons.mpr ⟨lw_p78, List.forall_mem_cons.mpr ⟨lw_p79, fun _ h => absurd h List.not_mem_nil⟩⟩⟩⟩⟩⟩⟩⟩⟩⟩⟩⟩⟩⟩⟩⟩
theorem lw_p80 : lw_okq (⟨"SplitSecretsModel", "canRefresh", "(I)Z"⟩, 11) := ⟨⟨by decide +kernel, by decide +kernel⟩, List.mem_of_getElem? (i := 659) (by decide +kernel), List.mem_of_getElem? (i := 765) (by decide +kernel), List.mem_of_getElem? (i := 766) (by decide +kernel)⟩
theorem lw_p81 : lw_okq (⟨"SplitSecretsModel", "refreshes", "(I)V"⟩, 11) := ⟨⟨by decide +kernel, by decide +kernel⟩, List.mem_of_getElem? (i := 659) (by decide +kernel), List.mem_of_getElem? (i := 769) (by decide +kernel), List.mem_of_getElem? (i := 770) (by decide +kernel)⟩
theorem lw_p82 : lw_okq (⟨"SplitSecretsModel", "partOf", "(II)I"⟩, 11) := ⟨⟨by decide +kernel, by decide +kernel⟩, List.mem_of_getElem? (i := 659) (by decide +kernel), List.mem_of_getElem? (i := 773) (by decide +kernel), List.mem_of_getElem? (i := 774) (by decide +kernel)⟩
theorem lw_p83 : lw_okq (⟨"SplitSecretsModel", "burns", "(II)I"⟩, 11) := ⟨⟨by decide +kernel, by decide +kernel⟩, List.mem_of_getElem? (i := 659) (by decide +kernel), List.mem_of_getElem? (i := 777) (by decide +kernel), List.mem_of_getElem? (i := 778) (by decide +kernel)⟩
theorem lw_p84 : lw_okq (⟨"SplitSecretsModel", "burnt", "(I)I"⟩, 11) := ⟨⟨by decide +kernel, by decide +kernel⟩, List.mem_of_getElem? (i := 659) (by decide +kernel), List.mem_of_getElem? (i := 781) (by decide +kernel), List.mem_of_getElem? (i := 782) (by decide +kernel)⟩
theorem lw_p85 : lw_okq (⟨"SplitSecretsModel", "merges", "(I)I"⟩, 11) := ⟨⟨by decide +kernel, by decide +kernel⟩, List.mem_of_getElem? (i := 659) (by decide +kernel), List.mem_of_getElem? (i := 785) (by decide +kernel), List.mem_of_getElem? (i := 786) (by decide +kernel)⟩
theorem lw_p86 : lw_okq (⟨"SplitSecretsModel", "merged", "(I)I"⟩, 11) := ⟨⟨by decide +kernel, by decide +kernel⟩, List.mem_of_getElem? (i := 659) (by decide +kernel), List.mem_of_getElem? (i := 789) (by decide +kernel), List.mem_of_getElem? (i := 790) (by decide +kernel)⟩
theorem lw_p87 : lw_okq (⟨"SplitSecretsModel", "isPassedNow", "(II)Z"⟩, 11) := ⟨⟨by decide +kernel, by decide +kernel⟩, List.mem_of_getElem? (i := 659) (by decide +kernel), List.mem_of_getElem? (i := 793) (by decide +kernel), List.mem_of_getElem? (i := 794) (by decide +kernel)⟩
theorem lw_p88 : lw_okq (⟨"SplitSecretsModel", "isPassed", "(IIII)Z"⟩, 11) := ⟨⟨by decide +kernel, by decide +kernel⟩, List.mem_of_getElem? (i := 659) (by decide +kernel), List.mem_of_getElem? (i := 797) (by decide +kernel), List.mem_of_getElem? (i := 798) (by decide +kernel)⟩
theorem lw_p89 : lw_okq (⟨"SplitSecretsModel", "toldPart", "(III)I"⟩, 11) := ⟨⟨by decide +kernel, by decide +kernel⟩, List.mem_of_getElem? (i := 659) (by decide +kernel), List.mem_of_getElem? (i := 801) (by decide +kernel), List.mem_of_getElem? (i := 802) (by decide +kernel)⟩
theorem lw_p90 : lw_okq (⟨"SplitSecretsModel", "tagOf", "(II)I"⟩, 11) := ⟨⟨by decide +kernel, by decide +kernel⟩, List.mem_of_getElem? (i := 659) (by decide +kernel), List.mem_of_getElem? (i := 805) (by decide +kernel), List.mem_of_getElem? (i := 806) (by decide +kernel)⟩
theorem lw_p91 : lw_okq (⟨"SplitSecretsModel", "isLiedAbout", "(I)Z"⟩, 11) := ⟨⟨by decide +kernel, by decide +kernel⟩, List.mem_of_getElem? (i := 659) (by decide +kernel), List.mem_of_getElem? (i := 809) (by decide +kernel), List.mem_of_getElem? (i := 810) (by decide +kernel)⟩
theorem lw_p92 : lw_okq (⟨"SplitSecretsModel", "sleeps", "(I)I"⟩, 11) := ⟨⟨by decide +kernel, by decide +kernel⟩, List.mem_of_getElem? (i := 659) (by decide +kernel), List.mem_of_getElem? (i := 813) (by decide +kernel), List.mem_of_getElem? (i := 814) (by decide +kernel)⟩
theorem lw_p93 : lw_okq (⟨"SplitSecretsModel", "lies", "(IIII)I"⟩, 11) := ⟨⟨by decide +kernel, by decide +kernel⟩, List.mem_of_getElem? (i := 659) (by decide +kernel), List.mem_of_getElem? (i := 820) (by decide +kernel), List.mem_of_getElem? (i := 821) (by decide +kernel)⟩
theorem lw_p94 : lw_okq (⟨"SplitSecretsModel", "steals", "(III)I"⟩, 11) := ⟨⟨by decide +kernel, by decide +kernel⟩, List.mem_of_getElem? (i := 659) (by decide +kernel), List.mem_of_getElem? (i := 824) (by decide +kernel), List.mem_of_getElem? (i := 825) (by decide +kernel)⟩
theorem lw_p95 : lw_okq (⟨"SplitSecretsModel", "rankOf", "(II)I"⟩, 11) := ⟨⟨by decide +kernel, by decide +kernel⟩, List.mem_of_getElem? (i := 659) (by decide +kernel), List.mem_of_getElem? (i := 828) (by decide +kernel), List.mem_of_getElem? (i := 829) (by decide +kernel)⟩
def lw_privs_6 : List (MethodName × Nat) := [(⟨"SplitSecretsModel", "canRefresh", "(I)Z"⟩, 11), (⟨"SplitSecretsModel", "refreshes", "(I)V"⟩, 11), (⟨"SplitSecretsModel", "partOf", "(II)I"⟩, 11), (⟨"SplitSecretsModel", "burns", "(II)I"⟩, 11), (⟨"SplitSecretsModel", "burnt", "(I)I"⟩, 11), (⟨"SplitSecretsModel", "merges", "(I)I"⟩, 11), (⟨"SplitSecretsModel", "merged", "(I)I"⟩, 11), (⟨"SplitSecretsModel", "isPassedNow", "(II)Z"⟩, 11), (⟨"SplitSecretsModel", "isPassed", "(IIII)Z"⟩, 11), (⟨"SplitSecretsModel", "toldPart", "(III)I"⟩, 11), (⟨"SplitSecretsModel", "tagOf", "(II)I"⟩, 11), (⟨"SplitSecretsModel", "isLiedAbout", "(I)Z"⟩, 11), (⟨"SplitSecretsModel", "sleeps", "(I)I"⟩, 11), (⟨"SplitSecretsModel", "lies", "(IIII)I"⟩, 11), (⟨"SplitSecretsModel", "steals", "(III)I"⟩, 11), (⟨"SplitSecretsModel", "rankOf", "(II)I"⟩, 11)]
theorem lw_r6 : ∀ q ∈ lw_privs_6, lw_okq q := List.forall_mem_cons.mpr ⟨lw_p80, List.forall_mem_cons.mpr ⟨lw_p81, List.forall_mem_cons.mpr ⟨lw_p82, List.forall_mem_cons.mpr ⟨lw_p83, List.forall_mem_cons.mpr ⟨lw_p84, List.forall_mem_cons.mpr ⟨lw_p85, List.forall_mem_cons.mpr ⟨lw_p86, List.forall_mem_cons.mpr ⟨lw_p87, List.forall_mem_cons.mpr ⟨lw_p88, List.forall_mem_cons.mpr ⟨lw_p89, List.forall_mem_cons.mpr ⟨lw_p90, List.forall_mem_cons.mpr ⟨lw_p91, List.forall_mem_cons.mpr ⟨lw_p92, List.forall_mem_cons.mpr ⟨lw_p93, List.forall_mem_cons.mpr ⟨lw_p94, List.forall_mem_cons.mpr ⟨lw_p95, fun _ h => absurd h List.not_mem_nil⟩⟩⟩⟩⟩⟩⟩⟩⟩⟩⟩⟩⟩⟩⟩⟩
theorem lw_p96 : lw_okq (⟨"SplitSecretsModel", "passes", "(I)I"⟩, 11) := ⟨⟨by decide +kernel, by decide +kernel⟩, List.mem_of_getElem? (i := 659) (by decide +kernel), List.mem_of_getElem? (i := 832) (by decide +kernel), List.mem_of_getElem? (i := 833) (by decide +kernel)⟩
theorem lw_p97 : lw_okq (⟨"SplitSecretsModel", "beat", "()V"⟩, 11) := ⟨⟨by decide +kernel, by decide +kernel⟩, List.mem_of_getElem? (i := 659) (by decide +kernel), List.mem_of_getElem? (i := 836) (by decide +kernel), List.mem_of_getElem? (i := 837) (by decide +kernel)⟩
theorem lw_p98 : lw_okq (⟨"SplitSecretsModel", "setOf", "(I)I"⟩, 11) := ⟨⟨by decide +kernel, by decide +kernel⟩, List.mem_of_getElem? (i := 659) (by decide +kernel), List.mem_of_getElem? (i := 884) (by decide +kernel), List.mem_of_getElem? (i := 885) (by decide +kernel)⟩
theorem lw_p99 : lw_okq (⟨"SplitSecretsModel", "versionsAtRisk", "(I)I"⟩, 11) := ⟨⟨by decide +kernel, by decide +kernel⟩, List.mem_of_getElem? (i := 659) (by decide +kernel), List.mem_of_getElem? (i := 904) (by decide +kernel), List.mem_of_getElem? (i := 905) (by decide +kernel)⟩
theorem lw_p100 : lw_okq (⟨"SplitSecretsModel", "goes", "(Z)I"⟩, 11) := ⟨⟨by decide +kernel, by decide +kernel⟩, List.mem_of_getElem? (i := 659) (by decide +kernel), List.mem_of_getElem? (i := 929) (by decide +kernel), List.mem_of_getElem? (i := 930) (by decide +kernel)⟩
theorem lw_p101 : lw_okq (⟨"SplitSecretsModel", "readOrder", "()V"⟩, 11) := ⟨⟨by decide +kernel, by decide +kernel⟩, List.mem_of_getElem? (i := 659) (by decide +kernel), List.mem_of_getElem? (i := 933) (by decide +kernel), List.mem_of_getElem? (i := 934) (by decide +kernel)⟩
theorem lw_p102 : lw_okq (⟨"SplitSecretsModel", "takes", "(II)I"⟩, 11) := ⟨⟨by decide +kernel, by decide +kernel⟩, List.mem_of_getElem? (i := 659) (by decide +kernel), List.mem_of_getElem? (i := 937) (by decide +kernel), List.mem_of_getElem? (i := 938) (by decide +kernel)⟩
theorem lw_p103 : lw_okq (⟨"SplitSecretsModel", "takesNumber", "()I"⟩, 11) := ⟨⟨by decide +kernel, by decide +kernel⟩, List.mem_of_getElem? (i := 659) (by decide +kernel), List.mem_of_getElem? (i := 941) (by decide +kernel), List.mem_of_getElem? (i := 942) (by decide +kernel)⟩
theorem lw_p104 : lw_okq (⟨"SplitSecretsModel", "takesBehind", "(II)I"⟩, 11) := ⟨⟨by decide +kernel, by decide +kernel⟩, List.mem_of_getElem? (i := 659) (by decide +kernel), List.mem_of_getElem? (i := 945) (by decide +kernel), List.mem_of_getElem? (i := 946) (by decide +kernel)⟩
theorem lw_p105 : lw_okq (⟨"SplitSecretsModel", "isNext", "(I)Z"⟩, 11) := ⟨⟨by decide +kernel, by decide +kernel⟩, List.mem_of_getElem? (i := 659) (by decide +kernel), List.mem_of_getElem? (i := 949) (by decide +kernel), List.mem_of_getElem? (i := 950) (by decide +kernel)⟩
theorem lw_p106 : lw_okq (⟨"SplitSecretsModel", "isDone", "()Z"⟩, 11) := ⟨⟨by decide +kernel, by decide +kernel⟩, List.mem_of_getElem? (i := 659) (by decide +kernel), List.mem_of_getElem? (i := 953) (by decide +kernel), List.mem_of_getElem? (i := 954) (by decide +kernel)⟩
def lw_privs_7 : List (MethodName × Nat) := [(⟨"SplitSecretsModel", "passes", "(I)I"⟩, 11), (⟨"SplitSecretsModel", "beat", "()V"⟩, 11), (⟨"SplitSecretsModel", "setOf", "(I)I"⟩, 11), (⟨"SplitSecretsModel", "versionsAtRisk", "(I)I"⟩, 11), (⟨"SplitSecretsModel", "goes", "(Z)I"⟩, 11), (⟨"SplitSecretsModel", "readOrder", "()V"⟩, 11), (⟨"SplitSecretsModel", "takes", "(II)I"⟩, 11), (⟨"SplitSecretsModel", "takesNumber", "()I"⟩, 11), (⟨"SplitSecretsModel", "takesBehind", "(II)I"⟩, 11), (⟨"SplitSecretsModel", "isNext", "(I)Z"⟩, 11), (⟨"SplitSecretsModel", "isDone", "()Z"⟩, 11)]
theorem lw_r7 : ∀ q ∈ lw_privs_7, lw_okq q := List.forall_mem_cons.mpr ⟨lw_p96, List.forall_mem_cons.mpr ⟨lw_p97, List.forall_mem_cons.mpr ⟨lw_p98, List.forall_mem_cons.mpr ⟨lw_p99, List.forall_mem_cons.mpr ⟨lw_p100, List.forall_mem_cons.mpr ⟨lw_p101, List.forall_mem_cons.mpr ⟨lw_p102, List.forall_mem_cons.mpr ⟨lw_p103, List.forall_mem_cons.mpr ⟨lw_p104, List.forall_mem_cons.mpr ⟨lw_p105, List.forall_mem_cons.mpr ⟨lw_p106, fun _ h => absurd h List.not_mem_nil⟩⟩⟩⟩⟩⟩⟩⟩⟩⟩⟩
def lw_privs : List (MethodName × Nat) := lw_privs_1 ++ (lw_privs_2 ++ (lw_privs_3 ++ (lw_privs_4 ++ (lw_privs_5 ++ (lw_privs_6 ++ (lw_privs_7))))))
def lw_tbl : List Cond := k2_sels lw_privs ++ tables_1
theorem lw_privs_ok : ∀ q ∈ lw_privs, lw_okq q := by
  show ∀ q ∈ lw_privs_1 ++ (lw_privs_2 ++ (lw_privs_3 ++ (lw_privs_4 ++ (lw_privs_5 ++ (lw_privs_6 ++ (lw_privs_7)))))), lw_okq q
  exact List.forall_mem_append.mpr ⟨lw_r1, List.forall_mem_append.mpr ⟨lw_r2, List.forall_mem_append.mpr ⟨lw_r3, List.forall_mem_append.mpr ⟨lw_r4, List.forall_mem_append.mpr ⟨lw_r5, List.forall_mem_append.mpr ⟨lw_r6, lw_r7⟩⟩⟩⟩⟩⟩
-- ===== end of PART A; then your names; then what follows =====
end
section
def RX0 : String := "SplitSecrets$Half"
def TX0 : u_T := fun k => match k with
  | 0 => ("SplitSecrets$Half", "parts", "[I", true)
  | 1 => ("SplitSecrets$Half", "taken", "[Z", true)
  | 2 => ("SplitSecrets$Half", "tag", "I", false)
  | 3 => ("SplitSecrets$Half", "factor", "I", false)
  | 4 => ("SplitSecrets$Half", "sum", "I", false)
  | 5 => ("SplitSecrets$Half", "offset", "I", false)
  | _ => ("SplitSecrets$Half", "tagOffset", "I", false)
def tyX0 : Nat → FieldType := fun k => match k with
  | 0 => .array .int
  | 1 => .array .boolean
  | 2 => .int
  | 3 => .int
  | 4 => .int
  | 5 => .int
  | _ => .int
theorem nmX0 : ∀ a, a < 7 → ∀ b, b < 7 → a ≠ b → (TX0 a).2.1 ≠ (TX0 b).2.1 := by decide +kernel
theorem tyX0_ok : ∀ k, k < 7 → parseFieldDescriptor (TX0 k).2.2.1 = some (tyX0 k) := by decide +kernel
abbrev cX0_init : ByteArray := prog_2_method_1_code
def yX0_init : MethodName := ⟨RX0, "<init>", "()V"⟩
abbrev cX0_copyHalf : ByteArray := prog_2_method_2_code
def yX0_copyHalf : MethodName := ⟨RX0, "copyHalf", "(LSplitSecrets$Half;)V"⟩
abbrev cX0_partWith : ByteArray := prog_2_method_3_code
def yX0_partWith : MethodName := ⟨RX0, "partWith", "(I)I"⟩
abbrev cX0_toldPart : ByteArray := prog_2_method_4_code
def yX0_toldPart : MethodName := ⟨RX0, "toldPart", "()I"⟩
abbrev cX0_toldTag : ByteArray := prog_2_method_5_code
def yX0_toldTag : MethodName := ⟨RX0, "toldTag", "()I"⟩
abbrev cX0_lies : ByteArray := prog_2_method_6_code
def yX0_lies : MethodName := ⟨RX0, "lies", "()Z"⟩
abbrev cX0_tagDueFor : ByteArray := prog_2_method_7_code
def yX0_tagDueFor : MethodName := ⟨RX0, "tagDueFor", "(I)I"⟩
abbrev cX0_catches : ByteArray := prog_2_method_8_code
def yX0_catches : MethodName := ⟨RX0, "catches", "(LSplitSecrets$Half;)Z"⟩
abbrev cX0_freeRowOfNow : ByteArray := prog_2_method_9_code
def yX0_freeRowOfNow : MethodName := ⟨RX0, "freeRowOfNow", "()V"⟩
def RX1 : String := "SplitSecrets$History"
def TX1 : u_T := fun k => match k with
  | 0 => ("SplitSecrets$History", "rows", "[LSplitSecrets$Stores;", true)
  | 1 => ("SplitSecrets$History", "oldest", "I", false)
  | _ => ("SplitSecrets$History", "size", "I", false)
def tyX1 : Nat → FieldType := fun k => match k with
  | 0 => .array (.object "SplitSecrets$Stores")
  | 1 => .int
  | _ => .int
theorem nmX1 : ∀ a, a < 3 → ∀ b, b < 3 → a ≠ b → (TX1 a).2.1 ≠ (TX1 b).2.1 := by decide +kernel
theorem tyX1_ok : ∀ k, k < 3 → parseFieldDescriptor (TX1 k).2.2.1 = some (tyX1 k) := by decide +kernel
abbrev cX1_init : ByteArray := prog_3_method_1_code
def yX1_init : MethodName := ⟨RX1, "<init>", "()V"⟩
abbrev cX1_draft : ByteArray := prog_3_method_2_code
def yX1_draft : MethodName := ⟨RX1, "draft", "(LSplitSecrets$Stores;)V"⟩
abbrev cX1_recordDraft : ByteArray := prog_3_method_3_code
def yX1_recordDraft : MethodName := ⟨RX1, "recordDraft", "()V"⟩
abbrev cX1_takesBack : ByteArray := prog_3_method_4_code
def yX1_takesBack : MethodName := ⟨RX1, "takesBack", "(LSplitSecrets$Stores;)Z"⟩
def RX2 : String := "SplitSecrets$Pad"
def TX2 : u_T := fun k => match k with
  | 0 => ("SplitSecrets$Pad", "signs", "[C", true)
  | _ => ("SplitSecrets$Pad", "length", "I", false)
def tyX2 : Nat → FieldType := fun k => match k with
  | 0 => .array .char
  | _ => .int
theorem nmX2 : ∀ a, a < 2 → ∀ b, b < 2 → a ≠ b → (TX2 a).2.1 ≠ (TX2 b).2.1 := by decide +kernel
theorem tyX2_ok : ∀ k, k < 2 → parseFieldDescriptor (TX2 k).2.2.1 = some (tyX2 k) := by decide +kernel
abbrev cX2_init : ByteArray := prog_4_method_1_code
def yX2_init : MethodName := ⟨RX2, "<init>", "()V"⟩
abbrev cX2_append : ByteArray := prog_4_method_2_code
def yX2_append : MethodName := ⟨RX2, "append", "(J)I"⟩
abbrev cX2_codeIn : ByteArray := prog_4_method_3_code
def yX2_codeIn : MethodName := ⟨RX2, "codeIn", "(JI)I"⟩
abbrev cX2_signsIn : ByteArray := prog_4_method_4_code
def yX2_signsIn : MethodName := ⟨RX2, "signsIn", "(J)I"⟩
abbrev cX2_clear : ByteArray := prog_4_method_5_code
def yX2_clear : MethodName := ⟨RX2, "clear", "()I"⟩
abbrev cX2_signAt : ByteArray := prog_4_method_6_code
def yX2_signAt : MethodName := ⟨RX2, "signAt", "(I)C"⟩
def RX3 : String := "SplitSecrets$Reader"
def TX3 : u_T := fun k => match k with
  | 0 => ("SplitSecrets$Reader", "pad", "LSplitSecrets$Pad;", true)
  | 1 => ("SplitSecrets$Reader", "at", "I", false)
  | 2 => ("SplitSecrets$Reader", "letter", "C", false)
  | 3 => ("SplitSecrets$Reader", "store", "I", false)
  | 4 => ("SplitSecrets$Reader", "secret", "I", false)
  | 5 => ("SplitSecrets$Reader", "number", "I", false)
  | _ => ("SplitSecrets$Reader", "tag", "I", false)
def tyX3 : Nat → FieldType := fun k => match k with
  | 0 => .object "SplitSecrets$Pad"
  | 1 => .int
  | 2 => .char
  | 3 => .int
  | 4 => .int
  | 5 => .int
  | _ => .int
theorem nmX3 : ∀ a, a < 7 → ∀ b, b < 7 → a ≠ b → (TX3 a).2.1 ≠ (TX3 b).2.1 := by decide +kernel
theorem tyX3_ok : ∀ k, k < 7 → parseFieldDescriptor (TX3 k).2.2.1 = some (tyX3 k) := by decide +kernel
abbrev cX3_init : ByteArray := prog_5_method_1_code
def yX3_init : MethodName := ⟨RX3, "<init>", "(LSplitSecrets$Pad;)V"⟩
abbrev cX3_goToStart : ByteArray := prog_5_method_2_code
def yX3_goToStart : MethodName := ⟨RX3, "goToStart", "()V"⟩
abbrev cX3_firstFault : ByteArray := prog_5_method_3_code
def yX3_firstFault : MethodName := ⟨RX3, "firstFault", "()I"⟩
abbrev cX3_readsNextOrder : ByteArray := prog_5_method_4_code
def yX3_readsNextOrder : MethodName := ⟨RX3, "readsNextOrder", "()Z"⟩
abbrev cX3_reads : ByteArray := prog_5_method_5_code
def yX3_reads : MethodName := ⟨RX3, "reads", "(C)Z"⟩
abbrev cX3_readsStore : ByteArray := prog_5_method_6_code
def yX3_readsStore : MethodName := ⟨RX3, "readsStore", "()Z"⟩
abbrev cX3_readsSecret : ByteArray := prog_5_method_7_code
def yX3_readsSecret : MethodName := ⟨RX3, "readsSecret", "()Z"⟩
abbrev cX3_readsNumber : ByteArray := prog_5_method_8_code
def yX3_readsNumber : MethodName := ⟨RX3, "readsNumber", "()Z"⟩
abbrev cX3_readsOffsets : ByteArray := prog_5_method_9_code
def yX3_readsOffsets : MethodName := ⟨RX3, "readsOffsets", "()Z"⟩
abbrev cX3_readsVersion : ByteArray := prog_5_method_10_code
def yX3_readsVersion : MethodName := ⟨RX3, "readsVersion", "()Z"⟩
abbrev cX3_digitRead : ByteArray := prog_5_method_11_code
def yX3_digitRead : MethodName := ⟨RX3, "digitRead", "()I"⟩
abbrev cX3_numberRead : ByteArray := prog_5_method_12_code
def yX3_numberRead : MethodName := ⟨RX3, "numberRead", "()I"⟩
def RX4 : String := "SplitSecrets$Secret"
def TX4 : u_T := fun k => match k with
  | 0 => ("SplitSecrets$Secret", "first", "LSplitSecrets$Half;", true)
  | 1 => ("SplitSecrets$Secret", "second", "LSplitSecrets$Half;", true)
  | 2 => ("SplitSecrets$Secret", "version", "I", false)
  | 3 => ("SplitSecrets$Secret", "olds", "I", false)
  | 4 => ("SplitSecrets$Secret", "openAs", "I", false)
  | 5 => ("SplitSecrets$Secret", "openFor", "I", false)
  | 6 => ("SplitSecrets$Secret", "caught", "I", false)
  | 7 => ("SplitSecrets$Secret", "opened", "I", false)
  | 8 => ("SplitSecrets$Secret", "stolen", "I", false)
  | _ => ("SplitSecrets$Secret", "known", "Z", false)
def tyX4 : Nat → FieldType := fun k => match k with
  | 0 => .object "SplitSecrets$Half"
  | 1 => .object "SplitSecrets$Half"
  | 2 => .int
  | 3 => .int
  | 4 => .int
  | 5 => .int
  | 6 => .int
  | 7 => .int
  | 8 => .int
  | _ => .boolean
theorem nmX4 : ∀ a, a < 10 → ∀ b, b < 10 → a ≠ b → (TX4 a).2.1 ≠ (TX4 b).2.1 := by decide +kernel
theorem tyX4_ok : ∀ k, k < 10 → parseFieldDescriptor (TX4 k).2.2.1 = some (tyX4 k) := by decide +kernel
abbrev cX4_init : ByteArray := prog_6_method_1_code
def yX4_init : MethodName := ⟨RX4, "<init>", "()V"⟩
abbrev cX4_copySecret : ByteArray := prog_6_method_2_code
def yX4_copySecret : MethodName := ⟨RX4, "copySecret", "(LSplitSecrets$Secret;)V"⟩
abbrev cX4_halfIn : ByteArray := prog_6_method_3_code
def yX4_halfIn : MethodName := ⟨RX4, "halfIn", "(I)LSplitSecrets$Half;"⟩
abbrev cX4_halfBeside : ByteArray := prog_6_method_4_code
def yX4_halfBeside : MethodName := ⟨RX4, "halfBeside", "(I)LSplitSecrets$Half;"⟩
abbrev cX4_value : ByteArray := prog_6_method_5_code
def yX4_value : MethodName := ⟨RX4, "value", "()I"⟩
abbrev cX4_ageKeeping : ByteArray := prog_6_method_6_code
def yX4_ageKeeping : MethodName := ⟨RX4, "ageKeeping", "(I)I"⟩
abbrev cX4_answerIfMerged : ByteArray := prog_6_method_7_code
def yX4_answerIfMerged : MethodName := ⟨RX4, "answerIfMerged", "()I"⟩
abbrev cX4_open : ByteArray := prog_6_method_8_code
def yX4_open : MethodName := ⟨RX4, "open", "(II)V"⟩
abbrev cX4_partForThief : ByteArray := prog_6_method_9_code
def yX4_partForThief : MethodName := ⟨RX4, "partForThief", "(II)I"⟩
abbrev cX4_takenSet : ByteArray := prog_6_method_10_code
def yX4_takenSet : MethodName := ⟨RX4, "takenSet", "(I)I"⟩
abbrev cX4_rowsAtRisk : ByteArray := prog_6_method_11_code
def yX4_rowsAtRisk : MethodName := ⟨RX4, "rowsAtRisk", "()I"⟩
def RX5 : String := "SplitSecrets$Stores"
def TX5 : u_T := fun k => match k with
  | 0 => ("SplitSecrets$Stores", "secrets", "[LSplitSecrets$Secret;", true)
  | 1 => ("SplitSecrets$Stores", "settings", "[I", true)
  | 2 => ("SplitSecrets$Stores", "asleep", "[Z", true)
  | 3 => ("SplitSecrets$Stores", "kept", "I", false)
  | 4 => ("SplitSecrets$Stores", "x", "I", false)
  | 5 => ("SplitSecrets$Stores", "beatsSoFar", "I", false)
  | 6 => ("SplitSecrets$Stores", "made", "I", false)
  | 7 => ("SplitSecrets$Stores", "burnt", "I", false)
  | 8 => ("SplitSecrets$Stores", "caught", "I", false)
  | _ => ("SplitSecrets$Stores", "liesPassed", "I", false)
def tyX5 : Nat → FieldType := fun k => match k with
  | 0 => .array (.object "SplitSecrets$Secret")
  | 1 => .array .int
  | 2 => .array .boolean
  | 3 => .int
  | 4 => .int
  | 5 => .int
  | 6 => .int
  | 7 => .int
  | 8 => .int
  | _ => .int
theorem nmX5 : ∀ a, a < 10 → ∀ b, b < 10 → a ≠ b → (TX5 a).2.1 ≠ (TX5 b).2.1 := by decide +kernel
theorem tyX5_ok : ∀ k, k < 10 → parseFieldDescriptor (TX5 k).2.2.1 = some (tyX5 k) := by decide +kernel
abbrev cX5_init : ByteArray := prog_7_method_1_code
def yX5_init : MethodName := ⟨RX5, "<init>", "()V"⟩
abbrev cX5_copyState : ByteArray := prog_7_method_2_code
def yX5_copyState : MethodName := ⟨RX5, "copyState", "(LSplitSecrets$Stores;)V"⟩
abbrev cX5_hasSecret : ByteArray := prog_7_method_3_code
def yX5_hasSecret : MethodName := ⟨RX5, "hasSecret", "(I)Z"⟩
abbrev cX5_hasHalf : ByteArray := prog_7_method_4_code
def yX5_hasHalf : MethodName := ⟨RX5, "hasHalf", "(II)Z"⟩
abbrev cX5_someStoreSleeps : ByteArray := prog_7_method_5_code
def yX5_someStoreSleeps : MethodName := ⟨RX5, "someStoreSleeps", "()Z"⟩
abbrev cX5_versionNow : ByteArray := prog_7_method_6_code
def yX5_versionNow : MethodName := ⟨RX5, "versionNow", "(I)I"⟩
abbrev cX5_changeSetting : ByteArray := prog_7_method_7_code
def yX5_changeSetting : MethodName := ⟨RX5, "changeSetting", "(II)I"⟩
abbrev cX5_changeX : ByteArray := prog_7_method_8_code
def yX5_changeX : MethodName := ⟨RX5, "changeX", "(I)I"⟩
abbrev cX5_drawn : ByteArray := prog_7_method_9_code
def yX5_drawn : MethodName := ⟨RX5, "drawn", "()I"⟩
abbrev cX5_admit : ByteArray := prog_7_method_10_code
def yX5_admit : MethodName := ⟨RX5, "admit", "(I)I"⟩
abbrev cX5_makeVersion : ByteArray := prog_7_method_11_code
def yX5_makeVersion : MethodName := ⟨RX5, "makeVersion", "(LSplitSecrets$Secret;I)V"⟩
abbrev cX5_makeNextVersion : ByteArray := prog_7_method_12_code
def yX5_makeNextVersion : MethodName := ⟨RX5, "makeNextVersion", "(LSplitSecrets$Secret;)V"⟩
abbrev cX5_renew : ByteArray := prog_7_method_13_code
def yX5_renew : MethodName := ⟨RX5, "renew", "(I)I"⟩
abbrev cX5_burnOldVersions : ByteArray := prog_7_method_14_code
def yX5_burnOldVersions : MethodName := ⟨RX5, "burnOldVersions", "(I)I"⟩
abbrev cX5_turnSleep : ByteArray := prog_7_method_15_code
def yX5_turnSleep : MethodName := ⟨RX5, "turnSleep", "(I)I"⟩
abbrev cX5_takeUpLie : ByteArray := prog_7_method_16_code
def yX5_takeUpLie : MethodName := ⟨RX5, "takeUpLie", "(IIII)I"⟩
abbrev cX5_answerOfMerger : ByteArray := prog_7_method_17_code
def yX5_answerOfMerger : MethodName := ⟨RX5, "answerOfMerger", "(I)I"⟩
abbrev cX5_mergeParts : ByteArray := prog_7_method_18_code
def yX5_mergeParts : MethodName := ⟨RX5, "mergeParts", "(I)I"⟩
abbrev cX5_givePartToThief : ByteArray := prog_7_method_19_code
def yX5_givePartToThief : MethodName := ⟨RX5, "givePartToThief", "(III)I"⟩
abbrev cX5_passBeats : ByteArray := prog_7_method_20_code
def yX5_passBeats : MethodName := ⟨RX5, "passBeats", "(I)I"⟩
abbrev cX5_passOneBeat : ByteArray := prog_7_method_21_code
def yX5_passOneBeat : MethodName := ⟨RX5, "passOneBeat", "()V"⟩
abbrev cX5_figureOfHalf : ByteArray := prog_7_method_22_code
def yX5_figureOfHalf : MethodName := ⟨RX5, "figureOfHalf", "(III)I"⟩
abbrev cX5_figureOfSecret : ByteArray := prog_7_method_23_code
def yX5_figureOfSecret : MethodName := ⟨RX5, "figureOfSecret", "(II)I"⟩
abbrev cX5_figureOfOldVersion : ByteArray := prog_7_method_24_code
def yX5_figureOfOldVersion : MethodName := ⟨RX5, "figureOfOldVersion", "(III)I"⟩
abbrev cX5_figure : ByteArray := prog_7_method_25_code
def yX5_figure : MethodName := ⟨RX5, "figure", "(I)I"⟩
abbrev cX5_setOfOpen : ByteArray := prog_7_method_26_code
def yX5_setOfOpen : MethodName := ⟨RX5, "setOfOpen", "()I"⟩
abbrev cX5_setOfKnown : ByteArray := prog_7_method_27_code
def yX5_setOfKnown : MethodName := ⟨RX5, "setOfKnown", "()I"⟩
abbrev cX5_otherPartFor : ByteArray := prog_7_method_28_code
def yX5_otherPartFor : MethodName := ⟨RX5, "otherPartFor", "(III)I"⟩
abbrev cX5_tagOffsetThatPasses : ByteArray := prog_7_method_29_code
def yX5_tagOffsetThatPasses : MethodName := ⟨RX5, "tagOffsetThatPasses", "(III)I"⟩
abbrev cX5_offsetsThatPass : ByteArray := prog_7_method_30_code
def yX5_offsetsThatPass : MethodName := ⟨RX5, "offsetsThatPass", "(III)I"⟩
abbrev cX5_partsNeeded : ByteArray := prog_7_method_31_code
def yX5_partsNeeded : MethodName := ⟨RX5, "partsNeeded", "(I)I"⟩
abbrev cX5_versionsAtRisk : ByteArray := prog_7_method_32_code
def yX5_versionsAtRisk : MethodName := ⟨RX5, "versionsAtRisk", "(I)I"⟩
def RX6 : String := "SplitSecrets"
def TX6 : u_T := fun k => match k with
  | 0 => ("SplitSecrets", "now", "LSplitSecrets$Stores;", true)
  | 1 => ("SplitSecrets", "history", "LSplitSecrets$History;", true)
  | 2 => ("SplitSecrets", "slots", "[LSplitSecrets$Stores;", true)
  | 3 => ("SplitSecrets", "saved", "[Z", true)
  | 4 => ("SplitSecrets", "pad", "LSplitSecrets$Pad;", true)
  | _ => ("SplitSecrets", "reader", "LSplitSecrets$Reader;", true)
def tyX6 : Nat → FieldType := fun k => match k with
  | 0 => .object "SplitSecrets$Stores"
  | 1 => .object "SplitSecrets$History"
  | 2 => .array (.object "SplitSecrets$Stores")
  | 3 => .array .boolean
  | 4 => .object "SplitSecrets$Pad"
  | _ => .object "SplitSecrets$Reader"
theorem nmX6 : ∀ a, a < 6 → ∀ b, b < 6 → a ≠ b → (TX6 a).2.1 ≠ (TX6 b).2.1 := by decide +kernel
theorem tyX6_ok : ∀ k, k < 6 → parseFieldDescriptor (TX6 k).2.2.1 = some (tyX6 k) := by decide +kernel
abbrev cX6_init : ByteArray := prog_1_method_1_code
def yX6_init : MethodName := ⟨RX6, "<init>", "()V"⟩
abbrev cX6_set : ByteArray := prog_1_method_2_code
def yX6_set : MethodName := ⟨RX6, "set", "(II)I"⟩
abbrev cX6_seed : ByteArray := prog_1_method_3_code
def yX6_seed : MethodName := ⟨RX6, "seed", "(I)I"⟩
abbrev cX6_keep : ByteArray := prog_1_method_4_code
def yX6_keep : MethodName := ⟨RX6, "keep", "(I)I"⟩
abbrev cX6_refresh : ByteArray := prog_1_method_5_code
def yX6_refresh : MethodName := ⟨RX6, "refresh", "(I)I"⟩
abbrev cX6_burn : ByteArray := prog_1_method_6_code
def yX6_burn : MethodName := ⟨RX6, "burn", "(I)I"⟩
abbrev cX6_sleep : ByteArray := prog_1_method_7_code
def yX6_sleep : MethodName := ⟨RX6, "sleep", "(I)I"⟩
abbrev cX6_lie : ByteArray := prog_1_method_8_code
def yX6_lie : MethodName := ⟨RX6, "lie", "(IIII)I"⟩
abbrev cX6_merge : ByteArray := prog_1_method_9_code
def yX6_merge : MethodName := ⟨RX6, "merge", "(I)I"⟩
abbrev cX6_steal : ByteArray := prog_1_method_10_code
def yX6_steal : MethodName := ⟨RX6, "steal", "(III)I"⟩
abbrev cX6_pass : ByteArray := prog_1_method_11_code
def yX6_pass : MethodName := ⟨RX6, "pass", "(I)I"⟩
abbrev cX6_of : ByteArray := prog_1_method_12_code
def yX6_of : MethodName := ⟨RX6, "of", "(III)I"⟩
abbrev cX6_ofSecret : ByteArray := prog_1_method_13_code
def yX6_ofSecret : MethodName := ⟨RX6, "ofSecret", "(II)I"⟩
abbrev cX6_old : ByteArray := prog_1_method_14_code
def yX6_old : MethodName := ⟨RX6, "old", "(III)I"⟩
abbrev cX6_count : ByteArray := prog_1_method_15_code
def yX6_count : MethodName := ⟨RX6, "count", "(I)I"⟩
abbrev cX6_otherwise : ByteArray := prog_1_method_16_code
def yX6_otherwise : MethodName := ⟨RX6, "otherwise", "(III)I"⟩
abbrev cX6_passing : ByteArray := prog_1_method_17_code
def yX6_passing : MethodName := ⟨RX6, "passing", "(III)I"⟩
abbrev cX6_passes : ByteArray := prog_1_method_18_code
def yX6_passes : MethodName := ⟨RX6, "passes", "(III)I"⟩
abbrev cX6_needed : ByteArray := prog_1_method_19_code
def yX6_needed : MethodName := ⟨RX6, "needed", "(I)I"⟩
abbrev cX6_atRisk : ByteArray := prog_1_method_20_code
def yX6_atRisk : MethodName := ⟨RX6, "atRisk", "(I)I"⟩
abbrev cX6_ifMerged : ByteArray := prog_1_method_21_code
def yX6_ifMerged : MethodName := ⟨RX6, "ifMerged", "(I)I"⟩
abbrev cX6_put : ByteArray := prog_1_method_22_code
def yX6_put : MethodName := ⟨RX6, "put", "(J)I"⟩
abbrev cX6_wipe : ByteArray := prog_1_method_23_code
def yX6_wipe : MethodName := ⟨RX6, "wipe", "()I"⟩
abbrev cX6_fault : ByteArray := prog_1_method_24_code
def yX6_fault : MethodName := ⟨RX6, "fault", "()I"⟩
abbrev cX6_carryOut : ByteArray := prog_1_method_25_code
def yX6_carryOut : MethodName := ⟨RX6, "carryOut", "()I"⟩
abbrev cX6_undo : ByteArray := prog_1_method_26_code
def yX6_undo : MethodName := ⟨RX6, "undo", "()I"⟩
abbrev cX6_save : ByteArray := prog_1_method_27_code
def yX6_save : MethodName := ⟨RX6, "save", "(I)I"⟩
abbrev cX6_restore : ByteArray := prog_1_method_28_code
def yX6_restore : MethodName := ⟨RX6, "restore", "(I)I"⟩
abbrev cX6_recorded : ByteArray := prog_1_method_29_code
def yX6_recorded : MethodName := ⟨RX6, "recorded", "(I)I"⟩
abbrev cX6_answerOfOrder : ByteArray := prog_1_method_30_code
def yX6_answerOfOrder : MethodName := ⟨RX6, "answerOfOrder", "()I"⟩
abbrev cX6_versionOfOrder : ByteArray := prog_1_method_31_code
def yX6_versionOfOrder : MethodName := ⟨RX6, "versionOfOrder", "()I"⟩
abbrev cX6_isSlot : ByteArray := prog_1_method_32_code
def yX6_isSlot : MethodName := ⟨RX6, "isSlot", "(I)Z"⟩
abbrev cX6_isStore : ByteArray := prog_1_method_33_code
def yX6_isStore : MethodName := ⟨RX6, "isStore", "(I)Z"⟩
abbrev cX6_isPart : ByteArray := prog_1_method_34_code
def yX6_isPart : MethodName := ⟨RX6, "isPart", "(I)Z"⟩
abbrev cX6_isTag : ByteArray := prog_1_method_35_code
def yX6_isTag : MethodName := ⟨RX6, "isTag", "(I)Z"⟩
def RX7 : String := "SplitSecretsModel"
def TX7 : u_T := fun k => match k with
  | 0 => ("SplitSecretsModel", "s", "[I", true)
  | 1 => ("SplitSecretsModel", "history", "[I", true)
  | 2 => ("SplitSecretsModel", "kept", "I", false)
  | 3 => ("SplitSecretsModel", "slots", "[I", true)
  | 4 => ("SplitSecretsModel", "isSaved", "[Z", true)
  | 5 => ("SplitSecretsModel", "pad", "[I", true)
  | 6 => ("SplitSecretsModel", "length", "I", false)
  | 7 => ("SplitSecretsModel", "ahead", "[I", true)
  | 8 => ("SplitSecretsModel", "position", "I", false)
  | 9 => ("SplitSecretsModel", "isWrong", "Z", false)
  | _ => ("SplitSecretsModel", "order", "[I", true)
def tyX7 : Nat → FieldType := fun k => match k with
  | 0 => .array .int
  | 1 => .array .int
  | 2 => .int
  | 3 => .array .int
  | 4 => .array .boolean
  | 5 => .array .int
  | 6 => .int
  | 7 => .array .int
  | 8 => .int
  | 9 => .boolean
  | _ => .array .int
theorem nmX7 : ∀ a, a < 11 → ∀ b, b < 11 → a ≠ b → (TX7 a).2.1 ≠ (TX7 b).2.1 := by decide +kernel
theorem tyX7_ok : ∀ k, k < 11 → parseFieldDescriptor (TX7 k).2.2.1 = some (tyX7 k) := by decide +kernel
abbrev cX7_init : ByteArray := prog_9_method_1_code
def yX7_init : MethodName := ⟨RX7, "<init>", "()V"⟩
abbrev cX7_in : ByteArray := prog_9_method_3_code
def yX7_in : MethodName := ⟨RX7, "in", "(III)Z"⟩
abbrev cX7_isStore : ByteArray := prog_9_method_4_code
def yX7_isStore : MethodName := ⟨RX7, "isStore", "(I)Z"⟩
abbrev cX7_isSecret : ByteArray := prog_9_method_5_code
def yX7_isSecret : MethodName := ⟨RX7, "isSecret", "(I)Z"⟩
abbrev cX7_areAwake : ByteArray := prog_9_method_6_code
def yX7_areAwake : MethodName := ⟨RX7, "areAwake", "()Z"⟩
abbrev cX7_cell : ByteArray := prog_9_method_7_code
def yX7_cell : MethodName := ⟨RX7, "cell", "(II)I"⟩
abbrev cX7_at : ByteArray := prog_9_method_8_code
def yX7_at : MethodName := ⟨RX7, "at", "(III)I"⟩
abbrev cX7_partOf : ByteArray := prog_9_method_9_code
def yX7_partOf : MethodName := ⟨RX7, "partOf", "(II)I"⟩
abbrev cX7_looks : ByteArray := prog_9_method_10_code
def yX7_looks : MethodName := ⟨RX7, "looks", "()V"⟩
abbrev cX7_pushes : ByteArray := prog_9_method_11_code
def yX7_pushes : MethodName := ⟨RX7, "pushes", "()V"⟩
abbrev cX7_record : ByteArray := prog_9_method_12_code
def yX7_record : MethodName := ⟨RX7, "record", "()V"⟩
abbrev cX7_draw : ByteArray := prog_9_method_13_code
def yX7_draw : MethodName := ⟨RX7, "draw", "(I)I"⟩
abbrev cX7_makes : ByteArray := prog_9_method_14_code
def yX7_makes : MethodName := ⟨RX7, "makes", "(III)V"⟩
abbrev cX7_burns : ByteArray := prog_9_method_15_code
def yX7_burns : MethodName := ⟨RX7, "burns", "(II)I"⟩
abbrev cX7_canRefresh : ByteArray := prog_9_method_16_code
def yX7_canRefresh : MethodName := ⟨RX7, "canRefresh", "(I)Z"⟩
abbrev cX7_refreshes : ByteArray := prog_9_method_17_code
def yX7_refreshes : MethodName := ⟨RX7, "refreshes", "(I)V"⟩
abbrev cX7_tagOf : ByteArray := prog_9_method_18_code
def yX7_tagOf : MethodName := ⟨RX7, "tagOf", "(II)I"⟩
abbrev cX7_toldPart : ByteArray := prog_9_method_19_code
def yX7_toldPart : MethodName := ⟨RX7, "toldPart", "(III)I"⟩
abbrev cX7_isPassed : ByteArray := prog_9_method_20_code
def yX7_isPassed : MethodName := ⟨RX7, "isPassed", "(IIII)Z"⟩
abbrev cX7_isPassedNow : ByteArray := prog_9_method_21_code
def yX7_isPassedNow : MethodName := ⟨RX7, "isPassedNow", "(II)Z"⟩
abbrev cX7_merged : ByteArray := prog_9_method_22_code
def yX7_merged : MethodName := ⟨RX7, "merged", "(I)I"⟩
abbrev cX7_isLiedAbout : ByteArray := prog_9_method_23_code
def yX7_isLiedAbout : MethodName := ⟨RX7, "isLiedAbout", "(I)Z"⟩
abbrev cX7_keeps : ByteArray := prog_9_method_24_code
def yX7_keeps : MethodName := ⟨RX7, "keeps", "(I)I"⟩
abbrev cX7_refreshed : ByteArray := prog_9_method_25_code
def yX7_refreshed : MethodName := ⟨RX7, "refreshed", "(I)I"⟩
abbrev cX7_burnt : ByteArray := prog_9_method_26_code
def yX7_burnt : MethodName := ⟨RX7, "burnt", "(I)I"⟩
abbrev cX7_sleeps : ByteArray := prog_9_method_27_code
def yX7_sleeps : MethodName := ⟨RX7, "sleeps", "(I)I"⟩
abbrev cX7_lies : ByteArray := prog_9_method_28_code
def yX7_lies : MethodName := ⟨RX7, "lies", "(IIII)I"⟩
abbrev cX7_merges : ByteArray := prog_9_method_29_code
def yX7_merges : MethodName := ⟨RX7, "merges", "(I)I"⟩
abbrev cX7_rankOf : ByteArray := prog_9_method_30_code
def yX7_rankOf : MethodName := ⟨RX7, "rankOf", "(II)I"⟩
abbrev cX7_steals : ByteArray := prog_9_method_31_code
def yX7_steals : MethodName := ⟨RX7, "steals", "(III)I"⟩
abbrev cX7_beat : ByteArray := prog_9_method_32_code
def yX7_beat : MethodName := ⟨RX7, "beat", "()V"⟩
abbrev cX7_passes : ByteArray := prog_9_method_33_code
def yX7_passes : MethodName := ⟨RX7, "passes", "(I)I"⟩
abbrev cX7_tries : ByteArray := prog_9_method_34_code
def yX7_tries : MethodName := ⟨RX7, "tries", "(IIIII)I"⟩
abbrev cX7_does : ByteArray := prog_9_method_35_code
def yX7_does : MethodName := ⟨RX7, "does", "(IIIII)I"⟩
abbrev cX7_set : ByteArray := prog_9_method_36_code
def yX7_set : MethodName := ⟨RX7, "set", "(II)I"⟩
abbrev cX7_seed : ByteArray := prog_9_method_37_code
def yX7_seed : MethodName := ⟨RX7, "seed", "(I)I"⟩
abbrev cX7_keep : ByteArray := prog_9_method_38_code
def yX7_keep : MethodName := ⟨RX7, "keep", "(I)I"⟩
abbrev cX7_refresh : ByteArray := prog_9_method_39_code
def yX7_refresh : MethodName := ⟨RX7, "refresh", "(I)I"⟩
abbrev cX7_burn : ByteArray := prog_9_method_40_code
def yX7_burn : MethodName := ⟨RX7, "burn", "(I)I"⟩
abbrev cX7_sleep : ByteArray := prog_9_method_41_code
def yX7_sleep : MethodName := ⟨RX7, "sleep", "(I)I"⟩
abbrev cX7_lie : ByteArray := prog_9_method_42_code
def yX7_lie : MethodName := ⟨RX7, "lie", "(IIII)I"⟩
abbrev cX7_merge : ByteArray := prog_9_method_43_code
def yX7_merge : MethodName := ⟨RX7, "merge", "(I)I"⟩
abbrev cX7_steal : ByteArray := prog_9_method_44_code
def yX7_steal : MethodName := ⟨RX7, "steal", "(III)I"⟩
abbrev cX7_pass : ByteArray := prog_9_method_45_code
def yX7_pass : MethodName := ⟨RX7, "pass", "(I)I"⟩
abbrev cX7_of : ByteArray := prog_9_method_46_code
def yX7_of : MethodName := ⟨RX7, "of", "(III)I"⟩
abbrev cX7_ofSecret : ByteArray := prog_9_method_47_code
def yX7_ofSecret : MethodName := ⟨RX7, "ofSecret", "(II)I"⟩
abbrev cX7_old : ByteArray := prog_9_method_48_code
def yX7_old : MethodName := ⟨RX7, "old", "(III)I"⟩
abbrev cX7_setOf : ByteArray := prog_9_method_49_code
def yX7_setOf : MethodName := ⟨RX7, "setOf", "(I)I"⟩
abbrev cX7_count : ByteArray := prog_9_method_50_code
def yX7_count : MethodName := ⟨RX7, "count", "(I)I"⟩
abbrev cX7_otherwise : ByteArray := prog_9_method_51_code
def yX7_otherwise : MethodName := ⟨RX7, "otherwise", "(III)I"⟩
abbrev cX7_passing : ByteArray := prog_9_method_52_code
def yX7_passing : MethodName := ⟨RX7, "passing", "(III)I"⟩
abbrev cX7_passes_ : ByteArray := prog_9_method_53_code
def yX7_passes_ : MethodName := ⟨RX7, "passes", "(III)I"⟩
abbrev cX7_versionsAtRisk : ByteArray := prog_9_method_54_code
def yX7_versionsAtRisk : MethodName := ⟨RX7, "versionsAtRisk", "(I)I"⟩
abbrev cX7_needed : ByteArray := prog_9_method_55_code
def yX7_needed : MethodName := ⟨RX7, "needed", "(I)I"⟩
abbrev cX7_atRisk : ByteArray := prog_9_method_56_code
def yX7_atRisk : MethodName := ⟨RX7, "atRisk", "(I)I"⟩
abbrev cX7_ifMerged : ByteArray := prog_9_method_57_code
def yX7_ifMerged : MethodName := ⟨RX7, "ifMerged", "(I)I"⟩
abbrev cX7_put : ByteArray := prog_9_method_58_code
def yX7_put : MethodName := ⟨RX7, "put", "(J)I"⟩
abbrev cX7_wipe : ByteArray := prog_9_method_59_code
def yX7_wipe : MethodName := ⟨RX7, "wipe", "()I"⟩
abbrev cX7_isNext : ByteArray := prog_9_method_60_code
def yX7_isNext : MethodName := ⟨RX7, "isNext", "(I)Z"⟩
abbrev cX7_takes : ByteArray := prog_9_method_61_code
def yX7_takes : MethodName := ⟨RX7, "takes", "(II)I"⟩
abbrev cX7_takesNumber : ByteArray := prog_9_method_62_code
def yX7_takesNumber : MethodName := ⟨RX7, "takesNumber", "()I"⟩
abbrev cX7_takesBehind : ByteArray := prog_9_method_63_code
def yX7_takesBehind : MethodName := ⟨RX7, "takesBehind", "(II)I"⟩
abbrev cX7_readOrder : ByteArray := prog_9_method_64_code
def yX7_readOrder : MethodName := ⟨RX7, "readOrder", "()V"⟩
abbrev cX7_isDone : ByteArray := prog_9_method_65_code
def yX7_isDone : MethodName := ⟨RX7, "isDone", "()Z"⟩
abbrev cX7_goes : ByteArray := prog_9_method_66_code
def yX7_goes : MethodName := ⟨RX7, "goes", "(Z)I"⟩
abbrev cX7_fault : ByteArray := prog_9_method_67_code
def yX7_fault : MethodName := ⟨RX7, "fault", "()I"⟩
abbrev cX7_carryOut : ByteArray := prog_9_method_68_code
def yX7_carryOut : MethodName := ⟨RX7, "carryOut", "()I"⟩
abbrev cX7_undo : ByteArray := prog_9_method_69_code
def yX7_undo : MethodName := ⟨RX7, "undo", "()I"⟩
abbrev cX7_save : ByteArray := prog_9_method_70_code
def yX7_save : MethodName := ⟨RX7, "save", "(I)I"⟩
abbrev cX7_restore : ByteArray := prog_9_method_71_code
def yX7_restore : MethodName := ⟨RX7, "restore", "(I)I"⟩
def RJ9 : String := "java/lang/Math"
abbrev cJ9_floorMod_7cf53 : ByteArray := prog_10_method_50_code
def yJ9_floorMod_7cf53 : MethodName := ⟨RJ9, "floorMod", "(II)I"⟩
abbrev cJ9_max_7cf53 : ByteArray := prog_10_method_65_code
def yJ9_max_7cf53 : MethodName := ⟨RJ9, "max", "(II)I"⟩
abbrev cJ9_min_7cf53 : ByteArray := prog_10_method_69_code
def yJ9_min_7cf53 : MethodName := ⟨RJ9, "min", "(II)I"⟩
def RL : String := "SplitSecretsLaw"
abbrev cL_law : ByteArray := code
def yL_law : MethodName := ⟨RL, "law", "([I)Z"⟩
abbrev vwCl : List vw_C := [(RX0, TX0, 7), (RX1, TX1, 3), (RX2, TX2, 2), (RX3, TX3, 7), (RX4, TX4, 10), (RX5, TX5, 10), (RX6, TX6, 6), (RX7, TX7, 11)]
end
section
/-! THE PICTURE: every cell that the run makes has a name (kind, t, j, b); a heap is a function from names to ints (hp), and from names to names (rp). V is the judgement of a method's walk in these words alone. -/
abbrev A4 : Type := Nat × Nat × Nat × Nat
abbrev Vv : Type := Int32 ⊕ (Int64 ⊕ Option A4)
abbrev vI (x : Int32) : Vv := Sum.inl x
abbrev vJ (x : Int64) : Vv := Sum.inr (Sum.inl x)
abbrev vR (a : A4) : Vv := Sum.inr (Sum.inr (some a))
abbrev vN : Vv := Sum.inr (Sum.inr none)
abbrev RPt : Type := A4 → Nat → Option A4
abbrev HPt : Type := A4 → Nat → Int32
/-- ghosts: class numbers, array class numbers, the first address, the addresses of the arrays that nobody writes (0 the script, 1 LEAST, 2 MOST), their lengths and contents -/
abbrev Gh : Type := va_G × (Nat → ClassId) × Nat × (Nat → Nat) × (Nat → Nat × (Nat → Int32))
/-- a kind's class -/
def okd : Nat → Option Nat := fun k => match k with
  | 0 => some 5
  | 4 => some 4
  | 5 => some 0
  | 8 => some 1
  | 12 => some 2
  | 14 => some 3
  | 15 => some 6
  | 16 => some 7
  | _ => none
/-- a kind's array of numbers: type (0 int, 1 boolean, 2 char), length -/
def akd : Nat → Option (Nat × Nat) := fun k => match k with
  | 2 => some (0, 3)
  | 3 => some (1, 2)
  | 6 => some (0, 5)
  | 7 => some (1, 5)
  | 11 => some (1, 2)
  | 13 => some (2, 80)
  | 17 => some (0, 292)
  | 18 => some (0, 1752)
  | 19 => some (0, 584)
  | 20 => some (1, 2)
  | 21 => some (0, 80)
  | 22 => some (0, 292)
  | 23 => some (0, 5)
  | _ => none
/-- a kind's array of references: type (3 Stores, 4 Secret), length -/
def rkd : Nat → Option (Nat × Nat) := fun k => match k with
  | 1 => some (4, 8)
  | 9 => some (3, 7)
  | 10 => some (3, 2)
  | _ => none
/-- which fields hold references -/
def rfT : Nat → Nat → Bool := fun c i => match c with
  | 0 => Nat.blt i 2
  | 1 => Nat.beq i 0
  | 2 => Nat.beq i 0
  | 3 => Nat.beq i 0
  | 4 => Nat.blt i 2
  | 5 => Nat.blt i 3
  | 6 => true
  | _ => !(Nat.beq i 2 || Nat.beq i 6 || Nat.beq i 8 || Nat.beq i 9)
def nfT : Nat → Nat := fun c => match c with
  | 0 => 7
  | 1 => 3
  | 2 => 2
  | 3 => 7
  | 4 => 10
  | 5 => 10
  | 6 => 6
  | _ => 11
def tyT : Nat → Nat → FieldType := fun c => match c with
  | 0 => tyX0
  | 1 => tyX1
  | 2 => tyX2
  | 3 => tyX3
  | 4 => tyX4
  | 5 => tyX5
  | 6 => tyX6
  | _ => tyX7
def baseT (t : Nat) : Nat := if t = 0 then 1 else if t < 8 then 3 + 60 * t else 4 + 60 * t
/-- a name's place in the order of making -/
def pos (a : A4) : Nat := match a with
  | (k, t, j, b) => if k < 4 then baseT t + k else if k = 4 then baseT t + 4 + 7 * j else if k < 8 then baseT t + 7 * j + 3 * b + k else if k = 8 then 61 else if k = 9 then 62 else if k = 10 then 483 else if k < 15 then k + 593 else if k = 15 then 0 else k + 592
def stn (t o : Nat) : A4 := if o < 4 then (o, t, 0, 0) else if (o - 4) % 7 = 0 then (4, t, (o - 4) / 7, 0) else (5 + ((o - 4) % 7 - 1) % 3, t, (o - 4) / 7, ((o - 4) % 7 - 1) / 3)
/-- the name at a place -/
def nm (i : Nat) : A4 := if i = 0 then (15, 0, 0, 0) else if i < 61 then stn 0 (i - 1) else if i = 61 then (8, 0, 0, 0) else if i = 62 then (9, 0, 0, 0) else if i < 483 then stn ((i - 3) / 60) ((i - 3) % 60) else if i = 483 then (10, 0, 0, 0) else if i < 604 then stn ((i - 4) / 60) ((i - 4) % 60) else if i < 608 then (i - 593, 0, 0, 0) else (i - 592, 0, 0, 0)
theorem pos_nm : ∀ i, i < 616 → pos (nm i) = i := by decide +kernel
theorem nm_24 : ∀ i, i < 616 → (nm i).1 ≠ 24 := by decide +kernel
/-- the name is made already, when n are -/
def lvp (n : Nat) (a : A4) : Prop := nm (pos a) = a ∧ pos a < n
def al (g : Gh) (a : A4) : Nat := if a.1 = 24 then g.2.2.2.1 a.2.1 else g.2.2.1 + pos a
def trv (g : Gh) : Vv → Value := fun v => match v with
  | .inl x => .int x
  | .inr (.inl x) => .long x
  | .inr (.inr o) => va_rf (o.map (al g))
def cn (g : Gh) (rp : RPt) (hp : HPt) (a : A4) : va_E := match okd a.1 with
  | some ci => .inr (ci, (List.range (nfT ci)).map (fun i => if rfT ci i = true then va_rf ((rp a i).map (al g)) else .int (hp a i)))
  | none => match akd a.1 with
    | some (t, len) => .inl (g.2.1 t, len, .inl (hp a))
    | none => match rkd a.1 with
      | some (t, len) => .inl (g.2.1 t, len, .inr (.inr (.inr (.inr (fun i => (rp a i).map (al g))))))
      | none => .inl (0, 0, .inl (fun _ => 0))
def wl (g : Gh) (n : Nat) (rp : RPt) (hp : HPt) : va_W := (List.range n).map (fun i => (g.2.2.1 + i, cn g rp hp (nm i)))
def Af (g : Gh) : Nat → Prop := fun q => g.2.2.1 ≤ q
def tysF (g : Gh) : List (ClassId × FieldType) := [(g.2.1 0, .int), (g.2.1 1, .boolean), (g.2.1 2, .char), (g.2.1 3, .object RX5), (g.2.1 4, .object RX4)]
theorem lvp_al {g : Gh} {n : Nat} {a : A4} (hn : n ≤ 616) (h : lvp n a) : al g a = g.2.2.1 + pos a := by
  have h1 := nm_24 (pos a) (Nat.lt_of_lt_of_le h.2 hn)
  rw [h.1] at h1
  unfold al
  rw [if_neg h1]
theorem wl_get {g : Gh} {n : Nat} {rp : RPt} {hp : HPt} {a : A4} (hn : n ≤ 616) (h : lvp n a) : (wl g n rp hp)[pos a]? = some (al g a, cn g rp hp a) := by
  unfold wl
  rw [List.getElem?_map, List.getElem?_range h.2, Option.map_some, h.1, lvp_al hn h]
theorem wl_D {g : Gh} {n : Nat} {rp : RPt} {hp : HPt} : va_D (Af g) (wl g n rp hp) := by
  have key : ∀ (k : Nat) (q : Nat × va_E), (wl g n rp hp)[k]? = some q → q.1 = g.2.2.1 + k := by
    intro k q h
    unfold wl at h
    rw [List.getElem?_map] at h
    by_cases hk : k < n
    · rw [List.getElem?_range hk, Option.map_some] at h
      cases h
      rfl
    · rw [List.getElem?_eq_none (by rw [List.length_range]; omega), Option.map_none] at h
      cases h
  refine ⟨fun i j p q hi hj hpq => ?_, fun k q hk => ?_⟩
  · rw [key i p hi, key j q hj] at hpq
    omega
  · rw [key k q hk]
    exact Nat.le_add_right _ _
theorem wl_cong {g : Gh} {n : Nat} {rp rp' : RPt} {hp hp' : HPt} (h : ∀ i, i < n → cn g rp hp (nm i) = cn g rp' hp' (nm i)) : wl g n rp hp = wl g n rp' hp' := by
  unfold wl
  refine List.map_congr_left (fun i hi => ?_)
  rw [h i (List.mem_range.mp hi)]
theorem cn_cong {g : Gh} {rp rp' : RPt} {hp hp' : HPt} {a : A4} (h1 : rp a = rp' a) (h2 : hp a = hp' a) : cn g rp hp a = cn g rp' hp' a := by
  unfold cn
  rw [h1, h2]
theorem wl_set {g : Gh} {n : Nat} {rp rp' : RPt} {hp hp' : HPt} {a : A4} (hn : n ≤ 616) (h : lvp n a) (hrp : ∀ b, b ≠ a → rp b = rp' b) (hhp : ∀ b, b ≠ a → hp b = hp' b) : (wl g n rp hp).set (pos a) (al g a, cn g rp' hp' a) = wl g n rp' hp' := by
  refine List.ext_getElem? (fun i => ?_)
  by_cases hi : i = pos a
  · subst hi
    rw [List.getElem?_set_self (by unfold wl; rw [List.length_map, List.length_range]; exact h.2), wl_get hn h]
  · rw [List.getElem?_set_ne (Ne.symm hi)]
    unfold wl
    rw [List.getElem?_map, List.getElem?_map]
    by_cases hk : i < n
    · rw [List.getElem?_range hk, Option.map_some, Option.map_some]
      have hne : nm i ≠ a := by
        intro q
        have h1 := pos_nm i (by omega)
        rw [q] at h1
        exact hi h1.symm
      rw [cn_cong (hrp _ hne) (hhp _ hne)]
    · rw [List.getElem?_eq_none (by rw [List.length_range]; omega), Option.map_none, Option.map_none]
theorem wl_push {g : Gh} {n : Nat} {rp : RPt} {hp : HPt} : wl g (n + 1) rp hp = wl g n rp hp ++ [(g.2.2.1 + n, cn g rp hp (nm n))] := by
  unfold wl
  rw [List.range_succ, List.map_append]
  rfl
/-- the tables' words that hold everywhere -/
def lw_good : List Cond := lw_tbl.filter goodWord
def isNest : Cond → Bool
  | .fieldLinkNest .. => true
  | .methodLinkNest .. => true
  | _ => false
def lw_nest : List Cond := lw_tbl.filter isNest
theorem gd_i {w : Cond} (i : Nat) (h : lw_tbl[i]? = some w) (hg : goodWord w = true) : w ∈ lw_good := List.mem_filter.mpr ⟨List.mem_of_getElem? h, hg⟩
theorem ns_i {w : Cond} (i : Nat) (h : lw_tbl[i]? = some w) (hg : isNest w = true) : w ∈ lw_nest := List.mem_filter.mpr ⟨List.mem_of_getElem? h, hg⟩
theorem gd_ok {w : Cond} (h : w ∈ lw_good) : (w.onTables && w.keeps) = true ∨ ∃ ty, w = .arrayClass ty := good_of_word (List.mem_filter.mp h).2
/-- what a state's tables, and the arrays that nobody writes, are -/
def SX (g : Gh) (U : State) : Prop := va_K (g.1.1, g.1.2) vwCl (tysF g) U ∧ (∀ w ∈ lw_nest, va_Nw w U) ∧ (va_AO RX5 U ∧ va_AO RX4 U) ∧ va_Z "SplitSecrets" "LEAST_OF_SETTING" "[I" (.ref (g.2.2.2.1 1)) (Af g) U U.heap ∧ va_Z "SplitSecrets" "MOST_OF_SETTING" "[I" (.ref (g.2.2.2.1 2)) (Af g) U U.heap ∧ ∀ t, t < 3 → va_T .int (g.2.2.2.1 t) (g.2.2.2.2 t).1 (fun j => .int ((g.2.2.2.2 t).2 j)) (Af g) U U.heap
theorem SX.same {g : Gh} {u U : State} (h : SX g u) (hvm : u.vm = U.vm) (hh : u.heap = U.heap) : SX g U := by
  obtain ⟨h1, h2, h3, h4, h5, h6⟩ := h
  have ha : u.vm.Alike U.vm := by rw [hvm]; exact Vm.Alike.refl _
  refine ⟨va_K.moved ha h1, fun w hw => ?_, ⟨h3.1.moved ha, h3.2.moved ha⟩, ?_, ?_, fun t ht => ?_⟩
  · have hn := (List.mem_filter.mp hw).2
    refine va_Nw.same ?_ hvm (h2 w hw)
    cases w <;> first | rfl | (exact absurd hn (by decide)) | (simp [isNest] at hn)
  · rw [← hh]; exact va_Z.moved ha h4
  · rw [← hh]; exact va_Z.moved ha h5
  · rw [← hh]; exact va_T.moved ha (h6 t ht)
theorem SX.warm {g : Gh} {u U : State} {H : Heap} {locs : List Loc} (h : SX g u) (hS : va_S (Af g) u.heap H locs) (hU : U.heap = H) (hW : u.WarmedH U.vm) : SX g U := by
  obtain ⟨h1, h2, h3, h4, h5, h6⟩ := h
  have ha : u.vm.Alike U.vm := hW.alike
  refine ⟨va_K.moved ha h1, fun w hw => ?_, ⟨h3.1.moved ha, h3.2.moved ha⟩, ?_, ?_, fun t ht => ?_⟩
  · have hn := (List.mem_filter.mp hw).2
    have hw2 := h2 w hw
    cases w with
    | fieldLinkNest a i b n d h => exact va_Nw.warmF hW hw2
    | methodLinkNest a i x h => exact va_Nw.warmM hW hw2
    | _ => simp [isNest] at hn
  · rw [hU]; exact (va_Z.moved ha h4).kept hS.2.1
  · rw [hU]; exact (va_Z.moved ha h5).kept hS.2.1
  · rw [hU]; exact (va_T.moved ha (h6 t ht)).kept hS.2.1
/-- a method: name, code, locals, answer; frames and words below it -/
abbrev Md : Type := MethodName × ByteArray × Nat × Option FieldType × Nat × Nat
abbrev mY (M : Md) : MethodName := M.1
abbrev mK (M : Md) : String := M.1.cls
abbrev mC (M : Md) : ByteArray := M.2.1
abbrev mL (M : Md) : Nat := M.2.2.1
abbrev mR (M : Md) : Option FieldType := M.2.2.2.1
abbrev mF (M : Md) : Nat := M.2.2.2.2.1
abbrev mW (M : Md) : Nat := M.2.2.2.2.2
def HX (g : Gh) (n : Nat) (rp : RPt) (hp : HPt) (H : Heap) : Prop := va_P (g.1.1, g.1.2) vwCl (wl g n rp hp) H ∧ H.size = g.2.2.1 + n ∧ n ≤ 616
def CX (g : Gh) (M : Md) (mc ms : Nat) (p : Program) (R : Room) (s : State) (m : MethodId) (args : Array Value) (meth : Method) (c : Code) : Prop :=
  p.tables.exec = Jvm.exec ∧ c.code = mC M ∧ meth.sig.returnType = mR M ∧ c.maxLocals = mL M ∧ s.vm.findClass (mK M) = some m.cls ∧ (∀ w ∈ lw_good, w.before args s = true) ∧ meth.locks = false ∧ meth.name = (mY M).name ∧ SX g s ∧ (mF M ≤ R.frames ∧ mW M ≤ R.locals ∧ mc ≤ R.cells ∧ ms ≤ R.slots) ∧ g.2.2.1 ≤ s.heap.size
def cvL (g : Gh) (L : List (Option Vv)) : List (Nat × Value) := (List.range L.length).filterMap (fun i => (L.getD i none).map (fun v => (i, trv g v)))
/-- an end: what lies on the stack, at a return -/
def RTt (M : Md) (v : Option Vv) (pc : Nat) : Prop :=
  (v = none ∧ mR M = none ∧ decode (mC M) pc = .ok (.return_, 1)) ∨ (∃ (x : Int32) (ty : FieldType), v = some (vI x) ∧ mR M = some ty ∧ narrow ty (.int x) = .int x ∧ decode (mC M) pc = .ok (.ireturn, 1)) ∨ ∃ (a : A4) (C : String), v = some (vR a) ∧ mR M = some (.object C) ∧ decode (mC M) pc = .ok (.areturn, 1)
abbrev Pst : Type := Option Vv → Nat → RPt → HPt → Prop
/-- THE JUDGEMENT: the method M, with cu cells and su slots of its mc, ms used, n cells made, at pc, with locals L and stack st, ends with Post -/
def V (g : Gh) (M : Md) (mc ms cu su n pc : Nat) (L : List (Option Vv)) (st : List Vv) (rp : RPt) (hp : HPt) (Post : Pst) : Prop :=
  ∀ (p : Program) (l : Launch) (e : Env) (R : Room) (s : State) (m : MethodId) (args : Array Value) (below : List Frame) (meth : Method) (c : Code) (Q : State → Prop),
    CX g M mc ms p R s m args meth c →
    (∀ (v : Option Vv) (n' cu' su' : Nat) (rp' : RPt) (hp' : HPt) (H' : Heap) (locs' : List Loc) (LS' : Array Slot) (pc' : Nat), Post v n' rp' hp' → cu' ≤ mc → su' ≤ ms → HX g n' rp' hp' H' → va_S (Af g) s.heap H' locs' → RTt M v pc' →
      W p l e R s m args below meth c H' locs' cu' su' Q (F0 m pc' LS' (v.toList.map (trv g)))) →
    ∀ (H : Heap) (locs : List Loc) (LS : Array Slot), HX g n rp hp H → va_S (Af g) s.heap H locs → lv_has LS (mL M) (cvL g L) → W p l e R s m args below meth c H locs cu su Q (F0 m pc LS (st.map (trv g)))
theorem cvL_mem {g : Gh} {L : List (Option Vv)} {q : Nat × Value} : q ∈ cvL g L ↔ ∃ v, L[q.1]? = some (some v) ∧ q.2 = trv g v := by
  unfold cvL
  rw [List.mem_filterMap]
  constructor
  · rintro ⟨i, hi, h⟩
    have hi := List.mem_range.mp hi
    rw [List.getD_eq_getElem?_getD] at h
    cases hv : L[i]? with
    | none => rw [hv] at h; simp at h
    | some o =>
      cases o with
      | none => rw [hv] at h; simp at h
      | some v =>
        rw [hv] at h
        simp at h
        subst h
        exact ⟨v, hv, rfl⟩
  · rintro ⟨v, h1, h2⟩
    refine ⟨q.1, List.mem_range.mpr (List.getElem?_eq_some_iff.mp h1).1, ?_⟩
    rw [List.getD_eq_getElem?_getD, h1]
    simp
    rw [← h2]
theorem cvL_at {g : Gh} {L : List (Option Vv)} {LS : Array Slot} {nL i : Nat} {v : Vv} (h : lv_has LS nL (cvL g L)) (hv : L[i]? = some (some v)) : LS[i]? = some (.val (trv g v)) := h.2.2 (i, trv g v) (cvL_mem.mpr ⟨v, hv, rfl⟩)
/-- no long lies just below a place -/
def lnl (L : List (Option Vv)) (i : Nat) : Bool := match i with
  | 0 => true
  | k + 1 => match L[k]? with
    | some (some (.inr (.inl _))) => false
    | _ => true
theorem cvL_set {g : Gh} {L : List (Option Vv)} {LS : Array Slot} {nL i : Nat} {v : Vv} (hln : lnl L i = true) (h : lv_has LS nL ((i, trv g v) :: (cvL g L).filter (fun q => !(q.1 == i) && !(q.1 + 1 == i && q.2.category == 2)))) : lv_has LS nL (cvL g (L.set i (some v))) := by
  refine ⟨h.1, h.2.1, fun q hq => ?_⟩
  obtain ⟨w, h1, h2⟩ := cvL_mem.mp hq
  by_cases hi : q.1 = i
  · have hlt : i < L.length := by
      have := (List.getElem?_eq_some_iff.mp h1).1
      rw [List.length_set] at this
      omega
    rw [hi, List.getElem?_set_self hlt] at h1
    cases h1
    have h3 := h.2.2 (i, trv g v) List.mem_cons_self
    obtain ⟨q1, q2⟩ := q
    subst hi
    subst h2
    exact h3
  · rw [List.getElem?_set_ne (Ne.symm hi)] at h1
    refine h.2.2 q (List.mem_cons_of_mem _ (List.mem_filter.mpr ⟨cvL_mem.mpr ⟨w, h1, h2⟩, ?_⟩))
    have h4 : ¬ (q.1 + 1 = i ∧ q.2.category = 2) := by
      rintro ⟨e1, e2⟩
      rw [← e1] at hln
      dsimp only [lnl] at hln
      rw [h1] at hln
      rw [h2] at e2
      rcases w with x | x | x
      · simp [trv, Value.category] at e2
      · simp at hln
      · cases x <;> simp [trv, va_rf, Value.category] at e2
    simp only [Bool.and_eq_true, Bool.not_eq_true', beq_eq_false_iff_ne, ne_eq, Bool.and_eq_false_iff]
    refine ⟨hi, ?_⟩
    rcases Nat.decEq (q.1 + 1) i with z | z
    · exact Or.inl z
    · exact Or.inr (fun y => h4 ⟨z, y⟩)
end
section
section RW
variable {g : Gh} {M : Md} {mc ms cu su n pc : Nat} {L : List (Option Vv)} {st : List Vv} {rp : RPt} {hp : HPt} {P : Pst}
theorem r_iconst {i : Int} {v : Int32} (hd : decode (mC M) pc = .ok (.iconst i, 1)) (hv : Int32.ofInt i = v) (k : V g M mc ms cu su n (pc + 1) L (vI v :: st) rp hp P) : V g M mc ms cu su n pc L (st) rp hp P := by
  intro p l e R s m args below meth c Q C RT H locs LS hH hS hl
  exact lv_iconst C.1 C.2.1 hd hv (k p l e R s m args below meth c Q C RT H locs LS hH hS hl)
theorem r_bipush {i : Int} {v : Int32} (hd : decode (mC M) pc = .ok (.bipush i, 2)) (hv : (Int8.ofInt i).toInt32 = v) (k : V g M mc ms cu su n (pc + 2) L (vI v :: st) rp hp P) : V g M mc ms cu su n pc L (st) rp hp P := by
  intro p l e R s m args below meth c Q C RT H locs LS hH hS hl
  exact lv_bipush C.1 C.2.1 hd hv (k p l e R s m args below meth c Q C RT H locs LS hH hS hl)
theorem r_sipush {i : Int} {v : Int32} (hd : decode (mC M) pc = .ok (.sipush i, 3)) (hv : (Int16.ofInt i).toInt32 = v) (k : V g M mc ms cu su n (pc + 3) L (vI v :: st) rp hp P) : V g M mc ms cu su n pc L (st) rp hp P := by
  intro p l e R s m args below meth c Q C RT H locs LS hH hS hl
  exact lv_sipush C.1 C.2.1 hd hv (k p l e R s m args below meth c Q C RT H locs LS hH hS hl)
theorem r_lconst {i : Fin 2} {v : Int64} (hd : decode (mC M) pc = .ok (.lconst i, 1)) (hv : Int64.ofNat (i : Nat) = v) (k : V g M mc ms cu su n (pc + 1) L (vJ v :: st) rp hp P) : V g M mc ms cu su n pc L (st) rp hp P := by
  intro p l e R s m args below meth c Q C RT H locs LS hH hS hl
  exact lv_lconst C.1 C.2.1 hd hv (k p l e R s m args below meth c Q C RT H locs LS hH hS hl)
theorem r_ldc {i : Nat} {v : Int32} (hd : decode (mC M) pc = .ok (.ldc i, 2)) (hw : Jvm.Cond.constant (mK M) i v ∈ lw_good) (k : V g M mc ms cu su n (pc + 2) L (vI v :: st) rp hp P) : V g M mc ms cu su n pc L (st) rp hp P := by
  intro p l e R s m args below meth c Q C RT H locs LS hH hS hl
  exact lv_ldc C.1 C.2.1 C.2.2.2.2.1 (C.2.2.2.2.2.1 _ hw) hd (k p l e R s m args below meth c Q C RT H locs LS hH hS hl)
theorem r_ldc2 {i : Nat} {v : Int64} (hd : decode (mC M) pc = .ok (.ldc2_w i, 3)) (hw : Jvm.Cond.constantLong (mK M) i v ∈ lw_good) (k : V g M mc ms cu su n (pc + 3) L (vJ v :: st) rp hp P) : V g M mc ms cu su n pc L (st) rp hp P := by
  intro p l e R s m args below meth c Q C RT H locs LS hH hS hl
  exact lv_ldc2 C.1 C.2.1 C.2.2.2.2.1 (C.2.2.2.2.2.1 _ hw) hd (k p l e R s m args below meth c Q C RT H locs LS hH hS hl)
theorem r_iload_n {j : Fin 4} {i : Nat} {x : Int32} (hd : decode (mC M) pc = .ok (.iload_n j, 1)) (hi : (j : Nat) = i) (hv : L[i]? = some (some (vI x))) (k : V g M mc ms cu su n (pc + 1) L (vI x :: st) rp hp P) : V g M mc ms cu su n pc L (st) rp hp P := by
  intro p l e R s m args below meth c Q C RT H locs LS hH hS hl
  exact lv_iload_n C.1 C.2.1 hd hi (cvL_at hl hv) (k p l e R s m args below meth c Q C RT H locs LS hH hS hl)
theorem r_iload {i : Nat} {x : Int32} (hd : decode (mC M) pc = .ok (.iload i, 2)) (hv : L[i]? = some (some (vI x))) (k : V g M mc ms cu su n (pc + 2) L (vI x :: st) rp hp P) : V g M mc ms cu su n pc L (st) rp hp P := by
  intro p l e R s m args below meth c Q C RT H locs LS hH hS hl
  exact lv_iload C.1 C.2.1 hd (cvL_at hl hv) (k p l e R s m args below meth c Q C RT H locs LS hH hS hl)
theorem r_aload_n {j : Fin 4} {i : Nat} {x : A4} (hd : decode (mC M) pc = .ok (.aload_n j, 1)) (hi : (j : Nat) = i) (hv : L[i]? = some (some (vR x))) (k : V g M mc ms cu su n (pc + 1) L (vR x :: st) rp hp P) : V g M mc ms cu su n pc L (st) rp hp P := by
  intro p l e R s m args below meth c Q C RT H locs LS hH hS hl
  exact lv_aload_n C.1 C.2.1 hd hi (cvL_at hl hv) (k p l e R s m args below meth c Q C RT H locs LS hH hS hl)
theorem r_aload {i : Nat} {x : A4} (hd : decode (mC M) pc = .ok (.aload i, 2)) (hv : L[i]? = some (some (vR x))) (k : V g M mc ms cu su n (pc + 2) L (vR x :: st) rp hp P) : V g M mc ms cu su n pc L (st) rp hp P := by
  intro p l e R s m args below meth c Q C RT H locs LS hH hS hl
  exact lv_aload C.1 C.2.1 hd (cvL_at hl hv) (k p l e R s m args below meth c Q C RT H locs LS hH hS hl)
theorem r_lload_n {j : Fin 4} {i : Nat} {x : Int64} (hd : decode (mC M) pc = .ok (.lload_n j, 1)) (hi : (j : Nat) = i) (hv : L[i]? = some (some (vJ x))) (k : V g M mc ms cu su n (pc + 1) L (vJ x :: st) rp hp P) : V g M mc ms cu su n pc L (st) rp hp P := by
  intro p l e R s m args below meth c Q C RT H locs LS hH hS hl
  exact lv_lload_n C.1 C.2.1 hd hi (cvL_at hl hv) (k p l e R s m args below meth c Q C RT H locs LS hH hS hl)
theorem r_istore_n {j : Fin 4} {i : Nat} {x : Int32} {L2 : List (Option Vv)} (hd : decode (mC M) pc = .ok (.istore_n j, 1)) (hi : (j : Nat) = i) (hn : i < mL M) (hln : lnl L i = true) (hL : L.set i (some (vI x)) = L2) (k : V g M mc ms cu su n (pc + 1) L2 st rp hp P) : V g M mc ms cu su n pc L (vI x :: st) rp hp P := by
  subst hL
  intro p l e R s m args below meth c Q C RT H locs LS hH hS hl
  exact lv_istore_n C.1 C.2.1 hd hi hl hn rfl (fun LS' hl' => k p l e R s m args below meth c Q C RT H locs LS' hH hS (cvL_set (v := vI x) hln hl'))
theorem r_istore {i : Nat} {x : Int32} {L2 : List (Option Vv)} (hd : decode (mC M) pc = .ok (.istore i, 2)) (hn : i < mL M) (hln : lnl L i = true) (hL : L.set i (some (vI x)) = L2) (k : V g M mc ms cu su n (pc + 2) L2 st rp hp P) : V g M mc ms cu su n pc L (vI x :: st) rp hp P := by
  subst hL
  intro p l e R s m args below meth c Q C RT H locs LS hH hS hl
  exact lv_istore C.1 C.2.1 hd hl hn rfl (fun LS' hl' => k p l e R s m args below meth c Q C RT H locs LS' hH hS (cvL_set (v := vI x) hln hl'))
theorem r_astore_n {j : Fin 4} {i : Nat} {x : A4} {L2 : List (Option Vv)} (hd : decode (mC M) pc = .ok (.astore_n j, 1)) (hi : (j : Nat) = i) (hn : i < mL M) (hln : lnl L i = true) (hL : L.set i (some (vR x)) = L2) (k : V g M mc ms cu su n (pc + 1) L2 st rp hp P) : V g M mc ms cu su n pc L (vR x :: st) rp hp P := by
  subst hL
  intro p l e R s m args below meth c Q C RT H locs LS hH hS hl
  exact lv_astore_n C.1 C.2.1 hd hi hl hn rfl (fun LS' hl' => k p l e R s m args below meth c Q C RT H locs LS' hH hS (cvL_set (v := vR x) hln hl'))
theorem r_astore {i : Nat} {x : A4} {L2 : List (Option Vv)} (hd : decode (mC M) pc = .ok (.astore i, 2)) (hn : i < mL M) (hln : lnl L i = true) (hL : L.set i (some (vR x)) = L2) (k : V g M mc ms cu su n (pc + 2) L2 st rp hp P) : V g M mc ms cu su n pc L (vR x :: st) rp hp P := by
  subst hL
  intro p l e R s m args below meth c Q C RT H locs LS hH hS hl
  exact lv_astore C.1 C.2.1 hd hl hn rfl (fun LS' hl' => k p l e R s m args below meth c Q C RT H locs LS' hH hS (cvL_set (v := vR x) hln hl'))
theorem r_iinc {i : Nat} {j : Int} {x v : Int32} {L2 : List (Option Vv)} (hd : decode (mC M) pc = .ok (.iinc i j, 3)) (hx : L[i]? = some (some (vI x))) (hv : x + Int32.ofInt j = v) (hn : i < mL M) (hln : lnl L i = true) (hL : L.set i (some (vI v)) = L2) (k : V g M mc ms cu su n (pc + 3) L2 st rp hp P) : V g M mc ms cu su n pc L st rp hp P := by
  subst hL
  intro p l e R s m args below meth c Q C RT H locs LS hH hS hl
  obtain ⟨q, hq⟩ := List.getElem?_of_mem (cvL_mem (g := g) (L := L) (q := (i, .int x)) |>.mpr ⟨vI x, hx, rfl⟩)
  exact lv_iinc C.1 C.2.1 hd hl hq hv hn rfl (fun LS' hl' => k p l e R s m args below meth c Q C RT H locs LS' hH hS (cvL_set (v := vI v) hln hl'))
theorem r_iadd {x y : Int32} (hd : decode (mC M) pc = .ok (.iadd, 1)) (k : V g M mc ms cu su n (pc + 1) L (vI (x + y) :: st) rp hp P) : V g M mc ms cu su n pc L (vI y :: vI x :: st) rp hp P := by
  intro p l e R s m args below meth c Q C RT H locs LS hH hS hl
  exact lv_iadd C.1 C.2.1 hd (k p l e R s m args below meth c Q C RT H locs LS hH hS hl)
theorem r_isub {x y : Int32} (hd : decode (mC M) pc = .ok (.isub, 1)) (k : V g M mc ms cu su n (pc + 1) L (vI (x - y) :: st) rp hp P) : V g M mc ms cu su n pc L (vI y :: vI x :: st) rp hp P := by
  intro p l e R s m args below meth c Q C RT H locs LS hH hS hl
  exact lv_isub C.1 C.2.1 hd (k p l e R s m args below meth c Q C RT H locs LS hH hS hl)
theorem r_imul {x y : Int32} (hd : decode (mC M) pc = .ok (.imul, 1)) (k : V g M mc ms cu su n (pc + 1) L (vI (x * y) :: st) rp hp P) : V g M mc ms cu su n pc L (vI y :: vI x :: st) rp hp P := by
  intro p l e R s m args below meth c Q C RT H locs LS hH hS hl
  exact lv_imul C.1 C.2.1 hd (k p l e R s m args below meth c Q C RT H locs LS hH hS hl)
theorem r_iand {x y : Int32} (hd : decode (mC M) pc = .ok (.iand, 1)) (k : V g M mc ms cu su n (pc + 1) L (vI (x &&& y) :: st) rp hp P) : V g M mc ms cu su n pc L (vI y :: vI x :: st) rp hp P := by
  intro p l e R s m args below meth c Q C RT H locs LS hH hS hl
  exact lv_iand C.1 C.2.1 hd (k p l e R s m args below meth c Q C RT H locs LS hH hS hl)
theorem r_ior {x y : Int32} (hd : decode (mC M) pc = .ok (.ior, 1)) (k : V g M mc ms cu su n (pc + 1) L (vI (x ||| y) :: st) rp hp P) : V g M mc ms cu su n pc L (vI y :: vI x :: st) rp hp P := by
  intro p l e R s m args below meth c Q C RT H locs LS hH hS hl
  exact lv_ior C.1 C.2.1 hd (k p l e R s m args below meth c Q C RT H locs LS hH hS hl)
def jrem (x y : Int32) : Int32 := x - x / y * y
theorem r_irem {x y : Int32} (hd : decode (mC M) pc = .ok (.irem, 1)) (hne : ¬ y = 0) (k : V g M mc ms cu su n (pc + 1) L (vI (jrem x y) :: st) rp hp P) : V g M mc ms cu su n pc L (vI y :: vI x :: st) rp hp P := by
  intro p l e R s m args below meth c Q C RT H locs LS hH hS hl
  exact lv_irem C.1 C.2.1 hd hne (k p l e R s m args below meth c Q C RT H locs LS hH hS hl)
theorem r_idiv {x y : Int32} (hd : decode (mC M) pc = .ok (.idiv, 1)) (hne : ¬ y = 0) (k : V g M mc ms cu su n (pc + 1) L (vI (x / y) :: st) rp hp P) : V g M mc ms cu su n pc L (vI y :: vI x :: st) rp hp P := by
  intro p l e R s m args below meth c Q C RT H locs LS hH hS hl
  exact lv_idiv C.1 C.2.1 hd hne (k p l e R s m args below meth c Q C RT H locs LS hH hS hl)
theorem r_ishl {x y : Int32} (hd : decode (mC M) pc = .ok (.ishl, 1)) (k : V g M mc ms cu su n (pc + 1) L (vI (x <<< (y &&& 31)) :: st) rp hp P) : V g M mc ms cu su n pc L (vI y :: vI x :: st) rp hp P := by
  intro p l e R s m args below meth c Q C RT H locs LS hH hS hl
  exact lv_ishl C.1 C.2.1 hd (k p l e R s m args below meth c Q C RT H locs LS hH hS hl)
theorem r_ishr {x y : Int32} (hd : decode (mC M) pc = .ok (.ishr, 1)) (k : V g M mc ms cu su n (pc + 1) L (vI (x >>> (y &&& 31)) :: st) rp hp P) : V g M mc ms cu su n pc L (vI y :: vI x :: st) rp hp P := by
  intro p l e R s m args below meth c Q C RT H locs LS hH hS hl
  exact lv_ishr C.1 C.2.1 hd (k p l e R s m args below meth c Q C RT H locs LS hH hS hl)
theorem r_land {x y : Int64} (hd : decode (mC M) pc = .ok (.land, 1)) (k : V g M mc ms cu su n (pc + 1) L (vJ (x &&& y) :: st) rp hp P) : V g M mc ms cu su n pc L (vJ y :: vJ x :: st) rp hp P := by
  intro p l e R s m args below meth c Q C RT H locs LS hH hS hl
  exact lv_land C.1 C.2.1 hd (k p l e R s m args below meth c Q C RT H locs LS hH hS hl)
theorem r_lor {x y : Int64} (hd : decode (mC M) pc = .ok (.lor, 1)) (k : V g M mc ms cu su n (pc + 1) L (vJ (x ||| y) :: st) rp hp P) : V g M mc ms cu su n pc L (vJ y :: vJ x :: st) rp hp P := by
  intro p l e R s m args below meth c Q C RT H locs LS hH hS hl
  exact lv_lor C.1 C.2.1 hd (k p l e R s m args below meth c Q C RT H locs LS hH hS hl)
theorem r_lcmp {x y : Int64} (hd : decode (mC M) pc = .ok (.lcmp, 1)) (k : V g M mc ms cu su n (pc + 1) L (vI (lg_cmp x y) :: st) rp hp P) : V g M mc ms cu su n pc L (vJ y :: vJ x :: st) rp hp P := by
  intro p l e R s m args below meth c Q C RT H locs LS hH hS hl
  exact W.lcmp C.1 C.2.1 hd (k p l e R s m args below meth c Q C RT H locs LS hH hS hl)
theorem r_i2l {x : Int32} (hd : decode (mC M) pc = .ok (.i2l, 1)) (k : V g M mc ms cu su n (pc + 1) L (vJ x.toInt64 :: st) rp hp P) : V g M mc ms cu su n pc L (vI x :: st) rp hp P := by
  intro p l e R s m args below meth c Q C RT H locs LS hH hS hl
  exact lv_i2l C.1 C.2.1 hd rfl (k p l e R s m args below meth c Q C RT H locs LS hH hS hl)
theorem r_l2i {x : Int64} (hd : decode (mC M) pc = .ok (.l2i, 1)) (k : V g M mc ms cu su n (pc + 1) L (vI x.toInt32 :: st) rp hp P) : V g M mc ms cu su n pc L (vJ x :: st) rp hp P := by
  intro p l e R s m args below meth c Q C RT H locs LS hH hS hl
  exact lv_l2i C.1 C.2.1 hd rfl (k p l e R s m args below meth c Q C RT H locs LS hH hS hl)
theorem r_i2c {x : Int32} (hd : decode (mC M) pc = .ok (.i2c, 1)) (k : V g M mc ms cu su n (pc + 1) L (vI (x.toUInt32 % 65536).toInt32 :: st) rp hp P) : V g M mc ms cu su n pc L (vI x :: st) rp hp P := by
  intro p l e R s m args below meth c Q C RT H locs LS hH hS hl
  exact lv_i2c C.1 C.2.1 hd rfl (k p l e R s m args below meth c Q C RT H locs LS hH hS hl)
theorem r_lushr {x : Int64} {y : Int32} (hd : decode (mC M) pc = .ok (.lushr, 1)) (k : V g M mc ms cu su n (pc + 1) L (vJ (x.toUInt64 >>> (y.toInt64.toUInt64 &&& Int64.toUInt64 63)).toInt64 :: st) rp hp P) : V g M mc ms cu su n pc L (vI y :: vJ x :: st) rp hp P := by
  intro p l e R s m args below meth c Q C RT H locs LS hH hS hl
  exact lv_lushr C.1 C.2.1 hd rfl (k p l e R s m args below meth c Q C RT H locs LS hH hS hl)
theorem r_lshl {x : Int64} {y : Int32} (hd : decode (mC M) pc = .ok (.lshl, 1)) (k : V g M mc ms cu su n (pc + 1) L (vJ (x <<< (y.toInt64 &&& 63)) :: st) rp hp P) : V g M mc ms cu su n pc L (vI y :: vJ x :: st) rp hp P := by
  intro p l e R s m args below meth c Q C RT H locs LS hH hS hl
  exact lv_lshl C.1 C.2.1 hd rfl (k p l e R s m args below meth c Q C RT H locs LS hH hS hl)
theorem r_dup {a : Vv} (hd : decode (mC M) pc = .ok (.dup, 1)) (ha : (trv g a).category = 1) (k : V g M mc ms cu su n (pc + 1) L (a :: a :: st) rp hp P) : V g M mc ms cu su n pc L (a :: st) rp hp P := by
  intro p l e R s m args below meth c Q C RT H locs LS hH hS hl
  exact lv_dup C.1 C.2.1 hd ha (k p l e R s m args below meth c Q C RT H locs LS hH hS hl)
theorem r_pop {a : Vv} (hd : decode (mC M) pc = .ok (.pop, 1)) (ha : (trv g a).category = 1) (k : V g M mc ms cu su n (pc + 1) L (st) rp hp P) : V g M mc ms cu su n pc L (a :: st) rp hp P := by
  intro p l e R s m args below meth c Q C RT H locs LS hH hS hl
  exact lv_pop C.1 C.2.1 hd ha (k p l e R s m args below meth c Q C RT H locs LS hH hS hl)
theorem r_dup2 {a b : Vv} (hd : decode (mC M) pc = .ok (.dup2, 1)) (ha : (trv g a).category = 1) (hb : (trv g b).category = 1) (k : V g M mc ms cu su n (pc + 1) L (a :: b :: a :: b :: st) rp hp P) : V g M mc ms cu su n pc L (a :: b :: st) rp hp P := by
  intro p l e R s m args below meth c Q C RT H locs LS hH hS hl
  exact lv_dup2_11 C.1 C.2.1 hd ha hb (k p l e R s m args below meth c Q C RT H locs LS hH hS hl)
theorem r_if_eq {x : Int32} {off : Int} {tgt : Nat} (hd : decode (mC M) pc = .ok (.ifCond .eq off, 3)) (ht : (pc : Int) + off = (tgt : Int)) (kt : x = 0 → V g M mc ms cu su n tgt L st rp hp P) (kf : ¬ x = 0 → V g M mc ms cu su n (pc + 3) L st rp hp P) : V g M mc ms cu su n pc L (vI x :: st) rp hp P := by
  intro p l e R s m args below meth c Q C RT H locs LS hH hS hl
  exact lv_if_eq C.1 C.2.1 hd ht (fun h => kt h p l e R s m args below meth c Q C RT H locs LS hH hS hl) (fun h => kf h p l e R s m args below meth c Q C RT H locs LS hH hS hl)
theorem r_if_ne {x : Int32} {off : Int} {tgt : Nat} (hd : decode (mC M) pc = .ok (.ifCond .ne off, 3)) (ht : (pc : Int) + off = (tgt : Int)) (kt : ¬ x = 0 → V g M mc ms cu su n tgt L st rp hp P) (kf : x = 0 → V g M mc ms cu su n (pc + 3) L st rp hp P) : V g M mc ms cu su n pc L (vI x :: st) rp hp P := by
  intro p l e R s m args below meth c Q C RT H locs LS hH hS hl
  exact lv_if_ne C.1 C.2.1 hd ht (fun h => kt h p l e R s m args below meth c Q C RT H locs LS hH hS hl) (fun h => kf h p l e R s m args below meth c Q C RT H locs LS hH hS hl)
theorem r_if_lt {x : Int32} {off : Int} {tgt : Nat} (hd : decode (mC M) pc = .ok (.ifCond .lt off, 3)) (ht : (pc : Int) + off = (tgt : Int)) (kt : x < 0 → V g M mc ms cu su n tgt L st rp hp P) (kf : ¬ x < 0 → V g M mc ms cu su n (pc + 3) L st rp hp P) : V g M mc ms cu su n pc L (vI x :: st) rp hp P := by
  intro p l e R s m args below meth c Q C RT H locs LS hH hS hl
  exact lv_if_lt C.1 C.2.1 hd ht (fun h => kt h p l e R s m args below meth c Q C RT H locs LS hH hS hl) (fun h => kf h p l e R s m args below meth c Q C RT H locs LS hH hS hl)
theorem r_if_ge {x : Int32} {off : Int} {tgt : Nat} (hd : decode (mC M) pc = .ok (.ifCond .ge off, 3)) (ht : (pc : Int) + off = (tgt : Int)) (kt : 0 ≤ x → V g M mc ms cu su n tgt L st rp hp P) (kf : ¬ 0 ≤ x → V g M mc ms cu su n (pc + 3) L st rp hp P) : V g M mc ms cu su n pc L (vI x :: st) rp hp P := by
  intro p l e R s m args below meth c Q C RT H locs LS hH hS hl
  exact lv_if_ge C.1 C.2.1 hd ht (fun h => kt h p l e R s m args below meth c Q C RT H locs LS hH hS hl) (fun h => kf h p l e R s m args below meth c Q C RT H locs LS hH hS hl)
theorem r_if_gt {x : Int32} {off : Int} {tgt : Nat} (hd : decode (mC M) pc = .ok (.ifCond .gt off, 3)) (ht : (pc : Int) + off = (tgt : Int)) (kt : 0 < x → V g M mc ms cu su n tgt L st rp hp P) (kf : ¬ 0 < x → V g M mc ms cu su n (pc + 3) L st rp hp P) : V g M mc ms cu su n pc L (vI x :: st) rp hp P := by
  intro p l e R s m args below meth c Q C RT H locs LS hH hS hl
  exact lv_if_gt C.1 C.2.1 hd ht (fun h => kt h p l e R s m args below meth c Q C RT H locs LS hH hS hl) (fun h => kf h p l e R s m args below meth c Q C RT H locs LS hH hS hl)
theorem r_if_le {x : Int32} {off : Int} {tgt : Nat} (hd : decode (mC M) pc = .ok (.ifCond .le off, 3)) (ht : (pc : Int) + off = (tgt : Int)) (kt : x ≤ 0 → V g M mc ms cu su n tgt L st rp hp P) (kf : ¬ x ≤ 0 → V g M mc ms cu su n (pc + 3) L st rp hp P) : V g M mc ms cu su n pc L (vI x :: st) rp hp P := by
  intro p l e R s m args below meth c Q C RT H locs LS hH hS hl
  exact lv_if_le C.1 C.2.1 hd ht (fun h => kt h p l e R s m args below meth c Q C RT H locs LS hH hS hl) (fun h => kf h p l e R s m args below meth c Q C RT H locs LS hH hS hl)
theorem r_icmp_eq {x y : Int32} {off : Int} {tgt : Nat} (hd : decode (mC M) pc = .ok (.if_icmp .eq off, 3)) (ht : (pc : Int) + off = (tgt : Int)) (kt : x = y → V g M mc ms cu su n tgt L st rp hp P) (kf : ¬ x = y → V g M mc ms cu su n (pc + 3) L st rp hp P) : V g M mc ms cu su n pc L (vI y :: vI x :: st) rp hp P := by
  intro p l e R s m args below meth c Q C RT H locs LS hH hS hl
  exact lv_icmp_eq C.1 C.2.1 hd ht (fun h => kt h p l e R s m args below meth c Q C RT H locs LS hH hS hl) (fun h => kf h p l e R s m args below meth c Q C RT H locs LS hH hS hl)
theorem r_icmp_ne {x y : Int32} {off : Int} {tgt : Nat} (hd : decode (mC M) pc = .ok (.if_icmp .ne off, 3)) (ht : (pc : Int) + off = (tgt : Int)) (kt : ¬ x = y → V g M mc ms cu su n tgt L st rp hp P) (kf : x = y → V g M mc ms cu su n (pc + 3) L st rp hp P) : V g M mc ms cu su n pc L (vI y :: vI x :: st) rp hp P := by
  intro p l e R s m args below meth c Q C RT H locs LS hH hS hl
  exact lv_icmp_ne C.1 C.2.1 hd ht (fun h => kt h p l e R s m args below meth c Q C RT H locs LS hH hS hl) (fun h => kf h p l e R s m args below meth c Q C RT H locs LS hH hS hl)
theorem r_icmp_lt {x y : Int32} {off : Int} {tgt : Nat} (hd : decode (mC M) pc = .ok (.if_icmp .lt off, 3)) (ht : (pc : Int) + off = (tgt : Int)) (kt : x < y → V g M mc ms cu su n tgt L st rp hp P) (kf : ¬ x < y → V g M mc ms cu su n (pc + 3) L st rp hp P) : V g M mc ms cu su n pc L (vI y :: vI x :: st) rp hp P := by
  intro p l e R s m args below meth c Q C RT H locs LS hH hS hl
  exact lv_icmp_lt C.1 C.2.1 hd ht (fun h => kt h p l e R s m args below meth c Q C RT H locs LS hH hS hl) (fun h => kf h p l e R s m args below meth c Q C RT H locs LS hH hS hl)
theorem r_icmp_ge {x y : Int32} {off : Int} {tgt : Nat} (hd : decode (mC M) pc = .ok (.if_icmp .ge off, 3)) (ht : (pc : Int) + off = (tgt : Int)) (kt : y ≤ x → V g M mc ms cu su n tgt L st rp hp P) (kf : ¬ y ≤ x → V g M mc ms cu su n (pc + 3) L st rp hp P) : V g M mc ms cu su n pc L (vI y :: vI x :: st) rp hp P := by
  intro p l e R s m args below meth c Q C RT H locs LS hH hS hl
  exact lv_icmp_ge C.1 C.2.1 hd ht (fun h => kt h p l e R s m args below meth c Q C RT H locs LS hH hS hl) (fun h => kf h p l e R s m args below meth c Q C RT H locs LS hH hS hl)
theorem r_icmp_gt {x y : Int32} {off : Int} {tgt : Nat} (hd : decode (mC M) pc = .ok (.if_icmp .gt off, 3)) (ht : (pc : Int) + off = (tgt : Int)) (kt : y < x → V g M mc ms cu su n tgt L st rp hp P) (kf : ¬ y < x → V g M mc ms cu su n (pc + 3) L st rp hp P) : V g M mc ms cu su n pc L (vI y :: vI x :: st) rp hp P := by
  intro p l e R s m args below meth c Q C RT H locs LS hH hS hl
  exact lv_icmp_gt C.1 C.2.1 hd ht (fun h => kt h p l e R s m args below meth c Q C RT H locs LS hH hS hl) (fun h => kf h p l e R s m args below meth c Q C RT H locs LS hH hS hl)
theorem r_icmp_le {x y : Int32} {off : Int} {tgt : Nat} (hd : decode (mC M) pc = .ok (.if_icmp .le off, 3)) (ht : (pc : Int) + off = (tgt : Int)) (kt : x ≤ y → V g M mc ms cu su n tgt L st rp hp P) (kf : ¬ x ≤ y → V g M mc ms cu su n (pc + 3) L st rp hp P) : V g M mc ms cu su n pc L (vI y :: vI x :: st) rp hp P := by
  intro p l e R s m args below meth c Q C RT H locs LS hH hS hl
  exact lv_icmp_le C.1 C.2.1 hd ht (fun h => kt h p l e R s m args below meth c Q C RT H locs LS hH hS hl) (fun h => kf h p l e R s m args below meth c Q C RT H locs LS hH hS hl)
theorem r_goto {off : Int} {tgt : Nat} (hd : decode (mC M) pc = .ok (.goto off, 3)) (ht : (pc : Int) + off = (tgt : Int)) (k : V g M mc ms cu su n tgt L st rp hp P) : V g M mc ms cu su n pc L st rp hp P := by
  intro p l e R s m args below meth c Q C RT H locs LS hH hS hl
  exact lv_goto C.1 C.2.1 hd ht (k p l e R s m args below meth c Q C RT H locs LS hH hS hl)
theorem r_tabOut {x : Int32} {dflt lo hi : Int} {offs : Array Int} {len tgt : Nat} (hd : decode (mC M) pc = .ok (.tableswitch dflt lo hi offs, len)) (h : x.toInt < lo ∨ hi < x.toInt) (ht : (pc : Int) + dflt = (tgt : Int)) (k : V g M mc ms cu su n tgt L st rp hp P) : V g M mc ms cu su n pc L (vI x :: st) rp hp P := by
  intro p l e R s m args below meth c Q C RT H locs LS hH hS hl
  exact lv_tableOut C.1 C.2.1 hd h ht (k p l e R s m args below meth c Q C RT H locs LS hH hS hl)
theorem r_tabIn {x : Int32} {dflt lo hi off : Int} {offs : Array Int} {len tgt : Nat} (hd : decode (mC M) pc = .ok (.tableswitch dflt lo hi offs, len)) (h1 : ¬ x.toInt < lo) (h2 : ¬ hi < x.toInt) (ho : offs[(x.toInt - lo).toNat]? = some off) (ht : (pc : Int) + off = (tgt : Int)) (k : V g M mc ms cu su n tgt L st rp hp P) : V g M mc ms cu su n pc L (vI x :: st) rp hp P := by
  intro p l e R s m args below meth c Q C RT H locs LS hH hS hl
  exact lv_tableIn C.1 C.2.1 hd h1 h2 ho ht (k p l e R s m args below meth c Q C RT H locs LS hH hS hl)
end RW

def hset (hp : HPt) (a : A4) (i : Nat) (x : Int32) : HPt := fun b j => if b = a ∧ j = i then x else hp b j
def rset (rp : RPt) (a : A4) (i : Nat) (x : A4) : RPt := fun b j => if b = a ∧ j = i then some x else rp b j
/-- what the tables say of a field at a pool index of a class: field fi of class ci -/
def LK (own : String) (idx ci fi : Nat) : Prop := ∃ q : vw_C, vwCl[ci]? = some q ∧ fi < nfT ci ∧ (Cond.fieldLink own idx (q.2.1 fi).1 (q.2.1 fi).2.1 (q.2.1 fi).2.2.1 ∈ lw_good ∨ ∃ host, Cond.fieldLinkNest own idx (q.2.1 fi).1 (q.2.1 fi).2.1 (q.2.1 fi).2.2.1 host ∈ lw_nest)
def CLf (ci : Nat) (q : vw_C) : Prop := (∀ w ∈ u_ws q.1 q.2.1 q.2.2, w ∈ lw_good) ∧ (∀ k, k < q.2.2 → parseFieldDescriptor (q.2.1 k).2.2.1 = some (tyT ci k)) ∧ (∀ a, a < q.2.2 → ∀ b, b < q.2.2 → a ≠ b → (q.2.1 a).2.1 ≠ (q.2.1 b).2.1) ∧ q.2.2 = nfT ci
def CLg (ci : Nat) (q : vw_C) : Prop := ∀ k, k < q.2.2 → (rfT ci k = (q.2.1 k).2.2.2) ∧ (rfT ci k = true → (q.2.1 k).1 = q.1 ∧ ((∃ n, tyT ci k = .object n) ∨ ∃ t, tyT ci k = .array t)) ∧ (rfT ci k = false → tyT ci k = .int ∨ tyT ci k = .boolean ∨ tyT ci k = .char)

theorem clf_0 : CLf 0 (RX0, TX0, 7) := by
  refine ⟨fun w hw => ?_, tyX0_ok, nmX0, rfl⟩
  have h1 : (u_ws RX0 TX0 7).all goodWord = true := by decide +kernel
  have h2 : u_ws RX0 TX0 7 = ([159, 161, 163, 165, 167, 169, 171] : List Nat).filterMap (fun k => lw_tbl[k]?) := by decide +kernel
  have h3 := List.all_eq_true.mp h1 w hw
  rw [h2] at hw
  obtain ⟨k, -, hk⟩ := List.mem_filterMap.mp hw
  exact gd_i k hk h3
theorem clg_0 : CLg 0 (RX0, TX0, 7) := by
  intro k hk
  have hk : k < 7 := hk
  rcases (show k = 0 ∨ k = 1 ∨ k = 2 ∨ k = 3 ∨ k = 4 ∨ k = 5 ∨ k = 6 by omega) with rfl | rfl | rfl | rfl | rfl | rfl | rfl <;> simp [rfT, TX0, RX0, tyT, tyX0] <;> decide
theorem clf_1 : CLf 1 (RX1, TX1, 3) := by
  refine ⟨fun w hw => ?_, tyX1_ok, nmX1, rfl⟩
  have h1 : (u_ws RX1 TX1 3).all goodWord = true := by decide +kernel
  have h2 : u_ws RX1 TX1 3 = ([262, 264, 266] : List Nat).filterMap (fun k => lw_tbl[k]?) := by decide +kernel
  have h3 := List.all_eq_true.mp h1 w hw
  rw [h2] at hw
  obtain ⟨k, -, hk⟩ := List.mem_filterMap.mp hw
  exact gd_i k hk h3
theorem clg_1 : CLg 1 (RX1, TX1, 3) := by
  intro k hk
  have hk : k < 3 := hk
  rcases (show k = 0 ∨ k = 1 ∨ k = 2 by omega) with rfl | rfl | rfl <;> simp [rfT, TX1, RX1, tyT, tyX1] <;> decide
theorem clf_2 : CLf 2 (RX2, TX2, 2) := by
  refine ⟨fun w hw => ?_, tyX2_ok, nmX2, rfl⟩
  have h1 : (u_ws RX2 TX2 2).all goodWord = true := by decide +kernel
  have h2 : u_ws RX2 TX2 2 = ([279, 281] : List Nat).filterMap (fun k => lw_tbl[k]?) := by decide +kernel
  have h3 := List.all_eq_true.mp h1 w hw
  rw [h2] at hw
  obtain ⟨k, -, hk⟩ := List.mem_filterMap.mp hw
  exact gd_i k hk h3
theorem clg_2 : CLg 2 (RX2, TX2, 2) := by
  intro k hk
  have hk : k < 2 := hk
  rcases (show k = 0 ∨ k = 1 by omega) with rfl | rfl <;> simp [rfT, TX2, RX2, tyT, tyX2] <;> decide
theorem clf_3 : CLf 3 (RX3, TX3, 7) := by
  refine ⟨fun w hw => ?_, tyX3_ok, nmX3, rfl⟩
  have h1 : (u_ws RX3 TX3 7).all goodWord = true := by decide +kernel
  have h2 : u_ws RX3 TX3 7 = ([303, 305, 307, 309, 311, 313, 315] : List Nat).filterMap (fun k => lw_tbl[k]?) := by decide +kernel
  have h3 := List.all_eq_true.mp h1 w hw
  rw [h2] at hw
  obtain ⟨k, -, hk⟩ := List.mem_filterMap.mp hw
  exact gd_i k hk h3
theorem clg_3 : CLg 3 (RX3, TX3, 7) := by
  intro k hk
  have hk : k < 7 := hk
  rcases (show k = 0 ∨ k = 1 ∨ k = 2 ∨ k = 3 ∨ k = 4 ∨ k = 5 ∨ k = 6 by omega) with rfl | rfl | rfl | rfl | rfl | rfl | rfl <;> simp [rfT, TX3, RX3, tyT, tyX3] <;> decide
theorem clf_4 : CLf 4 (RX4, TX4, 10) := by
  refine ⟨fun w hw => ?_, tyX4_ok, nmX4, rfl⟩
  have h1 : (u_ws RX4 TX4 10).all goodWord = true := by decide +kernel
  have h2 : u_ws RX4 TX4 10 = ([196, 198, 200, 202, 204, 206, 208, 210, 212, 214] : List Nat).filterMap (fun k => lw_tbl[k]?) := by decide +kernel
  have h3 := List.all_eq_true.mp h1 w hw
  rw [h2] at hw
  obtain ⟨k, -, hk⟩ := List.mem_filterMap.mp hw
  exact gd_i k hk h3
theorem clg_4 : CLg 4 (RX4, TX4, 10) := by
  intro k hk
  have hk : k < 10 := hk
  rcases (show k = 0 ∨ k = 1 ∨ k = 2 ∨ k = 3 ∨ k = 4 ∨ k = 5 ∨ k = 6 ∨ k = 7 ∨ k = 8 ∨ k = 9 by omega) with rfl | rfl | rfl | rfl | rfl | rfl | rfl | rfl | rfl | rfl <;> simp [rfT, TX4, RX4, tyT, tyX4] <;> decide
theorem clf_5 : CLf 5 (RX5, TX5, 10) := by
  refine ⟨fun w hw => ?_, tyX5_ok, nmX5, rfl⟩
  have h1 : (u_ws RX5 TX5 10).all goodWord = true := by decide +kernel
  have h2 : u_ws RX5 TX5 10 = ([228, 230, 232, 234, 236, 238, 240, 242, 244, 246] : List Nat).filterMap (fun k => lw_tbl[k]?) := by decide +kernel
  have h3 := List.all_eq_true.mp h1 w hw
  rw [h2] at hw
  obtain ⟨k, -, hk⟩ := List.mem_filterMap.mp hw
  exact gd_i k hk h3
theorem clg_5 : CLg 5 (RX5, TX5, 10) := by
  intro k hk
  have hk : k < 10 := hk
  rcases (show k = 0 ∨ k = 1 ∨ k = 2 ∨ k = 3 ∨ k = 4 ∨ k = 5 ∨ k = 6 ∨ k = 7 ∨ k = 8 ∨ k = 9 by omega) with rfl | rfl | rfl | rfl | rfl | rfl | rfl | rfl | rfl | rfl <;> simp [rfT, TX5, RX5, tyT, tyX5] <;> decide
theorem clf_6 : CLf 6 (RX6, TX6, 6) := by
  refine ⟨fun w hw => ?_, tyX6_ok, nmX6, rfl⟩
  have h1 : (u_ws RX6 TX6 6).all goodWord = true := by decide +kernel
  have h2 : u_ws RX6 TX6 6 = ([324, 326, 328, 330, 332, 334] : List Nat).filterMap (fun k => lw_tbl[k]?) := by decide +kernel
  have h3 := List.all_eq_true.mp h1 w hw
  rw [h2] at hw
  obtain ⟨k, -, hk⟩ := List.mem_filterMap.mp hw
  exact gd_i k hk h3
theorem clg_6 : CLg 6 (RX6, TX6, 6) := by
  intro k hk
  have hk : k < 6 := hk
  rcases (show k = 0 ∨ k = 1 ∨ k = 2 ∨ k = 3 ∨ k = 4 ∨ k = 5 by omega) with rfl | rfl | rfl | rfl | rfl | rfl <;> simp [rfT, TX6, RX6, tyT, tyX6] <;> decide
theorem clf_7 : CLf 7 (RX7, TX7, 11) := by
  refine ⟨fun w hw => ?_, tyX7_ok, nmX7, rfl⟩
  have h1 : (u_ws RX7 TX7 11).all goodWord = true := by decide +kernel
  have h2 : u_ws RX7 TX7 11 = ([782, 784, 786, 788, 790, 792, 794, 796, 798, 800, 802] : List Nat).filterMap (fun k => lw_tbl[k]?) := by decide +kernel
  have h3 := List.all_eq_true.mp h1 w hw
  rw [h2] at hw
  obtain ⟨k, -, hk⟩ := List.mem_filterMap.mp hw
  exact gd_i k hk h3
theorem clg_7 : CLg 7 (RX7, TX7, 11) := by
  intro k hk
  have hk : k < 11 := hk
  rcases (show k = 0 ∨ k = 1 ∨ k = 2 ∨ k = 3 ∨ k = 4 ∨ k = 5 ∨ k = 6 ∨ k = 7 ∨ k = 8 ∨ k = 9 ∨ k = 10 by omega) with rfl | rfl | rfl | rfl | rfl | rfl | rfl | rfl | rfl | rfl | rfl <;> simp [rfT, TX7, RX7, tyT, tyX7] <;> decide
theorem cls_ok {ci : Nat} {q : vw_C} (h : vwCl[ci]? = some q) : CLf ci q ∧ CLg ci q := by
  match ci, h with
  | 0, h => cases h; exact ⟨clf_0, clg_0⟩
  | 1, h => cases h; exact ⟨clf_1, clg_1⟩
  | 2, h => cases h; exact ⟨clf_2, clg_2⟩
  | 3, h => cases h; exact ⟨clf_3, clg_3⟩
  | 4, h => cases h; exact ⟨clf_4, clg_4⟩
  | 5, h => cases h; exact ⟨clf_5, clg_5⟩
  | 6, h => cases h; exact ⟨clf_6, clg_6⟩
  | 7, h => cases h; exact ⟨clf_7, clg_7⟩
  | k + 8, h => simp [vwCl] at h
theorem mrs {α : Type} {N fi : Nat} {f f' : Nat → α} (h : ∀ i, i ≠ fi → f i = f' i) (hf : fi < N) : ((List.range N).map f).set fi (f' fi) = (List.range N).map f' := by
  refine List.ext_getElem? (fun i => ?_)
  by_cases hi : i = fi
  · subst hi
    rw [List.getElem?_set_self (by simp; exact hf), List.getElem?_map, List.getElem?_range hf]
    rfl
  · rw [List.getElem?_set_ne (Ne.symm hi), List.getElem?_map, List.getElem?_map]
    by_cases hk : i < N
    · rw [List.getElem?_range hk, Option.map_some, Option.map_some, h i hi]
    · rw [List.getElem?_eq_none (by rw [List.length_range]; omega), Option.map_none, Option.map_none]
theorem cn_ob {g : Gh} {rp : RPt} {hp : HPt} {a : A4} {ci : Nat} (ho : okd a.1 = some ci) : cn g rp hp a = .inr (ci, (List.range (nfT ci)).map (fun i => if rfT ci i = true then va_rf ((rp a i).map (al g)) else .int (hp a i))) := by
  unfold cn
  rw [ho]
theorem okd_akd {k ci : Nat} (ho : okd k = some ci) : akd k = none := by
  unfold okd at ho
  split at ho <;> first | rfl | cases ho
theorem akd_okd {k : Nat} {x : Nat × Nat} (ho : akd k = some x) : okd k = none := by
  cases h : okd k with
  | none => rfl
  | some c => rw [okd_akd h] at ho; cases ho
theorem rkd_okd {k : Nat} {x : Nat × Nat} (ho : rkd k = some x) : okd k = none ∧ akd k = none := by
  unfold rkd at ho
  split at ho <;> first | exact ⟨rfl, rfl⟩ | cases ho
theorem cn_ar {g : Gh} {rp : RPt} {hp : HPt} {a : A4} {t len : Nat} (ho : akd a.1 = some (t, len)) : cn g rp hp a = .inl (g.2.1 t, len, .inl (hp a)) := by
  unfold cn
  rw [akd_okd ho, ho]
theorem cn_rr {g : Gh} {rp : RPt} {hp : HPt} {a : A4} {t len : Nat} (ho : rkd a.1 = some (t, len)) : cn g rp hp a = .inl (g.2.1 t, len, .inr (.inr (.inr (.inr (fun i => (rp a i).map (al g)))))) := by
  unfold cn
  rw [(rkd_okd ho).1, (rkd_okd ho).2, ho]
section RH
variable {g : Gh} {M : Md} {mc ms cu su n pc : Nat} {L : List (Option Vv)} {st : List Vv} {rp : RPt} {hp : HPt} {P : Pst}
variable {p : Program} {l : Launch} {e : Env} {R : Room} {s : State} {m : MethodId} {args : Array Value} {below : List Frame} {meth : Method} {c : Code} {Q : State → Prop} {H : Heap} {locs : List Loc} {LS : Array Slot}
theorem w_get {a : A4} {idx ci fi : Nat} {rest : List Value} (C : CX g M mc ms p R s m args meth c) (hH : HX g n rp hp H) (hd : decode (mC M) pc = .ok (.getfield idx, 3)) (lk : LK (mK M) idx ci fi) (ho : okd a.1 = some ci) (hlv : lvp n a) {v : Value} (hv : (if rfT ci fi = true then va_rf ((rp a fi).map (al g)) else .int (hp a fi)) = v)
    (kk : W p l e R s m args below meth c H locs cu su Q (F0 m (pc + 3) LS (v :: rest))) : W p l e R s m args below meth c H locs cu su Q (F0 m pc LS (.ref (al g a) :: rest)) := by
  obtain ⟨hP, hz, hn⟩ := hH
  obtain ⟨q, hc, hfi, hlk⟩ := lk
  obtain ⟨⟨co1, co2, co3, co4⟩, -⟩ := cls_ok hc
  have he := wl_get (g := g) (rp := rp) (hp := hp) hn hlv
  rw [cn_ob ho] at he
  have hv2 : ((List.range (nfT ci)).map (fun i => if rfT ci i = true then va_rf ((rp a i).map (al g)) else .int (hp a i)))[fi]? = some v := by
    rw [List.getElem?_map, List.getElem?_range hfi, Option.map_some, hv]
  rcases hlk with hlk | ⟨host, hlk⟩
  · exact va_get C.1 C.2.1 C.2.2.2.2.2.1 co1 C.2.2.2.2.1 C.2.2.2.2.2.2.2.2.1.1 hP (pos a) he hc fi (by rw [co4]; exact hfi) (C.2.2.2.2.2.1 _ hlk) (fun _ h => h) hv2 hd kk
  · exact va_getN C.1 C.2.1 C.2.2.2.2.2.1 co1 C.2.2.2.2.1 C.2.2.2.2.2.2.2.2.1.1 hP (pos a) he hc fi (by rw [co4]; exact hfi) (va_Nw.use rfl (C.2.2.2.2.2.2.2.2.1.2.1 _ hlk)) (fun _ h => h) hv2 hd kk
theorem r_getI {a : A4} {idx ci fi : Nat} (hd : decode (mC M) pc = .ok (.getfield idx, 3)) (lk : LK (mK M) idx ci fi) (ho : okd a.1 = some ci) (hr : rfT ci fi = false) (hlv : lvp n a) (k : V g M mc ms cu su n (pc + 3) L (vI (hp a fi) :: st) rp hp P) : V g M mc ms cu su n pc L (vR a :: st) rp hp P := by
  intro p l e R s m args below meth c Q C RT H locs LS hH hS hl
  exact w_get C hH hd lk ho hlv (v := .int (hp a fi)) (by rw [hr]; rfl) (k p l e R s m args below meth c Q C RT H locs LS hH hS hl)
theorem r_getR {a b : A4} {idx ci fi : Nat} (hd : decode (mC M) pc = .ok (.getfield idx, 3)) (lk : LK (mK M) idx ci fi) (ho : okd a.1 = some ci) (hr : rfT ci fi = true) (hb : rp a fi = some b) (hlv : lvp n a) (k : V g M mc ms cu su n (pc + 3) L (vR b :: st) rp hp P) : V g M mc ms cu su n pc L (vR a :: st) rp hp P := by
  intro p l e R s m args below meth c Q C RT H locs LS hH hS hl
  exact w_get C hH hd lk ho hlv (v := .ref (al g b)) (by rw [hr, hb]; rfl) (k p l e R s m args below meth c Q C RT H locs LS hH hS hl)
theorem hx_set {rp' : RPt} {hp' : HPt} {a : A4} {H1 : Heap} (hH : HX g n rp hp H) (hlv : lvp n a) (ee : va_at (g.1.1, g.1.2) vwCl (al g a, cn g rp' hp' a) H1) (z : H1.size = H.size) (oq : ∀ q : Nat, q ≠ al g a → H1[q]? = H[q]?) (hrp : ∀ b, b ≠ a → rp b = rp' b) (hhp : ∀ b, b ≠ a → hp b = hp' b) : HX g n rp' hp' H1 := by
  obtain ⟨hP, hz, hn⟩ := hH
  have h1 := hP.set wl_D (wl_get hn hlv) ee oq
  rw [wl_set hn hlv hrp hhp] at h1
  exact ⟨h1, by rw [z]; exact hz, hn⟩
theorem al_Af {a : A4} (hn : n ≤ 616) (hlv : lvp n a) : Af g (al g a) := by
  rw [lvp_al hn hlv]
  exact Nat.le_add_right _ _
theorem ob_set {f : Nat → Value} {nf fi : Nat} {v : Value} {iS : Nat → Nat} {cell : Cell} {C0 : ClassId} {q : Nat} {H1 : Heap} {f' : Nat → Value} (h4 : ∀ k, k < nf → cell.slots[iS k]? = some (vp_V ((List.range nf).map f) k)) (hap : ∀ x y, x < nf → y < nf → x ≠ y → iS x ≠ iS y) (hf : fi < nf) (hcl : cell.cls = C0) (hvm : cell.vm = .none) (e1 : H1[q]? = some (cell.setSlot (iS fi) v)) (h : ∀ i, i ≠ fi → f i = f' i) (hv : f' fi = v) : t_OB q C0 nf iS H1 (vp_V ((List.range nf).map f')) := by
  refine t_OB.to (V := updV (vp_V ((List.range nf).map f)) fi v) ⟨_, e1, hcl, hvm, t_set h4 hap hf v⟩ (fun j hj => ?_)
  unfold updV vp_V
  rw [List.getD_eq_getElem?_getD, List.getD_eq_getElem?_getD, List.getElem?_map, List.getElem?_map, List.getElem?_range hj, Option.map_some, Option.map_some]
  by_cases hjf : j = fi
  · subst hjf
    simp [hv]
  · simp [hjf, h j hjf]
theorem r_putI {a : A4} {x : Int32} {idx ci fi : Nat} (hd : decode (mC M) pc = .ok (.putfield idx, 3)) (lk : LK (mK M) idx ci fi) (ho : okd a.1 = some ci) (hr : rfT ci fi = false) (hlv : lvp n a) (hx : narrow (tyT ci fi) (.int x) = .int x ∧ fits (tyT ci fi) (.int x) = true) (k : V g M mc ms cu su n (pc + 3) L st rp (hset hp a fi x) P) : V g M mc ms cu su n pc L (vI x :: vR a :: st) rp hp P := by
  intro p l e R s m args below meth c Q C RT H locs LS hH hS hl
  obtain ⟨hP, hz, hn⟩ := id hH
  obtain ⟨q, hc, hfi, hlk⟩ := lk
  obtain ⟨⟨co1, co2, co3, co4⟩, cg⟩ := cls_ok hc
  have hfq : fi < q.2.2 := by rw [co4]; exact hfi
  have hfin : (q.2.1 fi).2.2.2 = false := by rw [← (cg fi hfq).1]; exact hr
  have hK := C.2.2.2.2.2.2.2.2.1.1
  have hts := C.2.2.2.2.2.1
  have he := hP (pos a) _ (wl_get hn hlv)
  rw [cn_ob ho] at he
  have hap := va_apart (own := mK M) (s := s) hts co1 (tyT ci) co2 co3 hK hc
  obtain ⟨r, h1, cell, q1, q2, q3, q4⟩ := he
  have hr1 : r = q := Option.some.inj (h1.symm.trans hc)
  subst hr1
  obtain ⟨hSl, hfc, kC, hkC, hkind⟩ := hK.1 ci _ hc
  obtain ⟨cf, kf, f0, f, hi, hsl⟩ := hSl fi hfq
  have hlay := hts _ (co1 _ (u_in_lay hfq))
  unfold u_lay at hlay
  rw [if_neg (by rw [hfin]; decide)] at hlay
  have hst := (u_facts hfc hkC (u_lays hts co1 hfq) hi).1
  have h6 := u_store hfc hkC hkind hlay hi (co2 fi hfq) hx.1 hx.2
  have fin : ∀ (H1 : Heap), H1[al g a]? = some (cell.setSlot f.slot (.int x)) → H1.size = H.size → (∀ q : Nat, q ≠ al g a → H1[q]? = H[q]?) → W p l e R s m args below meth c H1 (locs ++ [⟨al g a, f.slot⟩]) cu su Q (F0 m (pc + 3) LS (st.map (trv g))) := by
    intro H1 e1 e2 e3
    refine k p l e R s m args below meth c Q C RT H1 _ LS (hx_set hH hlv ?_ e2 e3 (fun b _ => rfl) (fun b hb => by funext j; simp [hset, hb])) (hS.put e2 e3 (al_Af hn hlv)) hl
    rw [cn_ob ho]
    refine ⟨r, hc, ?_⟩
    rw [hsl] at e1
    rw [co4] at q4 hap ⊢
    exact ob_set q4 hap hfi q2 q3 e1 (fun i hi => by simp [hset, hi]) (by simp [hr, hset])
  rcases hlk with hlk | ⟨host, hlk⟩
  · exact W.putK C.1 C.2.1 (f := f) ⟨C.2.2.2.2.1, hts _ hlk, ⟨_, _, _, hi⟩, hst⟩ (by rw [q2]; exact h6) q1 q3 (by rw [hsl]; exact k2_hasslot (q4 fi hfq)) rfl rfl hd fin
  · exact va_WputK C.1 C.2.1 (f := f) C.2.2.2.2.1 (va_Nw.use rfl (C.2.2.2.2.2.2.2.2.1.2.1 _ hlk)) hi hst (by rw [q2]; exact h6) q1 q3 (by rw [hsl]; exact k2_hasslot (q4 fi hfq)) rfl rfl hd fin
/-- a final field, of references, in its class's constructor -/
theorem r_putF {a b : A4} {idx ci fi : Nat} (hd : decode (mC M) pc = .ok (.putfield idx, 3)) (lk : LK (mK M) idx ci fi) (ho : okd a.1 = some ci) (hr : rfT ci fi = true) (hlv : lvp n a) (hin : (mY M).name = "<init>") (hown : ∀ q, vwCl[ci]? = some q → q.1 = mK M) (hnn : ∀ q, vwCl[ci]? = some q → ∀ host, Cond.fieldLinkNest (mK M) idx (q.2.1 fi).1 (q.2.1 fi).2.1 (q.2.1 fi).2.2.1 host ∉ lw_nest) (k : V g M mc ms cu su n (pc + 3) L st (rset rp a fi b) hp P) : V g M mc ms cu su n pc L (vR b :: vR a :: st) rp hp P := by
  intro p l e R s m args below meth c Q C RT H locs LS hH hS hl
  obtain ⟨hP, hz, hn⟩ := id hH
  obtain ⟨q, hc, hfi, hlk⟩ := lk
  obtain ⟨⟨co1, co2, co3, co4⟩, cg⟩ := cls_ok hc
  have hfq : fi < q.2.2 := by rw [co4]; exact hfi
  have hfin : (q.2.1 fi).2.2.2 = true := by rw [← (cg fi hfq).1]; exact hr
  obtain ⟨hq1, hty⟩ := (cg fi hfq).2.1 hr
  have hK := C.2.2.2.2.2.2.2.2.1.1
  have hts := C.2.2.2.2.2.1
  have he := hP (pos a) _ (wl_get hn hlv)
  rw [cn_ob ho] at he
  have hap := va_apart (own := mK M) (s := s) hts co1 (tyT ci) co2 co3 hK hc
  obtain ⟨r, h1, cell, q1, q2, q3, q4⟩ := he
  have hr1 : r = q := Option.some.inj (h1.symm.trans hc)
  subst hr1
  obtain ⟨hSl, hfc, kC, hkC, hkind⟩ := hK.1 ci _ hc
  obtain ⟨cf, kf, f0, f, hi, hsl⟩ := hSl fi hfq
  have hlay := hts _ (co1 _ (u_in_lay hfq))
  unfold u_lay at hlay
  rw [if_pos hfin] at hlay
  have hst := (u_facts hfc hkC (u_lays hts co1 hfq) hi).1
  have hcf : m.cls = cf := by
    obtain ⟨_, _, c', _, _, _, -, -, hf', -, -, -, hown2, -⟩ := Cond.laysFinal_spec hlay
    have e1 : c' = cf := by have := hi.symm.trans hf'; simp at this; exact this.1.symm
    rw [hq1, hown r hc] at hown2
    rw [← e1]; exact Option.some.inj (C.2.2.2.2.1.symm.trans hown2)
  have hnv : narrow (tyT ci fi) (.ref (al g b)) = .ref (al g b) ∧ fits (tyT ci fi) (.ref (al g b)) = true := by
    rcases hty with ⟨z, hz⟩ | ⟨z, hz⟩ <;> rw [hz] <;> exact ⟨rfl, rfl⟩
  have h6 := u_fits hfc hkC hkind (Or.inr hlay) hi (co2 fi hfq) hnv.1 hnv.2
  rcases hlk with hlk | ⟨host, hlk⟩
  · refine W.putFinK C.1 C.2.1 C.2.2.2.2.1 (hts _ hlk) hi hst hcf (by rw [C.2.2.2.2.2.2.2.1]; exact hin) (by rw [q2]; exact h6) q1 q3 (by rw [hsl]; exact k2_hasslot (q4 fi hfq)) rfl rfl hd fun H1 e1 e2 e3 => ?_
    refine k p l e R s m args below meth c Q C RT H1 _ LS (hx_set hH hlv ?_ e2 e3 (fun b hb => by funext j; simp [rset, hb]) (fun b hb => rfl)) (hS.put e2 e3 (al_Af hn hlv)) hl
    rw [cn_ob ho]
    refine ⟨r, hc, ?_⟩
    rw [hsl] at e1
    rw [co4] at q4 hap ⊢
    exact ob_set q4 hap hfi q2 q3 e1 (fun i hi => by simp [rset, hi]) (by simp [hr, rset, va_rf] <;> rfl)
  · exact absurd hlk (hnn r hc host)
theorem ty_at {t : Nat} {ty : FieldType} {k : Nat} (h : (tysF g)[k]? = some (g.2.1 t, ty)) : (tysF g)[k]? = some (g.2.1 t, ty) := h
theorem r_iald {a : A4} {i : Int32} {len : Nat} (hd : decode (mC M) pc = .ok (.iaload, 1)) (ho : akd a.1 = some (0, len)) (hlv : lvp n a) (hi : vp_in i len) (k : V g M mc ms cu su n (pc + 1) L (vI (hp a i.toNatClampNeg) :: st) rp hp P) : V g M mc ms cu su n pc L (vI i :: vR a :: st) rp hp P := by
  intro p l e R s m args below meth c Q C RT H locs LS hH hS hl
  have he := wl_get (g := g) (rp := rp) (hp := hp) hH.2.2 hlv
  rw [cn_ar ho] at he
  exact va_iald C.1 C.2.1 C.2.2.2.2.2.2.2.2.1.1 hH.1 (pos a) 0 he rfl hi hd (k p l e R s m args below meth c Q C RT H locs LS hH hS hl)
theorem r_zald {a : A4} {i : Int32} {len : Nat} (hd : decode (mC M) pc = .ok (.baload, 1)) (ho : akd a.1 = some (1, len)) (hlv : lvp n a) (hi : vp_in i len) (k : V g M mc ms cu su n (pc + 1) L (vI (hp a i.toNatClampNeg) :: st) rp hp P) : V g M mc ms cu su n pc L (vI i :: vR a :: st) rp hp P := by
  intro p l e R s m args below meth c Q C RT H locs LS hH hS hl
  have he := wl_get (g := g) (rp := rp) (hp := hp) hH.2.2 hlv
  rw [cn_ar ho] at he
  exact va_zald C.1 C.2.1 C.2.2.2.2.2.2.2.2.1.1 hH.1 (pos a) 1 he rfl hi hd (k p l e R s m args below meth c Q C RT H locs LS hH hS hl)
theorem r_cald {a : A4} {i : Int32} {len : Nat} (hd : decode (mC M) pc = .ok (.caload, 1)) (ho : akd a.1 = some (2, len)) (hlv : lvp n a) (hi : vp_in i len) (k : V g M mc ms cu su n (pc + 1) L (vI (hp a i.toNatClampNeg) :: st) rp hp P) : V g M mc ms cu su n pc L (vI i :: vR a :: st) rp hp P := by
  intro p l e R s m args below meth c Q C RT H locs LS hH hS hl
  have he := wl_get (g := g) (rp := rp) (hp := hp) hH.2.2 hlv
  rw [cn_ar ho] at he
  exact va_cald C.1 C.2.1 C.2.2.2.2.2.2.2.2.1.1 hH.1 (pos a) 2 he rfl hi hd (k p l e R s m args below meth c Q C RT H locs LS hH hS hl)
theorem r_aald {a b : A4} {i : Int32} {t len : Nat} (hd : decode (mC M) pc = .ok (.aaload, 1)) (ho : rkd a.1 = some (t, len)) (hlv : lvp n a) (hi : vp_in i len) (hb : rp a i.toNatClampNeg = some b) (k : V g M mc ms cu su n (pc + 1) L (vR b :: st) rp hp P) : V g M mc ms cu su n pc L (vI i :: vR a :: st) rp hp P := by
  intro p l e R s m args below meth c Q C RT H locs LS hH hS hl
  have he := wl_get (g := g) (rp := rp) (hp := hp) hH.2.2 hlv
  rw [cn_rr ho] at he
  have ht : ∃ (j : Nat) (D : String), (tysF g)[j]? = some (g.2.1 t, .object D) := by
    have h0 := ho
    unfold rkd at h0
    split at h0 <;> cases h0
    · exact ⟨4, RX4, rfl⟩
    · exact ⟨3, RX5, rfl⟩
    · exact ⟨3, RX5, rfl⟩
  obtain ⟨j, D, ht⟩ := ht
  refine va_aldq C.1 C.2.1 C.2.2.2.2.2.2.2.2.1.1 hH.1 (pos a) j he ht hi hd ?_
  rw [hb]
  exact k p l e R s m args below meth c Q C RT H locs LS hH hS hl
theorem r_xald {t : Nat} {i : Int32} (hd : decode (mC M) pc = .ok (.iaload, 1)) (ht : t < 3) (hi : vp_in i (g.2.2.2.2 t).1) (k : V g M mc ms cu su n (pc + 1) L (vI ((g.2.2.2.2 t).2 i.toNatClampNeg) :: st) rp hp P) : V g M mc ms cu su n pc L (vI i :: vR (24, t, 0, 0) :: st) rp hp P := by
  intro p l e R s m args below meth c Q C RT H locs LS hH hS hl
  exact va_ti C.1 C.2.1 (C.2.2.2.2.2.2.2.2.1.2.2.2.2.2 t ht) hS hi rfl hd (k p l e R s m args below meth c Q C RT H locs LS hH hS hl)
theorem r_xlen {t : Nat} (hd : decode (mC M) pc = .ok (.arraylength, 1)) (ht : t < 3) (k : V g M mc ms cu su n (pc + 1) L (vI (nI (g.2.2.2.2 t).1) :: st) rp hp P) : V g M mc ms cu su n pc L (vR (24, t, 0, 0) :: st) rp hp P := by
  intro p l e R s m args below meth c Q C RT H locs LS hH hS hl
  exact va_tlen C.1 C.2.1 (C.2.2.2.2.2.2.2.2.1.2.2.2.2.2 t ht) hS rfl hd (k p l e R s m args below meth c Q C RT H locs LS hH hS hl)
theorem r_getL {idx : Nat} {host : String} (hd : decode (mC M) pc = .ok (.getstatic idx, 3)) (hw : Cond.fieldLinkNest (mK M) idx "SplitSecrets" "LEAST_OF_SETTING" "[I" host ∈ lw_nest) (k : V g M mc ms cu su n (pc + 3) L (vR (24, 1, 0, 0) :: st) rp hp P) : V g M mc ms cu su n pc L st rp hp P := by
  intro p l e R s m args below meth c Q C RT H locs LS hH hS hl
  exact va_getsN C.1 C.2.1 C.2.2.2.2.2.2.2.2.1.2.2.2.1 hS C.2.2.2.2.1 (va_Nw.use rfl (C.2.2.2.2.2.2.2.2.1.2.1 _ hw)) (fun _ h => h) hd (k p l e R s m args below meth c Q C RT H locs LS hH hS hl)
theorem r_getM {idx : Nat} {host : String} (hd : decode (mC M) pc = .ok (.getstatic idx, 3)) (hw : Cond.fieldLinkNest (mK M) idx "SplitSecrets" "MOST_OF_SETTING" "[I" host ∈ lw_nest) (k : V g M mc ms cu su n (pc + 3) L (vR (24, 2, 0, 0) :: st) rp hp P) : V g M mc ms cu su n pc L st rp hp P := by
  intro p l e R s m args below meth c Q C RT H locs LS hH hS hl
  exact va_getsN C.1 C.2.1 C.2.2.2.2.2.2.2.2.1.2.2.2.2.1 hS C.2.2.2.2.1 (va_Nw.use rfl (C.2.2.2.2.2.2.2.2.1.2.1 _ hw)) (fun _ h => h) hd (k p l e R s m args below meth c Q C RT H locs LS hH hS hl)
theorem hset_upd {a : A4} {i : Nat} {x : Int32} : hset hp a i x a = upd (hp a) i x := by
  funext j
  by_cases h : j = i <;> simp [hset, upd, h]
theorem r_iast {a : A4} {i x : Int32} {len : Nat} (hd : decode (mC M) pc = .ok (.iastore, 1)) (ho : akd a.1 = some (0, len)) (hlv : lvp n a) (hi : vp_in i len) (k : V g M mc ms cu su n (pc + 1) L st rp (hset hp a i.toNatClampNeg x) P) : V g M mc ms cu su n pc L (vI x :: vI i :: vR a :: st) rp hp P := by
  intro p l e R s m args below meth c Q C RT H locs LS hH hS hl
  have he := wl_get (g := g) (rp := rp) (hp := hp) hH.2.2 hlv
  rw [cn_ar ho] at he
  refine W.iast C.1 C.2.1 (hH.1 (pos a) _ he) ((C.2.2.2.2.2.2.2.2.1.1.2 0 _ rfl).1 len (fun j => .int (hp a j))) (fun q => by cases q) (by show ¬ (i < 0 ∨ (arrV _ _ _).slots.size ≤ _); rw [arrV_size]; exact hi) rfl rfl hd fun H1 ee z oq => ?_
  refine k p l e R s m args below meth c Q C RT H1 _ LS (hx_set hH hlv ?_ z oq (fun b _ => rfl) (fun b hb => by funext j; simp [hset, hb])) (hS.put z oq (al_Af hH.2.2 hlv)) hl
  rw [cn_ar ho, hset_upd]
  show H1[al g a]? = some (vp_cell _ _)
  rw [ee, vp_cell_i, vp_cell_i, arrV_store]
  congr 2
  funext q
  by_cases hq : q = i.toNatClampNeg
  · subst hq
    simp [updV, upd]
  · simp [updV, upd, hq]
theorem r_zast {a : A4} {i x : Int32} {len : Nat} (hd : decode (mC M) pc = .ok (.bastore, 1)) (ho : akd a.1 = some (1, len)) (hlv : lvp n a) (hi : vp_in i len) (hx : vp_nar .boolean x = x) (k : V g M mc ms cu su n (pc + 1) L st rp (hset hp a i.toNatClampNeg x) P) : V g M mc ms cu su n pc L (vI x :: vI i :: vR a :: st) rp hp P := by
  intro p l e R s m args below meth c Q C RT H locs LS hH hS hl
  have he := wl_get (g := g) (rp := rp) (hp := hp) hH.2.2 hlv
  rw [cn_ar ho] at he
  refine W.zast C.1 C.2.1 (hH.1 (pos a) _ he) ((C.2.2.2.2.2.2.2.2.1.1.2 1 _ rfl).1 len (fun j => .int (hp a j))) (fun q => by cases q) (by show ¬ (i < 0 ∨ (arrV _ _ _).slots.size ≤ _); rw [arrV_size]; exact hi) rfl rfl hd fun H1 ee z oq => ?_
  refine k p l e R s m args below meth c Q C RT H1 _ LS (hx_set hH hlv ?_ z oq (fun b _ => rfl) (fun b hb => by funext j; simp [hset, hb])) (hS.put z oq (al_Af hH.2.2 hlv)) hl
  rw [cn_ar ho, hset_upd]
  show H1[al g a]? = some (vp_cell _ _)
  rw [ee, vp_cell_i, vp_cell_i, arrV_store]
  congr 2
  funext q
  by_cases hq : q = i.toNatClampNeg
  · subst hq
    have h2 : narrow .boolean (.int x) = .int (vp_nar .boolean x) := rfl
    rw [hx] at h2
    simp [updV, upd, h2]
  · simp [updV, upd, hq]
theorem r_cast {a : A4} {i x : Int32} {len : Nat} (hd : decode (mC M) pc = .ok (.castore, 1)) (ho : akd a.1 = some (2, len)) (hlv : lvp n a) (hi : vp_in i len) (hx : vp_nar .char x = x) (k : V g M mc ms cu su n (pc + 1) L st rp (hset hp a i.toNatClampNeg x) P) : V g M mc ms cu su n pc L (vI x :: vI i :: vR a :: st) rp hp P := by
  intro p l e R s m args below meth c Q C RT H locs LS hH hS hl
  have he := wl_get (g := g) (rp := rp) (hp := hp) hH.2.2 hlv
  rw [cn_ar ho] at he
  refine W.cast C.1 C.2.1 (hH.1 (pos a) _ he) ((C.2.2.2.2.2.2.2.2.1.1.2 2 _ rfl).1 len (fun j => .int (hp a j))) (fun q => by cases q) (by show ¬ (i < 0 ∨ (arrV _ _ _).slots.size ≤ _); rw [arrV_size]; exact hi) rfl rfl hd fun H1 ee z oq => ?_
  refine k p l e R s m args below meth c Q C RT H1 _ LS (hx_set hH hlv ?_ z oq (fun b _ => rfl) (fun b hb => by funext j; simp [hset, hb])) (hS.put z oq (al_Af hH.2.2 hlv)) hl
  rw [cn_ar ho, hset_upd]
  show H1[al g a]? = some (vp_cell _ _)
  rw [ee, vp_cell_i, vp_cell_i, arrV_store]
  congr 2
  funext q
  by_cases hq : q = i.toNatClampNeg
  · subst hq
    have h2 : narrow .char (.int x) = .int (vp_nar .char x) := rfl
    rw [hx] at h2
    simp [updV, upd, h2]
  · simp [updV, upd, hq]
theorem hx_push {H1 : Heap} (hH : HX g n rp hp H) (hn : n < 616) (ee : va_at (g.1.1, g.1.2) vwCl (g.2.2.1 + n, cn g rp hp (nm n)) H1) (z : H1.size = H.size + 1) (oq : ∀ q : Nat, q < H.size → H1[q]? = H[q]?) : HX g (n + 1) rp hp H1 := by
  obtain ⟨hP, hz, -⟩ := hH
  have hk : va_P (g.1.1, g.1.2) vwCl (wl g n rp hp) H1 := hP.kept (fun k x hx => oq x.1 ((hP k x hx).lt))
  refine ⟨?_, by rw [z, hz, Nat.add_assoc], hn⟩
  rw [wl_push]
  refine hk.app (fun k x hx => ?_)
  have hz1 : k < 1 := (List.getElem?_eq_some_iff.mp hx).1
  rw [show k = 0 by omega] at hx
  cases hx
  exact ee
theorem S_push {A0 : Nat → Prop} {H0 H1 : Heap} (hS : va_S A0 H0 H locs) (z : H1.size = H.size + 1) (oq : ∀ q : Nat, q < H.size → H1[q]? = H[q]?) : va_S A0 H0 H1 locs := ⟨Nat.le_trans hS.1 (by omega), fun x h1 h2 => (oq x (Nat.lt_of_lt_of_le h1 hS.1)).trans (hS.2.1 x h1 h2), hS.2.2⟩
theorem al_nm (hn : n < 616) : al g (nm n) = g.2.2.1 + n := by
  unfold al
  rw [if_neg (nm_24 n hn), pos_nm n hn]
theorem dv_ob {ci : Nat} {q : vw_C} (hc : vwCl[ci]? = some q) {k : Nat} (hk : k < nfT ci) : defaultValue (tyT ci k) = if rfT ci k = true then Value.null else .int 0 := by
  obtain ⟨⟨-, -, -, co4⟩, cg⟩ := cls_ok hc
  obtain ⟨-, g2, g3⟩ := cg k (by rw [co4]; exact hk)
  by_cases h : rfT ci k = true
  · rw [if_pos h]
    rcases (g2 h).2 with ⟨z, hz⟩ | ⟨z, hz⟩ <;> rw [hz] <;> rfl
  · rw [if_neg h]
    rcases g3 (by simpa using h) with hz | hz | hz <;> rw [hz] <;> rfl
theorem r_new {idx ci : Nat} {Cn : String} {T : u_T} {N : Nat} (hd : decode (mC M) pc = .ok (.new idx, 3)) (hc : vwCl[ci]? = some (Cn, T, N)) (w1 : Cond.classLink (mK M) idx Cn ∈ lw_good) (w2 : Cond.instantiable Cn N ∈ lw_good) (w3 : Cond.initialized Cn ∈ lw_good) (hn : n < 616) (hk : okd (nm n).1 = some ci) (hrp : rp (nm n) = fun _ => none) (hhp : hp (nm n) = fun _ => 0) (hcu : cu + 1 ≤ mc) (hsu : su + N ≤ ms) (k : V g M mc ms (cu + 1) (su + N) (n + 1) (pc + 3) L (vR (nm n) :: st) rp hp P) : V g M mc ms cu su n pc L st rp hp P := by
  intro p l e R s m args below meth c Q C RT H locs LS hH hS hl
  have hts := C.2.2.2.2.2.1
  have hK := C.2.2.2.2.2.2.2.2.1.1
  obtain ⟨⟨co1, co2, co3, co4⟩, cg⟩ := cls_ok hc
  have co4 : N = nfT ci := co4
  have hKn := hK.1 ci _ hc
  have hR := C.2.2.2.2.2.2.2.2.2.1
  refine W.newcK C.1 C.2.1 C.2.2.2.2.1 (hts _ w1) (hts _ w2) (hts _ w3) rfl hd (Nat.le_trans hcu hR.2.2.1) (Nat.le_trans hsu hR.2.2.2) hKn.2.1 hH.2.1 fun H1 kC hkC e1 z1 o1 => ?_
  have hz := hH.2.1
  have e3 := k p l e R s m args below meth c Q C RT H1 locs LS (hx_push hH hn ?_ (by rw [z1, hz]) (fun q hq => o1 q (by rw [← hz]; exact hq))) (S_push hS (by rw [z1, hz]) (fun q hq => o1 q (by rw [← hz]; exact hq))) hl
  · have e4 : trv g (vR (nm n)) = .ref (g.2.2.1 + n) := by show Value.ref (al g (nm n)) = _; rw [al_nm hn]
    rw [List.map_cons, e4] at e3
    exact e3
  · rw [cn_ob hk]
    refine ⟨_, hc, (u_born (tyT ci) hts co1 hKn hkC e1 co2).to (fun j hj => ?_)⟩
    have hj : j < N := hj
    rw [co4] at hj
    rw [dv_ob hc hj]
    unfold vp_V
    rw [List.getD_eq_getElem?_getD, List.getElem?_map, List.getElem?_range hj, Option.map_some, hrp, hhp]
    by_cases h : rfT ci j = true <;> simp [h, va_rf]
theorem cls_arr {t : Nat} {ty : FieldType} {s : State} {cA : ClassId} (hK : va_K (g.1.1, g.1.2) vwCl (tysF g) s) (ht : (tysF g)[t]? = some (g.2.1 t, ty)) (hty : ∀ Cn, ty ≠ .object Cn) (h : s.vm.findClass ("[" ++ ty.toString) = some cA) : g.2.1 t = cA := by
  have h1 := (hK.2 t _ ht).2
  have h2 : s.vm.findClass ("[" ++ ty.toString) = some (g.2.1 t) := by
    cases ty with
    | object z => exact absurd rfl (hty z)
    | _ => exact h1
  exact Option.some.inj (h2.symm.trans h)
theorem r_newa {atype : ArrayType} {ty : FieldType} {t len : Nat} {x : Int32} (hd : decode (mC M) pc = .ok (.newarray atype, 2)) (hw : Cond.arrayClass (newarray.typeOf atype) ∈ lw_good) (hty : newarray.typeOf atype = ty) (ht : (tysF g)[t]? = some (g.2.1 t, ty)) (hno : ∀ Cn, ty ≠ .object Cn) (hdv : defaultValue ty = .int 0) (hx : x = nI len) (hlen : len < 100000) (hn : n < 616) (hk : akd (nm n).1 = some (t, len)) (hb : len * componentBytes ty ≤ 536870912) (hhp : hp (nm n) = fun _ => 0) (hcu : cu + 1 ≤ mc) (hsu : su + len ≤ ms) (k : V g M mc ms (cu + 1) (su + len) (n + 1) (pc + 2) L (vR (nm n) :: st) rp hp P) : V g M mc ms cu su n pc L (vI x :: st) rp hp P := by
  intro p l e R s m args below meth c Q C RT H locs LS hH hS hl
  subst hty
  have hts := C.2.2.2.2.2.1
  have hK := C.2.2.2.2.2.2.2.2.1.1
  have hR := C.2.2.2.2.2.2.2.2.2.1
  have hcl : x.toNatClampNeg = len := by rw [hx]; exact nI_clamp (by omega)
  refine va_newaK C.1 C.2.1 (hts _ hw) rfl hd rfl (by rw [hx]; exact nI_pos (by omega)) hcl hb (Nat.le_trans hcu hR.2.2.1) (Nat.le_trans hsu hR.2.2.2) hH.2.1 fun H1 cA e1 z1 o1 hAr hNm => ?_
  have hz := hH.2.1
  have e3 := k p l e R s m args below meth c Q C RT H1 locs LS (hx_push hH hn ?_ (by rw [z1, hz]) (fun q hq => o1 q (by rw [← hz]; exact hq))) (S_push hS (by rw [z1, hz]) (fun q hq => o1 q (by rw [← hz]; exact hq))) hl
  · have e4 : trv g (vR (nm n)) = .ref (g.2.2.1 + n) := by show Value.ref (al g (nm n)) = _; rw [al_nm hn]
    rw [List.map_cons, e4] at e3
    exact e3
  · rw [cn_ar hk]
    show H1[g.2.2.1 + n]? = some (vp_cell _ _)
    rw [e1, vp_cell_i, hhp, cls_arr hK ht hno hNm, hdv]
theorem r_anew {idx t len : Nat} {Cn : String} {x : Int32} (hd : decode (mC M) pc = .ok (.anewarray idx, 3)) (hw : Cond.classLink (mK M) idx Cn ∈ lw_good) (hCn : Cn = RX5 ∨ Cn = RX4) (ht : (tysF g)[t]? = some (g.2.1 t, .object Cn)) (hx : x = nI len) (hlen : len < 100000) (hn : n < 616) (hk : rkd (nm n).1 = some (t, len)) (hrp : rp (nm n) = fun _ => none) (hcu : cu + 1 ≤ mc) (hsu : su + len ≤ ms) (k : V g M mc ms (cu + 1) (su + len) (n + 1) (pc + 3) L (vR (nm n) :: st) rp hp P) : V g M mc ms cu su n pc L (vI x :: st) rp hp P := by
  intro p l e R s m args below meth c Q C RT H locs LS hH hS hl
  have hts := C.2.2.2.2.2.1
  have hSX := C.2.2.2.2.2.2.2.2.1
  have hK := hSX.1
  have hR := C.2.2.2.2.2.2.2.2.2.1
  have hAO : va_AO Cn s := by rcases hCn with h | h <;> rw [h]; exact hSX.2.2.1.1; exact hSX.2.2.1.2
  have hcl : x.toNatClampNeg = len := by rw [hx]; exact nI_clamp (by omega)
  refine W.anew C.1 C.2.1 C.2.2.2.2.1 (hts _ hw) (va_AO.use hAO) rfl hd rfl (by rw [hx]; exact nI_pos (by omega)) (by rw [hcl]; omega) (Nat.le_trans hcu hR.2.2.1) (by rw [hcl]; exact Nat.le_trans hsu hR.2.2.2) fun cA kA comp f1 f2 f3 f4 => ?_
  rw [hcl]
  generalize hH1 : H.push ({ cls := cA, slots := Array.replicate len .null, vm := .none } : Cell) = H1
  have z1 : H1.size = H.size + 1 := by rw [← hH1, Array.size_push]
  have e1 : H1[H.size]? = some (arrV cA len (fun _ => .null)) := by rw [← hH1, Array.getElem?_push_size, ← arrV_new]
  have o1 : ∀ q : Nat, q < H.size → H1[q]? = H[q]? := fun q hq => by rw [← hH1, Array.getElem?_push, if_neg (Nat.ne_of_lt hq)]
  have hz := hH.2.1
  have e3 := k p l e R s m args below meth c Q C RT H1 locs LS (hx_push hH hn ?_ z1 o1) (S_push hS z1 o1) hl
  · have e4 : trv g (vR (nm n)) = .ref (g.2.2.1 + n) := by show Value.ref (al g (nm n)) = _; rw [al_nm hn]
    rw [List.map_cons, e4, ← hz] at e3
    exact e3
  · rw [cn_rr hk]
    show H1[g.2.2.1 + n]? = some (vp_cell _ _)
    obtain ⟨kB, comp2, k1, k2, k3, k4⟩ := (hK.2 t _ ht).2
    have hcA : g.2.1 t = cA := Option.some.inj (k4.symm.trans f1)
    rw [← hz, e1, vp_cell_q, hrp, hcA]
    rfl
theorem r_aast {a b : A4} {i : Int32} {t len ci : Nat} {q : vw_C} (hd : decode (mC M) pc = .ok (.aastore, 1)) (ho : rkd a.1 = some (t, len)) (hlv : lvp n a) (hlb : lvp n b) (hob : okd b.1 = some ci) (hc : vwCl[ci]? = some q) (ht : (tysF g)[t]? = some (g.2.1 t, .object q.1)) (hi : vp_in i len) (k : V g M mc ms cu su n (pc + 1) L st (rset rp a i.toNatClampNeg b) hp P) : V g M mc ms cu su n pc L (vR b :: vI i :: vR a :: st) rp hp P := by
  intro p l e R s m args below meth c Q C RT H locs LS hH hS hl
  have hK := C.2.2.2.2.2.2.2.2.1.1
  have ha := hH.1 (pos a) _ (wl_get hH.2.2 hlv)
  rw [cn_rr ho] at ha
  have hv := hH.1 (pos b) _ (wl_get hH.2.2 hlb)
  rw [cn_ob hob] at hv
  have hlt : i.toNatClampNeg < len := Nat.not_le.mp fun q => hi (Or.inr q)
  have h0 : ¬ i < 0 := fun q => hi (Or.inl q)
  obtain ⟨r', hr', cellV, g1, g2, g3, -⟩ := hv
  have hcls := (hK.1 ci q hc).2
  obtain ⟨kA, comp, k1, k2, k3, -⟩ := (hK.2 t _ ht).2
  have hcomp : comp = g.1.1 ci := Option.some.inj (k3.symm.trans hcls.1)
  subst hcomp
  obtain ⟨kC, hkC, -⟩ := hcls.2
  refine W.aast C.1 C.2.1 ha (fun q h => by cases h) (fun h => by cases h) k1 k2 rfl hkC ⟨h0, by show _ < (arrV _ _ _).slots.size; rw [arrV_size]; exact hlt⟩ g1 (fun q h => by rw [g3] at h; cases h) (by rw [g2]; exact hkC) (by rw [g2]; exact va_assign hcls) rfl rfl hd fun H1 ee z oq => ?_
  refine k p l e R s m args below meth c Q C RT H1 _ LS (hx_set hH hlv ?_ z oq (fun b hb => by funext j; simp [rset, hb]) (fun b _ => rfl)) (hS.put z oq (al_Af hH.2.2 hlv)) hl
  rw [cn_rr ho]
  show H1[al g a]? = some (vp_cell _ _)
  rw [ee, vp_cell_q, vp_cell_q, arrV_store]
  congr 2
  funext q
  by_cases hq : q = i.toNatClampNeg
  · subst hq
    simp [updV, rset, va_rf, trv]
  · simp [updV, rset, hq]
theorem r_objInit {a : A4} {idx : Nat} (hd : decode (mC M) pc = .ok (.invokespecial idx, 3)) (w1 : Cond.methodLink (mK M) idx objectInit ∈ lw_good) (w2 : Cond.instanceMethod objectInit ∈ lw_good) (w3 : Cond.code objectInit ⟨#[0xb1]⟩ 1 none ∈ lw_good) (hf : 1 ≤ mF M) (hw : (st.map fun v => (trv g v).category).sum + 12 ≤ mW M) (k : V g M mc ms cu su n (pc + 3) L st rp hp P) : V g M mc ms cu su n pc L (vR a :: st) rp hp P := by
  intro p l e R s m args below meth c Q C RT H locs LS hH hS hl
  have hts := C.2.2.2.2.2.1
  have hR := C.2.2.2.2.2.2.2.2.2.1
  refine W.objInit C.1 C.2.1 C.2.2.2.2.1 (hts _ w1) (hts _ w2) (hts _ w3) rfl (by rw [C.2.2.2.1]; exact hl.1) rfl hd (Nat.le_trans hf hR.1) ?_ (k p l e R s m args below meth c Q C RT H locs LS hH hS hl)
  rw [List.map_map]
  show 2 * 0 + _ + 12 ≤ _
  rw [Nat.mul_zero, Nat.zero_add]
  exact Nat.le_trans hw hR.2.1
theorem r_retV (hd : decode (mC M) pc = .ok (.return_, 1)) (hr : mR M = none) (hcu : cu ≤ mc) (hsu : su ≤ ms) (hP : P none n rp hp) : V g M mc ms cu su n pc L [] rp hp P := by
  intro p l e R s m args below meth c Q C RT H locs LS hH hS hl
  exact RT none n cu su rp hp H locs LS pc hP hcu hsu hH hS (Or.inl ⟨rfl, hr, hd⟩)
theorem r_retI {x : Int32} {ty : FieldType} (hd : decode (mC M) pc = .ok (.ireturn, 1)) (hr : mR M = some ty) (hx : narrow ty (.int x) = .int x) (hcu : cu ≤ mc) (hsu : su ≤ ms) (hP : P (some (vI x)) n rp hp) : V g M mc ms cu su n pc L [vI x] rp hp P := by
  intro p l e R s m args below meth c Q C RT H locs LS hH hS hl
  exact RT (some (vI x)) n cu su rp hp H locs LS pc hP hcu hsu hH hS (Or.inr (Or.inl ⟨x, ty, rfl, hr, hx, hd⟩))
theorem r_retA {a : A4} {Cn : String} (hd : decode (mC M) pc = .ok (.areturn, 1)) (hr : mR M = some (.object Cn)) (hcu : cu ≤ mc) (hsu : su ≤ ms) (hP : P (some (vR a)) n rp hp) : V g M mc ms cu su n pc L [vR a] rp hp P := by
  intro p l e R s m args below meth c Q C RT H locs LS hH hS hl
  exact RT (some (vR a)) n cu su rp hp H locs LS pc hP hcu hsu hH hS (Or.inr (Or.inr ⟨a, Cn, rfl, hr, hd⟩))
end RH
end
section
/-- the locals with which a method begins -/
def inL : List Vv → Nat → List (Option Vv)
  | [], k => List.replicate k none
  | v :: vs, k => match v with
    | .inr (.inl _) => some v :: none :: inL vs (k - 2)
    | _ => some v :: inL vs (k - 1)
theorem inL_mem {g : Gh} : ∀ (vs : List Vv) (k off i : Nat) (v : Vv), (inL vs k)[i]? = some (some v) → (off + i, trv g v) ∈ lv_args off (vs.map (trv g))
  | [], k, off, i, v, h => by
    unfold inL at h
    rw [List.getElem?_replicate] at h
    split at h <;> cases h
  | w :: vs, k, off, i, v, h => by
    rcases w with x | x | x
    · cases i with
      | zero => simp [inL] at h; subst h; exact List.mem_cons_self
      | succ i =>
        have h2 : (inL vs (k - 1))[i]? = some (some v) := by simpa [inL] using h
        have h3 := inL_mem (g := g) vs (k - 1) (off + 1) i v h2
        rw [show off + 1 + i = off + (i + 1) by omega] at h3
        exact List.mem_cons_of_mem _ h3
    · cases i with
      | zero => simp [inL] at h; subst h; exact List.mem_cons_self
      | succ i =>
        cases i with
        | zero => simp [inL] at h
        | succ i =>
          have h2 : (inL vs (k - 2))[i]? = some (some v) := by simpa [inL] using h
          have h3 := inL_mem (g := g) vs (k - 2) (off + 2) i v h2
          rw [show off + 2 + i = off + (i + 1 + 1) by omega] at h3
          exact List.mem_cons_of_mem _ h3
    · cases i with
      | zero => simp [inL] at h; subst h; exact List.mem_cons_self
      | succ i =>
        have h2 : (inL vs (k - 1))[i]? = some (some v) := by simpa [inL] using h
        have h3 := inL_mem (g := g) vs (k - 1) (off + 1) i v h2
        rw [show off + 1 + i = off + (i + 1) by omega] at h3
        have hc : (trv g (Sum.inr (Sum.inr x))).category = 1 := by cases x <;> rfl
        show _ ∈ _ :: lv_args (if (trv g (Sum.inr (Sum.inr x))).category = 2 then off + 2 else off + 1) _
        rw [if_neg (by rw [hc]; decide)]
        exact List.mem_cons_of_mem _ h3
/-- how many words the arguments take -/
def wdL : List Vv → Nat
  | [] => 0
  | v :: vs => (match v with
    | .inr (.inl _) => 2
    | _ => 1) + wdL vs
theorem wdL_sl {g : Gh} : ∀ vs : List Vv, (lg_sl (vs.map (trv g))).length = wdL vs
  | [] => rfl
  | v :: vs => by
    have h := wdL_sl (g := g) vs
    unfold lg_sl at h ⊢
    rw [List.map_cons, List.flatMap_cons, List.length_append, h]
    rcases v with x | x | x
    · rfl
    · rfl
    · cases x <;> rfl
abbrev MS (M : Md) : List Cond := Cond.code (mY M) (mC M) (mL M) (mR M) :: lw_good
abbrev rmM (M : Md) (mc ms : Nat) : Room := { frames := mF M, cells := mc, slots := ms, locals := mW M }
def Qx (g : Gh) (P : Pst) : Array Value → State → Outcome → State → Prop := fun _ st o t => ∃ (v : Option Vv) (n' : Nat) (rp' : RPt) (hp' : HPt), o = .returned (v.map (trv g)) ∧ P v n' rp' hp' ∧ HX g n' rp' hp' t.heap ∧ va_F (Af g) st t
abbrev Px (g : Gh) (as : List Vv) (n : Nat) (rp : RPt) (hp : HPt) : Array Value → State → Prop := va_Pc (as.map (trv g)) (fun U => HX g n rp hp U.heap ∧ SX g U)
/-- the contract out of the walk, for a method that no entry runs in its bytecode's place -/
theorem met_ofF {l : Launch} {y : MethodName} {ws ws' : List Cond} {rm : Room} {Pc : Array Value → State → Prop} {Qc : Array Value → State → Outcome → State → Prop} {mc ms : Nat} {free : Addr → Prop} {cc : ByteArray} {maxL : Nat} {ret : Option FieldType}
    (hy : plainFor y = true) (hw : ws = Cond.code y cc maxL ret :: ws')
    (body : ∀ p e s m args below meth c s₁, BodyLoose p l y (headSpec ws rm) cc maxL ret e s m args below meth c s₁ → c.maxLocals = maxL → Pc args s →
      W p l e (headSpec ws rm).room s m args below meth c s.heap [] 0 0 (MQ below Qc args s mc ms free) (entryFrame m args maxL)) : Met l y ws rm Pc Qc mc ms free := by
  refine MetFree.of_bodySF (code := cc) (maxLocals := maxL) (ret := ret) hy ?_ ?_
  · intro args s m h hn
    obtain ⟨meth, c, h1, h2, h3, h4, h5, h6, -, -⟩ := Cond.code_spec hn (atoms_spec (ws := ws) h _ (by rw [hw]; exact List.mem_cons_self))
    exact ⟨meth, c, h1, h2, h3, h4, h5, h6⟩
  · intro p e s m args below meth c s₁ B hml hP _
    have hh0 : s₁.heap = s.heap := by rw [B.state]; rfl
    obtain ⟨t, a1, o, b1, b2, b3⟩ := body p e s m args below meth c s₁ B hml hP s₁ hh0 (Stand.of_body B)
    exact ⟨t, o, a1, b1, b2, ⟨b3.1, b3.2⟩⟩
/-- a method's judgement from its entry is its contract -/
theorem met_of {g : Gh} {M : Md} {mc ms n : Nat} {as : List Vv} {rp : RPt} {hp : HPt} {P : Pst} (l : Launch) (hy : plainFor (mY M) = true) (hw : wdL as ≤ mL M) (hV : V g M mc ms 0 0 n 0 (inL as (mL M)) [] rp hp P) : Met l (mY M) (MS M) (rmM M mc ms) (Px g as n rp hp) (Qx g P) mc ms (Af g) := by
  refine met_ofF (cc := mC M) (maxL := mL M) (ret := mR M) hy rfl ?_
  intro p e s m args below meth c s₁ B hml hv
  obtain ⟨rfl, hH, hSX⟩ := hv
  have hts := atoms_spec (ws := MS M) B.pre
  have hin : meth.name = (mY M).name := (name_of_methodNamed B.named B.method).1
  have C : CX g M mc ms p (headSpec (MS M) (rmM M mc ms)).room s m (as.map (trv g)).toArray meth c := ⟨B.exec, B.bytes, B.returns, hml, findClass_of_methodNamed B.named, fun w h => hts w (List.mem_cons_of_mem _ h), B.notSynchronized, hin, hSX, ⟨Nat.le_refl _, Nat.le_refl _, Nat.le_refl _, Nat.le_refl _⟩, by rw [hH.2.1]; exact Nat.le_add_right _ _⟩
  have hl := lv_entry (as.map (trv g)) (n := mL M) (by rw [wdL_sl]; exact hw)
  rw [lg_entry_eq]
  refine hV p l e _ s m _ below meth c _ C ?_ s.heap [] _ hH va_S.rf ⟨hl.1, hl.2.1, fun q hq => ?_⟩
  · intro v n' cu' su' rp' hp' H' locs' LS' pc' hP hcu hsu hH' hS' hret
    refine W.widen hcu hsu ?_
    have hq : ∀ t : State, t.heap = H' → Qx g P (as.map (trv g)).toArray s (.returned (v.map (trv g))) t := fun t ht => ⟨v, n', rp', hp', rfl, hP, by rw [ht]; exact hH', hS'.F ht⟩
    rcases hret with ⟨rfl, hr, hd⟩ | ⟨x, ty, rfl, hr, hx, hd⟩ | ⟨a, Cn, rfl, hr, hd⟩
    · exact W.vret B.exec B.bytes (B.returns.trans hr) (fun t ht _ => hq t ht) hS'.2.2 hd B.notSynchronized
    · exact W.zret B.exec B.bytes (B.returns.trans hr) hx (fun t ht _ => hq t ht) hS'.2.2 hd B.notSynchronized
    · exact W.aret (v := .ref (al g a)) B.exec B.bytes (B.returns.trans hr) (Or.inl ⟨Cn, rfl⟩) (Or.inr ⟨_, rfl⟩) (fun t ht _ => hq t ht) hS'.2.2 hd B.notSynchronized
  · obtain ⟨v, h1, h2⟩ := cvL_mem.mp hq
    have h3 := inL_mem (g := g) as (mL M) 0 q.1 v h1
    rw [Nat.zero_add, ← h2] at h3
    exact hl.2.2 q h3
section RC
variable {g : Gh} {M J : Md} {mc ms cu su n pc mcj msj : Nat} {L : List (Option Vv)} {st : List Vv} {rp : RPt} {hp : HPt} {P PJ : Pst}
variable {p : Program} {l : Launch} {e : Env} {R : Room} {s : State} {m : MethodId} {args : Array Value} {below : List Frame} {meth : Method} {c : Code} {Q : State → Prop} {H : Heap} {locs : List Loc} {LS : Array Slot}
/-- behind a call -/
theorem w_call {rest : List Value} {st0 : List Value} {a : Array Value} {pc : Nat} (hr : va_Run p l e R s m args below meth c H locs cu su mcj msj (F0 m pc LS st0) rest (Qx g PJ a) (Af g)) (hS : va_S (Af g) s.heap H locs)
    (kk : ∀ (v : Option Vv) (n' : Nat) (rp' : RPt) (hp' : HPt) (H1 : Heap) (locs1 : List Loc), PJ v n' rp' hp' → HX g n' rp' hp' H1 → va_S (Af g) s.heap H1 locs1 → W p l e R s m args below meth c H1 locs1 (cu + mcj) (su + msj) Q (F0 m (pc + 3) LS ((v.map (trv g)).toList ++ rest))) : W p l e R s m args below meth c H locs cu su Q (F0 m pc LS st0) := by
  intro T hT X
  obtain ⟨v, st₀, t, T', L, h0, X', hL, e1, e2, ⟨w, n', rp', hp', hv, hP, hH, hz, hk⟩, st⟩ := hr T hT X
  have hv : v = w.map (trv g) := by cases hv; rfl
  subst hv
  rw [h0] at hz hk
  obtain ⟨t2, a1, b1⟩ := kk w n' rp' hp' T'.heap (locs ++ L) hP (by rw [e1]; exact hH)
    ⟨Nat.le_trans hS.1 (by rw [e1]; exact hz), fun q h1 h2 => by rw [e1, hk q (Nat.lt_of_lt_of_le h1 hS.1) h2]; exact hS.2.1 q h1 h2, fun q hq => by
      rcases List.mem_append.mp hq with h | h
      · exact hS.2.2 q h
      · exact hL q h⟩ T' rfl X'
  exact ⟨t2, st t2 a1, b1⟩
theorem c_blind {as : List Vv} : FrameBlind (Px g as n rp hp) := by
  intro a U gg mk q
  obtain ⟨q0, q1, q2⟩ := q
  exact ⟨q0, q1, q2.same rfl rfl⟩
theorem c_preS {as : List Vv} (C : CX g M mc ms p R s m args meth c) (hH : HX g n rp hp H) (hS : va_S (Af g) s.heap H locs) : PreS s H (Px g as n rp hp) (as.map (trv g)) := by
  refine ⟨c_blind, fun U hU hW => ⟨rfl, by rw [hU]; exact hH, ?_⟩⟩
  exact C.2.2.2.2.2.2.2.2.1.warm hS hU hW
theorem c_preV {as : List Vv} {b : A4} {ci : Nat} {q : vw_C} (C : CX g M mc ms p R s m args meth c) (hH : HX g n rp hp H) (hS : va_S (Af g) s.heap H locs) (hob : okd b.1 = some ci) (hc : vwCl[ci]? = some q) (hlv : lvp n b) : PreV s H q.1 (al g b) (Px g (vR b :: as) n rp hp) (as.map (trv g)) := by
  refine ⟨c_blind, ?_, fun U hU hW => ⟨rfl, by rw [hU]; exact hH, C.2.2.2.2.2.2.2.2.1.warm hS hU hW⟩⟩
  have he := wl_get (g := g) (rp := rp) (hp := hp) hH.2.2 hlv
  rw [cn_ob hob] at he
  exact va_recv C.2.2.2.2.2.2.2.2.1.1 hH.1 hc he
/-- the facts of a call's method: its words among the tables', its number of parameters, its room below the caller's -/
def CLo (M J : Md) (k : Nat) : Prop := plainFor (mY J) = true ∧ Cond.code (mY J) (mC J) (mL J) (mR J) ∈ lw_good ∧ (mK J ≠ "java/lang/invoke/MethodHandle" ∧ mK J ≠ "java/lang/invoke/VarHandle") ∧ (parseMethodDescriptor (mY J).desc).map (fun d => d.parameters.length) = some k ∧ mF J + 1 ≤ mF M ∧ 8 + (mL J + 11) + mW J ≤ mW M ∧ Cond.initialized (mK J) ∈ lw_good
theorem c_good (hc : Cond.code (mY J) (mC J) (mL J) (mR J) ∈ lw_good) : GoodIn lw_good (MS J) := by
  intro w hw
  rcases List.mem_cons.mp hw with rfl | hw
  · exact ⟨hc, gd_ok hc⟩
  · exact ⟨hw, gd_ok hw⟩
theorem c_room (C : CX g M mc ms p R s m args meth c) {k : Nat} (h : CLo M J k) : (rmM J mcj msj).frames + 1 ≤ R.frames ∧ 8 + (mL J + 11) + (rmM J mcj msj).locals ≤ R.locals := by
  have hR := C.2.2.2.2.2.2.2.2.2.1
  exact ⟨Nat.le_trans h.2.2.2.2.1 hR.1, Nat.le_trans h.2.2.2.2.2.1 hR.2.1⟩
theorem c_budget (C : CX g M mc ms p R s m args meth c) (h1 : cu + mcj ≤ mc) (h2 : su + msj ≤ ms) : cu + mcj ≤ R.cells ∧ su + msj ≤ R.slots := by
  have hR := C.2.2.2.2.2.2.2.2.2.1
  exact ⟨Nat.le_trans h1 hR.2.2.1, Nat.le_trans h2 hR.2.2.2⟩
theorem c_cat {st : List Vv} (h : (st.map fun v => (trv g v).category).sum ≤ 8) : ((st.map (trv g)).map fun v => v.category).sum ≤ 8 := by
  rw [List.map_map]
  exact h
theorem c_fin (C : CX g M mc ms p R s m args meth c) (RT : ∀ (v : Option Vv) (n' cu' su' : Nat) (rp' : RPt) (hp' : HPt) (H' : Heap) (locs' : List Loc) (LS' : Array Slot) (pc' : Nat), P v n' rp' hp' → cu' ≤ mc → su' ≤ ms → HX g n' rp' hp' H' → va_S (Af g) s.heap H' locs' → RTt M v pc' →
      W p l e R s m args below meth c H' locs' cu' su' Q (F0 m pc' LS' (v.toList.map (trv g)))) (hl : lv_has LS (mL M) (cvL g L))
    (k : ∀ v n' rp' hp', PJ v n' rp' hp' → V g M mc ms (cu + mcj) (su + msj) n' (pc + 3) L (v.toList ++ st) rp' hp' P) : ∀ (v : Option Vv) (n' : Nat) (rp' : RPt) (hp' : HPt) (H1 : Heap) (locs1 : List Loc), PJ v n' rp' hp' → HX g n' rp' hp' H1 → va_S (Af g) s.heap H1 locs1 → W p l e R s m args below meth c H1 locs1 (cu + mcj) (su + msj) Q (F0 m (pc + 3) LS ((v.map (trv g)).toList ++ st.map (trv g))) := by
  intro v n' rp' hp' H1 locs1 hP hH1 hS1
  have h := k v n' rp' hp' hP p l e R s m args below meth c Q C RT H1 locs1 LS hH1 hS1 hl
  cases v <;> exact h
theorem c_stk {as : List Vv} {b : Vv} : (as.reverse ++ b :: st).map (trv g) = (as.map (trv g)).reverse ++ trv g b :: st.map (trv g) := by
  rw [List.map_append, List.map_reverse, List.map_cons]
theorem c_stkS {as : List Vv} : (as.reverse ++ st).map (trv g) = (as.map (trv g)).reverse ++ st.map (trv g) := by
  rw [List.map_append, List.map_reverse]
/-- invokevirtual, the method linked plainly -/
theorem r_callV {as : List Vv} {b : A4} {idx ci k : Nat} {q : vw_C} {S : List Vv} (hd : decode (mC M) pc = .ok (.invokevirtual idx, 3)) (co : CLo M J k) (w1 : Cond.methodLink (mK M) idx (mY J) ∈ lw_good) (w2 : Cond.instanceMethod (mY J) ∈ lw_good) (w3 : Cond.selects (mK J) (mY J) (mY J) ∈ lw_good) (hob : okd b.1 = some ci) (hc : vwCl[ci]? = some q) (hq : q.1 = mK J) (hS0 : S = as.reverse ++ vR b :: st) (hlv : lvp n b) (hk : as.length = k) (hcat : (st.map fun v => (trv g v).category).sum ≤ 8) (hb1 : cu + mcj ≤ mc) (hb2 : su + msj ≤ ms) (hwd : wdL (vR b :: as) ≤ mL J)
    (hJ : V g J mcj msj 0 0 n 0 (inL (vR b :: as) (mL J)) [] rp hp PJ) (kk : ∀ v n' rp' hp', PJ v n' rp' hp' → V g M mc ms (cu + mcj) (su + msj) n' (pc + 3) L (v.toList ++ st) rp' hp' P) : V g M mc ms cu su n pc L S rp hp P := by
  subst hS0
  intro p l e R s m args below meth c Q C RT H locs LS hH hS hl
  rw [c_stk]
  have hp0 := c_preV (as := as) C hH hS hob hc hlv
  rw [hq] at hp0
  exact w_call (va_runV (As := as.map (trv g)) (rest := st.map (trv g)) ⟨C.1, C.2.1, C.2.2.2.1, C.2.2.2.2.1, C.2.2.2.2.2.1⟩ (met_of l co.1 hwd hJ) (cwV k C.2.2.2.2.2.1 (fun w hw => by
      rcases List.mem_append.mp hw with h | h
      · have hm : w ∈ lw_good := by
          simp only [List.mem_cons, List.not_mem_nil, or_false] at h
          rcases h with rfl | rfl | rfl | rfl
          · exact w1
          · exact w2
          · exact w3
          · exact co.2.2.2.2.2.2
        exact ⟨hm, gd_ok hm⟩
      · exact c_good co.2.1 w h) rfl rfl rfl ⟨rfl, co.2.2.1.1, co.2.2.1.2, co.2.2.2.1⟩ (c_room C co)) hp0 rfl (by rw [List.length_map]; exact hk) (by rw [← C.2.2.2.1, C.2.2.2.1]; exact hl.1) rfl (lv_room (c_cat hcat)) hd (c_budget C hb1 hb2)) hS (c_fin C RT hl kk)
/-- invokevirtual of a nest mate's private method -/
theorem r_callVN {as : List Vv} {b : A4} {idx ci k : Nat} {host : String} {q : vw_C} {S : List Vv} (hd : decode (mC M) pc = .ok (.invokevirtual idx, 3)) (co : CLo M J k) (w1 : Cond.methodLinkNest (mK M) idx (mY J) host ∈ lw_nest) (w2 : Cond.instanceMethod (mY J) ∈ lw_good) (w3 : Cond.selects (mK J) (mY J) (mY J) ∈ lw_good) (hob : okd b.1 = some ci) (hc : vwCl[ci]? = some q) (hq : q.1 = mK J) (hS0 : S = as.reverse ++ vR b :: st) (hlv : lvp n b) (hk : as.length = k) (hcat : (st.map fun v => (trv g v).category).sum ≤ 8) (hb1 : cu + mcj ≤ mc) (hb2 : su + msj ≤ ms) (hwd : wdL (vR b :: as) ≤ mL J)
    (hJ : V g J mcj msj 0 0 n 0 (inL (vR b :: as) (mL J)) [] rp hp PJ) (kk : ∀ v n' rp' hp', PJ v n' rp' hp' → V g M mc ms (cu + mcj) (su + msj) n' (pc + 3) L (v.toList ++ st) rp' hp' P) : V g M mc ms cu su n pc L S rp hp P := by
  subst hS0
  intro p l e R s m args below meth c Q C RT H locs LS hH hS hl
  rw [c_stk]
  have hp0 := c_preV (as := as) C hH hS hob hc hlv
  rw [hq] at hp0
  exact w_call (va_runVN (As := as.map (trv g)) (rest := st.map (trv g)) ⟨C.1, C.2.1, C.2.2.2.1, C.2.2.2.2.1, C.2.2.2.2.2.1⟩ (met_of l co.1 hwd hJ) ⟨va_cnB k C.2.2.2.2.2.1 (c_good co.2.1) rfl rfl rfl (C.2.2.2.2.2.2.2.2.1.2.1 _ w1) (C.2.2.2.2.2.1 _ co.2.2.2.2.2.2) ⟨co.2.2.1.1, co.2.2.1.2, co.2.2.2.1⟩ (c_room C co), C.2.2.2.2.2.1 _ w2, C.2.2.2.2.2.1 _ w3⟩ hp0 rfl (by rw [List.length_map]; exact hk) hl.1 rfl (lv_room (c_cat hcat)) hd (c_budget C hb1 hb2)) hS (c_fin C RT hl kk)
/-- invokestatic -/
theorem r_callS {as : List Vv} {idx k : Nat} {S : List Vv} (hd : decode (mC M) pc = .ok (.invokestatic idx, 3)) (co : CLo M J k) (w1 : Cond.methodLink (mK M) idx (mY J) ∈ lw_good) (w2 : Cond.static (mY J) ∈ lw_good) (hS0 : S = as.reverse ++ st) (hk : as.length = k) (hcat : (st.map fun v => (trv g v).category).sum ≤ 8) (hb1 : cu + mcj ≤ mc) (hb2 : su + msj ≤ ms) (hwd : wdL as ≤ mL J)
    (hJ : V g J mcj msj 0 0 n 0 (inL as (mL J)) [] rp hp PJ) (kk : ∀ v n' rp' hp', PJ v n' rp' hp' → V g M mc ms (cu + mcj) (su + msj) n' (pc + 3) L (v.toList ++ st) rp' hp' P) : V g M mc ms cu su n pc L S rp hp P := by
  subst hS0
  intro p l e R s m args below meth c Q C RT H locs LS hH hS hl
  rw [c_stkS]
  exact w_call (va_runS (As := as.map (trv g)) (rest := st.map (trv g)) ⟨C.1, C.2.1, C.2.2.2.1, C.2.2.2.2.1, C.2.2.2.2.2.1⟩ (met_of l co.1 hwd hJ) (va_cwS k C.2.2.2.2.2.1 (fun w hw => by
      rcases List.mem_append.mp hw with h | h
      · have hm : w ∈ lw_good := by
          simp only [List.mem_cons, List.not_mem_nil, or_false] at h
          rcases h with rfl | rfl | rfl
          · exact w1
          · exact w2
          · exact co.2.2.2.2.2.2
        exact ⟨hm, gd_ok hm⟩
      · exact c_good co.2.1 w h) rfl rfl rfl ⟨co.2.2.1.1, co.2.2.1.2, co.2.2.2.1⟩ (c_room C co)) (c_preS C hH hS) rfl (by rw [List.length_map]; exact hk) hl.1 rfl (lv_room (c_cat hcat)) hd (c_budget C hb1 hb2)) hS (c_fin C RT hl kk)
/-- invokestatic of a nest mate's private method -/
theorem r_callSN {as : List Vv} {idx k : Nat} {host : String} {S : List Vv} (hd : decode (mC M) pc = .ok (.invokestatic idx, 3)) (co : CLo M J k) (w1 : Cond.methodLinkNest (mK M) idx (mY J) host ∈ lw_nest) (w2 : Cond.static (mY J) ∈ lw_good) (hS0 : S = as.reverse ++ st) (hk : as.length = k) (hcat : (st.map fun v => (trv g v).category).sum ≤ 8) (hb1 : cu + mcj ≤ mc) (hb2 : su + msj ≤ ms) (hwd : wdL as ≤ mL J)
    (hJ : V g J mcj msj 0 0 n 0 (inL as (mL J)) [] rp hp PJ) (kk : ∀ v n' rp' hp', PJ v n' rp' hp' → V g M mc ms (cu + mcj) (su + msj) n' (pc + 3) L (v.toList ++ st) rp' hp' P) : V g M mc ms cu su n pc L S rp hp P := by
  subst hS0
  intro p l e R s m args below meth c Q C RT H locs LS hH hS hl
  rw [c_stkS]
  exact w_call (va_runSN (As := as.map (trv g)) (rest := st.map (trv g)) ⟨C.1, C.2.1, C.2.2.2.1, C.2.2.2.2.1, C.2.2.2.2.2.1⟩ (met_of l co.1 hwd hJ) ⟨va_cnB k C.2.2.2.2.2.1 (c_good co.2.1) rfl rfl rfl (C.2.2.2.2.2.2.2.2.1.2.1 _ w1) (C.2.2.2.2.2.1 _ co.2.2.2.2.2.2) ⟨co.2.2.1.1, co.2.2.1.2, co.2.2.2.1⟩ (c_room C co), C.2.2.2.2.2.1 _ w2, trivial⟩ (c_preS C hH hS) rfl (by rw [List.length_map]; exact hk) hl.1 rfl (lv_room (c_cat hcat)) hd (c_budget C hb1 hb2)) hS (c_fin C RT hl kk)
/-- a constructor, linked plainly -/
theorem r_callI {as : List Vv} {b : A4} {idx k : Nat} {S : List Vv} (hd : decode (mC M) pc = .ok (.invokespecial idx, 3)) (co : CLo M J k) (w1 : Cond.methodLink (mK M) idx (mY J) ∈ lw_good) (w2 : Cond.instanceMethod (mY J) ∈ lw_good) (hi : (mY J).name = "<init>") (hret : mR J = none) (hS0 : S = as.reverse ++ vR b :: st) (hk : as.length = k) (hcat : (st.map fun v => (trv g v).category).sum ≤ 8) (hb1 : cu + mcj ≤ mc) (hb2 : su + msj ≤ ms) (hwd : wdL (vR b :: as) ≤ mL J)
    (hJ : V g J mcj msj 0 0 n 0 (inL (vR b :: as) (mL J)) [] rp hp PJ) (kk : ∀ v n' rp' hp', PJ v n' rp' hp' → V g M mc ms (cu + mcj) (su + msj) n' (pc + 3) L (v.toList ++ st) rp' hp' P) : V g M mc ms cu su n pc L S rp hp P := by
  subst hS0
  intro p l e R s m args below meth c Q C RT H locs LS hH hS hl
  rw [c_stk]
  exact w_call (va_runI (As := as.map (trv g)) (rest := st.map (trv g)) ⟨C.1, C.2.1, C.2.2.2.1, C.2.2.2.2.1, C.2.2.2.2.2.1⟩ (met_of l co.1 hwd hJ) (cwI (bytes := mC J) (maxL := mL J) k C.2.2.2.2.2.1 (c_good co.2.1) (ws' := lw_good) (show Cond.code (mY J) (mC J) (mL J) (mR J) :: lw_good = _ by rw [hret]) rfl rfl (C.2.2.2.2.2.1 _ co.2.2.2.2.2.2) (C.2.2.2.2.2.1 _ w1) (C.2.2.2.2.2.1 _ w2) hi ⟨co.2.2.1.1, co.2.2.1.2, co.2.2.2.1⟩ (c_room C co)) (c_preS (as := vR b :: as) C hH hS) rfl (by rw [List.length_map]; exact hk) hl.1 rfl (lv_room (c_cat hcat)) hd (c_budget C hb1 hb2)) hS (c_fin C RT hl kk)
/-- a nest mate's private constructor -/
theorem r_callIN {as : List Vv} {b : A4} {idx k : Nat} {host : String} {S : List Vv} (hd : decode (mC M) pc = .ok (.invokespecial idx, 3)) (co : CLo M J k) (w1 : Cond.methodLinkNest (mK M) idx (mY J) host ∈ lw_nest) (w2 : Cond.instanceMethod (mY J) ∈ lw_good) (hi : (mY J).name = "<init>") (hret : mR J = none) (hS0 : S = as.reverse ++ vR b :: st) (hk : as.length = k) (hcat : (st.map fun v => (trv g v).category).sum ≤ 8) (hb1 : cu + mcj ≤ mc) (hb2 : su + msj ≤ ms) (hwd : wdL (vR b :: as) ≤ mL J)
    (hJ : V g J mcj msj 0 0 n 0 (inL (vR b :: as) (mL J)) [] rp hp PJ) (kk : ∀ v n' rp' hp', PJ v n' rp' hp' → V g M mc ms (cu + mcj) (su + msj) n' (pc + 3) L (v.toList ++ st) rp' hp' P) : V g M mc ms cu su n pc L S rp hp P := by
  subst hS0
  intro p l e R s m args below meth c Q C RT H locs LS hH hS hl
  rw [c_stk]
  exact w_call (va_runIN (As := as.map (trv g)) (rest := st.map (trv g)) ⟨C.1, C.2.1, C.2.2.2.1, C.2.2.2.2.1, C.2.2.2.2.2.1⟩ (met_of l co.1 hwd hJ) ⟨va_cnB (bytes := mC J) (maxL := mL J) (ret := none) k C.2.2.2.2.2.1 (c_good co.2.1) (ws' := lw_good) (show Cond.code (mY J) (mC J) (mL J) (mR J) :: lw_good = _ by rw [hret]) rfl rfl (C.2.2.2.2.2.2.2.2.1.2.1 _ w1) (C.2.2.2.2.2.1 _ co.2.2.2.2.2.2) ⟨co.2.2.1.1, co.2.2.1.2, co.2.2.2.1⟩ (c_room C co), hi, C.2.2.2.2.2.1 _ w2⟩ (c_preS (as := vR b :: as) C hH hS) rfl (by rw [List.length_map]; exact hk) hl.1 rfl (lv_room (c_cat hcat)) hd (c_budget C hb1 hb2)) hS (c_fin C RT hl kk)
end RC
end
section
/-- the names that the references hold, once all is made -/
def RP : RPt := fun a i => match a, i with
  | (0, t, _, _), 0 => some (1, t, 0, 0)
  | (0, t, _, _), 1 => some (2, t, 0, 0)
  | (0, t, _, _), 2 => some (3, t, 0, 0)
  | (1, t, _, _), j => some (4, t, j, 0)
  | (4, t, j, _), 0 => some (5, t, j, 0)
  | (4, t, j, _), 1 => some (5, t, j, 1)
  | (5, t, j, b), 0 => some (6, t, j, b)
  | (5, t, j, b), 1 => some (7, t, j, b)
  | (8, _, _, _), 0 => some (9, 0, 0, 0)
  | (9, _, _, _), i => some (0, i + 1, 0, 0)
  | (10, _, _, _), i => some (0, i + 8, 0, 0)
  | (12, _, _, _), 0 => some (13, 0, 0, 0)
  | (14, _, _, _), 0 => some (12, 0, 0, 0)
  | (15, _, _, _), 0 => some (0, 0, 0, 0)
  | (15, _, _, _), 1 => some (8, 0, 0, 0)
  | (15, _, _, _), 2 => some (10, 0, 0, 0)
  | (15, _, _, _), 3 => some (11, 0, 0, 0)
  | (15, _, _, _), 4 => some (12, 0, 0, 0)
  | (15, _, _, _), 5 => some (14, 0, 0, 0)
  | (16, _, _, _), 0 => some (17, 0, 0, 0)
  | (16, _, _, _), 1 => some (18, 0, 0, 0)
  | (16, _, _, _), 3 => some (19, 0, 0, 0)
  | (16, _, _, _), 4 => some (20, 0, 0, 0)
  | (16, _, _, _), 5 => some (21, 0, 0, 0)
  | (16, _, _, _), 7 => some (22, 0, 0, 0)
  | (16, _, _, _), 10 => some (23, 0, 0, 0)
  | _, _ => none
theorem lv_t : ∀ k, k < 4 → ∀ t, t < 10 → nm (pos (k, t, 0, 0)) = (k, t, 0, 0) ∧ pos (k, t, 0, 0) < 616 := by decide +kernel
theorem lv_s : ∀ t, t < 10 → ∀ j, j < 8 → nm (pos (4, t, j, 0)) = (4, t, j, 0) ∧ pos (4, t, j, 0) < 616 := by decide +kernel
theorem lv_h50 : ∀ t, t < 10 → ∀ j, j < 8 → nm (pos (5, t, j, 0)) = (5, t, j, 0) ∧ pos (5, t, j, 0) < 616 := by decide +kernel
theorem lv_h51 : ∀ t, t < 10 → ∀ j, j < 8 → nm (pos (5, t, j, 1)) = (5, t, j, 1) ∧ pos (5, t, j, 1) < 616 := by decide +kernel
theorem lv_h5 {t j b : Nat} (h : t < 10) (hj : j < 8) (hb : b < 2) : lvp 616 (5, t, j, b) := by
  match b, hb with
  | 0, _ => exact lv_h50 t h j hj
  | 1, _ => exact lv_h51 t h j hj
theorem lv_h60 : ∀ t, t < 10 → ∀ j, j < 8 → nm (pos (6, t, j, 0)) = (6, t, j, 0) ∧ pos (6, t, j, 0) < 616 := by decide +kernel
theorem lv_h61 : ∀ t, t < 10 → ∀ j, j < 8 → nm (pos (6, t, j, 1)) = (6, t, j, 1) ∧ pos (6, t, j, 1) < 616 := by decide +kernel
theorem lv_h6 {t j b : Nat} (h : t < 10) (hj : j < 8) (hb : b < 2) : lvp 616 (6, t, j, b) := by
  match b, hb with
  | 0, _ => exact lv_h60 t h j hj
  | 1, _ => exact lv_h61 t h j hj
theorem lv_h70 : ∀ t, t < 10 → ∀ j, j < 8 → nm (pos (7, t, j, 0)) = (7, t, j, 0) ∧ pos (7, t, j, 0) < 616 := by decide +kernel
theorem lv_h71 : ∀ t, t < 10 → ∀ j, j < 8 → nm (pos (7, t, j, 1)) = (7, t, j, 1) ∧ pos (7, t, j, 1) < 616 := by decide +kernel
theorem lv_h7 {t j b : Nat} (h : t < 10) (hj : j < 8) (hb : b < 2) : lvp 616 (7, t, j, b) := by
  match b, hb with
  | 0, _ => exact lv_h70 t h j hj
  | 1, _ => exact lv_h71 t h j hj
theorem lv_k : ∀ k, k < 16 → nm (pos (8 + k, 0, 0, 0)) = (8 + k, 0, 0, 0) ∧ pos (8 + k, 0, 0, 0) < 616 := by decide +kernel
theorem lv0 {t : Nat} (h : t < 10) : lvp 616 (0, t, 0, 0) := lv_t 0 (by decide) t h
theorem lv1 {t : Nat} (h : t < 10) : lvp 616 (1, t, 0, 0) := lv_t 1 (by decide) t h
theorem lv2 {t : Nat} (h : t < 10) : lvp 616 (2, t, 0, 0) := lv_t 2 (by decide) t h
theorem lv3 {t : Nat} (h : t < 10) : lvp 616 (3, t, 0, 0) := lv_t 3 (by decide) t h
theorem lv4 {t j : Nat} (h : t < 10) (hj : j < 8) : lvp 616 (4, t, j, 0) := lv_s t h j hj
theorem lv5 {t j b : Nat} (h : t < 10) (hj : j < 8) (hb : b < 2) : lvp 616 (5, t, j, b) := lv_h5 h hj hb
theorem lv6 {t j b : Nat} (h : t < 10) (hj : j < 8) (hb : b < 2) : lvp 616 (6, t, j, b) := lv_h6 h hj hb
theorem lv7 {t j b : Nat} (h : t < 10) (hj : j < 8) (hb : b < 2) : lvp 616 (7, t, j, b) := lv_h7 h hj hb
theorem lv8 : lvp 616 (8, 0, 0, 0) := lv_k 0 (by decide)
theorem lv9 : lvp 616 (9, 0, 0, 0) := lv_k 1 (by decide)
theorem lv10 : lvp 616 (10, 0, 0, 0) := lv_k 2 (by decide)
theorem lv11 : lvp 616 (11, 0, 0, 0) := lv_k 3 (by decide)
theorem lv12 : lvp 616 (12, 0, 0, 0) := lv_k 4 (by decide)
theorem lv13 : lvp 616 (13, 0, 0, 0) := lv_k 5 (by decide)
theorem lv14 : lvp 616 (14, 0, 0, 0) := lv_k 6 (by decide)
theorem lv15 : lvp 616 (15, 0, 0, 0) := lv_k 7 (by decide)
theorem lv16 : lvp 616 (16, 0, 0, 0) := lv_k 8 (by decide)
theorem lv17 : lvp 616 (17, 0, 0, 0) := lv_k 9 (by decide)
theorem lv18 : lvp 616 (18, 0, 0, 0) := lv_k 10 (by decide)
theorem lv19 : lvp 616 (19, 0, 0, 0) := lv_k 11 (by decide)
theorem lv20 : lvp 616 (20, 0, 0, 0) := lv_k 12 (by decide)
theorem lv21 : lvp 616 (21, 0, 0, 0) := lv_k 13 (by decide)
theorem lv22 : lvp 616 (22, 0, 0, 0) := lv_k 14 (by decide)
theorem lv23 : lvp 616 (23, 0, 0, 0) := lv_k 15 (by decide)
/-- answers: the ends of methods that make no cell -/
abbrev Pi (r : Int32) (h1 : HPt) : Pst := fun v n' rp' hp' => v = some (vI r) ∧ n' = 616 ∧ rp' = RP ∧ hp' = h1
abbrev Pv (h1 : HPt) : Pst := fun v n' rp' hp' => v = none ∧ n' = 616 ∧ rp' = RP ∧ hp' = h1
abbrev Pa (r : A4) (h1 : HPt) : Pst := fun v n' rp' hp' => v = some (vR r) ∧ n' = 616 ∧ rp' = RP ∧ hp' = h1
/-- contracts of methods that make no cell -/
def Ci (g : Gh) (J : Md) (as : List Vv) (hp : HPt) (r : Int32) (h1 : HPt) : Prop := V g J 0 0 0 0 616 0 (inL as (mL J)) [] RP hp (Pi r h1)
def Cv (g : Gh) (J : Md) (as : List Vv) (hp : HPt) (h1 : HPt) : Prop := V g J 0 0 0 0 616 0 (inL as (mL J)) [] RP hp (Pv h1)
def Ca (g : Gh) (J : Md) (as : List Vv) (hp : HPt) (r : A4) (h1 : HPt) : Prop := V g J 0 0 0 0 616 0 (inL as (mL J)) [] RP hp (Pa r h1)
abbrev mJ9_floorMod_7cf53 : Md := (yJ9_floorMod_7cf53, cJ9_floorMod_7cf53, 3, some .int, 0, 0)
abbrev mJ9_max_7cf53 : Md := (yJ9_max_7cf53, cJ9_max_7cf53, 2, some .int, 0, 0)
abbrev mJ9_min_7cf53 : Md := (yJ9_min_7cf53, cJ9_min_7cf53, 2, some .int, 0, 0)
abbrev mL_law : Md := (yL_law, cL_law, 4, some .boolean, 12, 272)
abbrev mX0_catches : Md := (yX0_catches, cX0_catches, 2, some .boolean, 2, 41)
abbrev mX0_copyHalf : Md := (yX0_copyHalf, cX0_copyHalf, 3, none, 0, 0)
abbrev mX0_freeRowOfNow : Md := (yX0_freeRowOfNow, cX0_freeRowOfNow, 2, none, 0, 0)
abbrev mX0_init : Md := (yX0_init, cX0_init, 1, none, 1, 20)
abbrev mX0_lies : Md := (yX0_lies, cX0_lies, 1, some .boolean, 0, 0)
abbrev mX0_partWith : Md := (yX0_partWith, cX0_partWith, 2, some .int, 0, 0)
abbrev mX0_tagDueFor : Md := (yX0_tagDueFor, cX0_tagDueFor, 2, some .int, 0, 0)
abbrev mX0_toldPart : Md := (yX0_toldPart, cX0_toldPart, 1, some .int, 1, 21)
abbrev mX0_toldTag : Md := (yX0_toldTag, cX0_toldTag, 1, some .int, 0, 0)
abbrev mX1_draft : Md := (yX1_draft, cX1_draft, 2, none, 3, 65)
abbrev mX1_init : Md := (yX1_init, cX1_init, 2, none, 4, 81)
abbrev mX1_recordDraft : Md := (yX1_recordDraft, cX1_recordDraft, 1, none, 0, 0)
abbrev mX1_takesBack : Md := (yX1_takesBack, cX1_takesBack, 2, some .boolean, 3, 65)
abbrev mX2_append : Md := (yX2_append, cX2_append, 5, some .int, 2, 45)
abbrev mX2_clear : Md := (yX2_clear, cX2_clear, 2, some .int, 0, 0)
abbrev mX2_codeIn : Md := (yX2_codeIn, cX2_codeIn, 3, some .int, 0, 0)
abbrev mX2_init : Md := (yX2_init, cX2_init, 1, none, 1, 20)
abbrev mX2_signAt : Md := (yX2_signAt, cX2_signAt, 2, some .char, 0, 0)
abbrev mX2_signsIn : Md := (yX2_signsIn, cX2_signsIn, 4, some .int, 1, 22)
abbrev mX3_digitRead : Md := (yX3_digitRead, cX3_digitRead, 2, some .int, 1, 21)
abbrev mX3_firstFault : Md := (yX3_firstFault, cX3_firstFault, 2, some .int, 6, 125)
abbrev mX3_goToStart : Md := (yX3_goToStart, cX3_goToStart, 1, none, 0, 0)
abbrev mX3_init : Md := (yX3_init, cX3_init, 2, none, 1, 20)
abbrev mX3_numberRead : Md := (yX3_numberRead, cX3_numberRead, 4, some .int, 2, 42)
abbrev mX3_reads : Md := (yX3_reads, cX3_reads, 2, some .boolean, 1, 21)
abbrev mX3_readsNextOrder : Md := (yX3_readsNextOrder, cX3_readsNextOrder, 1, some .boolean, 5, 105)
abbrev mX3_readsNumber : Md := (yX3_readsNumber, cX3_readsNumber, 1, some .boolean, 3, 65)
abbrev mX3_readsOffsets : Md := (yX3_readsOffsets, cX3_readsOffsets, 1, some .boolean, 4, 85)
abbrev mX3_readsSecret : Md := (yX3_readsSecret, cX3_readsSecret, 1, some .boolean, 2, 42)
abbrev mX3_readsStore : Md := (yX3_readsStore, cX3_readsStore, 2, some .boolean, 1, 21)
abbrev mX3_readsVersion : Md := (yX3_readsVersion, cX3_readsVersion, 1, some .boolean, 4, 85)
abbrev mX4_ageKeeping : Md := (yX4_ageKeeping, cX4_ageKeeping, 3, some .int, 1, 21)
abbrev mX4_answerIfMerged : Md := (yX4_answerIfMerged, cX4_answerIfMerged, 1, some .int, 3, 62)
abbrev mX4_copySecret : Md := (yX4_copySecret, cX4_copySecret, 2, none, 1, 22)
abbrev mX4_halfBeside : Md := (yX4_halfBeside, cX4_halfBeside, 2, some (.object "SplitSecrets$Half"), 0, 0)
abbrev mX4_halfIn : Md := (yX4_halfIn, cX4_halfIn, 2, some (.object "SplitSecrets$Half"), 0, 0)
abbrev mX4_init : Md := (yX4_init, cX4_init, 1, none, 2, 40)
abbrev mX4_open : Md := (yX4_open, cX4_open, 3, none, 0, 0)
abbrev mX4_partForThief : Md := (yX4_partForThief, cX4_partForThief, 4, some .int, 1, 21)
abbrev mX4_rowsAtRisk : Md := (yX4_rowsAtRisk, cX4_rowsAtRisk, 3, some .int, 0, 0)
abbrev mX4_takenSet : Md := (yX4_takenSet, cX4_takenSet, 2, some .int, 0, 0)
abbrev mX4_value : Md := (yX4_value, cX4_value, 1, some .int, 0, 0)
abbrev mX5_admit : Md := (yX5_admit, cX5_admit, 2, some .int, 2, 46)
abbrev mX5_answerOfMerger : Md := (yX5_answerOfMerger, cX5_answerOfMerger, 2, some .int, 4, 82)
abbrev mX5_burnOldVersions : Md := (yX5_burnOldVersions, cX5_burnOldVersions, 3, some .int, 1, 21)
abbrev mX5_changeSetting : Md := (yX5_changeSetting, cX5_changeSetting, 4, some .int, 0, 0)
abbrev mX5_changeX : Md := (yX5_changeX, cX5_changeX, 3, some .int, 0, 0)
abbrev mX5_copyState : Md := (yX5_copyState, cX5_copyState, 3, none, 2, 43)
abbrev mX5_drawn : Md := (yX5_drawn, cX5_drawn, 1, some .int, 0, 0)
abbrev mX5_figure : Md := (yX5_figure, cX5_figure, 2, some .int, 1, 22)
abbrev mX5_figureOfHalf : Md := (yX5_figureOfHalf, cX5_figureOfHalf, 5, some .int, 2, 43)
abbrev mX5_figureOfOldVersion : Md := (yX5_figureOfOldVersion, cX5_figureOfOldVersion, 6, some .int, 1, 21)
abbrev mX5_figureOfSecret : Md := (yX5_figureOfSecret, cX5_figureOfSecret, 4, some .int, 1, 21)
abbrev mX5_givePartToThief : Md := (yX5_givePartToThief, cX5_givePartToThief, 5, some .int, 2, 44)
abbrev mX5_hasHalf : Md := (yX5_hasHalf, cX5_hasHalf, 3, some .boolean, 1, 21)
abbrev mX5_hasSecret : Md := (yX5_hasSecret, cX5_hasSecret, 2, some .boolean, 0, 0)
abbrev mX5_init : Md := (yX5_init, cX5_init, 2, none, 3, 60)
abbrev mX5_makeNextVersion : Md := (yX5_makeNextVersion, cX5_makeNextVersion, 3, none, 2, 46)
abbrev mX5_makeVersion : Md := (yX5_makeVersion, cX5_makeVersion, 5, none, 1, 22)
abbrev mX5_mergeParts : Md := (yX5_mergeParts, cX5_mergeParts, 4, some .int, 5, 103)
abbrev mX5_offsetsThatPass : Md := (yX5_offsetsThatPass, cX5_offsetsThatPass, 6, some .int, 3, 68)
abbrev mX5_otherPartFor : Md := (yX5_otherPartFor, cX5_otherPartFor, 4, some .int, 2, 43)
abbrev mX5_partsNeeded : Md := (yX5_partsNeeded, cX5_partsNeeded, 2, some .int, 1, 22)
abbrev mX5_passBeats : Md := (yX5_passBeats, cX5_passBeats, 4, some .int, 4, 89)
abbrev mX5_passOneBeat : Md := (yX5_passOneBeat, cX5_passOneBeat, 2, none, 3, 68)
abbrev mX5_renew : Md := (yX5_renew, cX5_renew, 3, some .int, 3, 68)
abbrev mX5_setOfKnown : Md := (yX5_setOfKnown, cX5_setOfKnown, 3, some .int, 0, 0)
abbrev mX5_setOfOpen : Md := (yX5_setOfOpen, cX5_setOfOpen, 3, some .int, 0, 0)
abbrev mX5_someStoreSleeps : Md := (yX5_someStoreSleeps, cX5_someStoreSleeps, 1, some .boolean, 0, 0)
abbrev mX5_tagOffsetThatPasses : Md := (yX5_tagOffsetThatPasses, cX5_tagOffsetThatPasses, 6, some .int, 2, 43)
abbrev mX5_takeUpLie : Md := (yX5_takeUpLie, cX5_takeUpLie, 7, some .int, 2, 43)
abbrev mX5_turnSleep : Md := (yX5_turnSleep, cX5_turnSleep, 2, some .int, 1, 20)
abbrev mX5_versionNow : Md := (yX5_versionNow, cX5_versionNow, 2, some .int, 1, 21)
abbrev mX5_versionsAtRisk : Md := (yX5_versionsAtRisk, cX5_versionsAtRisk, 2, some .int, 1, 22)
abbrev mX6_answerOfOrder : Md := (yX6_answerOfOrder, cX6_answerOfOrder, 1, some .int, 6, 126)
abbrev mX6_atRisk : Md := (yX6_atRisk, cX6_atRisk, 2, some .int, 2, 43)
abbrev mX6_burn : Md := (yX6_burn, cX6_burn, 2, some .int, 4, 86)
abbrev mX6_carryOut : Md := (yX6_carryOut, cX6_carryOut, 2, some .int, 7, 146)
abbrev mX6_count : Md := (yX6_count, cX6_count, 2, some .int, 2, 43)
abbrev mX6_fault : Md := (yX6_fault, cX6_fault, 1, some .int, 7, 146)
abbrev mX6_ifMerged : Md := (yX6_ifMerged, cX6_ifMerged, 2, some .int, 5, 103)
abbrev mX6_init : Md := (yX6_init, cX6_init, 2, none, 5, 102)
abbrev mX6_isPart : Md := (yX6_isPart, cX6_isPart, 1, some .boolean, 0, 0)
abbrev mX6_isSlot : Md := (yX6_isSlot, cX6_isSlot, 1, some .boolean, 0, 0)
abbrev mX6_isStore : Md := (yX6_isStore, cX6_isStore, 1, some .boolean, 0, 0)
abbrev mX6_isTag : Md := (yX6_isTag, cX6_isTag, 1, some .boolean, 0, 0)
abbrev mX6_keep : Md := (yX6_keep, cX6_keep, 2, some .int, 4, 86)
abbrev mX6_lie : Md := (yX6_lie, cX6_lie, 5, some .int, 4, 86)
abbrev mX6_merge : Md := (yX6_merge, cX6_merge, 2, some .int, 6, 126)
abbrev mX6_needed : Md := (yX6_needed, cX6_needed, 2, some .int, 2, 43)
abbrev mX6_of : Md := (yX6_of, cX6_of, 4, some .int, 3, 67)
abbrev mX6_ofSecret : Md := (yX6_ofSecret, cX6_ofSecret, 3, some .int, 2, 44)
abbrev mX6_old : Md := (yX6_old, cX6_old, 4, some .int, 2, 46)
abbrev mX6_otherwise : Md := (yX6_otherwise, cX6_otherwise, 4, some .int, 3, 66)
abbrev mX6_pass : Md := (yX6_pass, cX6_pass, 2, some .int, 5, 112)
abbrev mX6_passes : Md := (yX6_passes, cX6_passes, 4, some .int, 4, 93)
abbrev mX6_passing : Md := (yX6_passing, cX6_passing, 4, some .int, 3, 68)
abbrev mX6_put : Md := (yX6_put, cX6_put, 3, some .int, 3, 69)
abbrev mX6_recorded : Md := (yX6_recorded, cX6_recorded, 2, some .int, 1, 20)
abbrev mX6_refresh : Md := (yX6_refresh, cX6_refresh, 2, some .int, 4, 90)
abbrev mX6_restore : Md := (yX6_restore, cX6_restore, 2, some .int, 4, 86)
abbrev mX6_save : Md := (yX6_save, cX6_save, 2, some .int, 3, 65)
abbrev mX6_seed : Md := (yX6_seed, cX6_seed, 2, some .int, 4, 86)
abbrev mX6_set : Md := (yX6_set, cX6_set, 3, some .int, 4, 86)
abbrev mX6_sleep : Md := (yX6_sleep, cX6_sleep, 2, some .int, 4, 86)
abbrev mX6_steal : Md := (yX6_steal, cX6_steal, 4, some .int, 4, 86)
abbrev mX6_undo : Md := (yX6_undo, cX6_undo, 1, some .int, 4, 86)
abbrev mX6_versionOfOrder : Md := (yX6_versionOfOrder, cX6_versionOfOrder, 1, some .int, 2, 42)
abbrev mX6_wipe : Md := (yX6_wipe, cX6_wipe, 1, some .int, 1, 21)
abbrev mX7_areAwake : Md := (yX7_areAwake, cX7_areAwake, 1, some .boolean, 0, 0)
abbrev mX7_at : Md := (yX7_at, cX7_at, 3, some .int, 1, 21)
abbrev mX7_atRisk : Md := (yX7_atRisk, cX7_atRisk, 2, some .int, 3, 66)
abbrev mX7_beat : Md := (yX7_beat, cX7_beat, 2, none, 4, 93)
abbrev mX7_burn : Md := (yX7_burn, cX7_burn, 2, some .int, 10, 229)
abbrev mX7_burns : Md := (yX7_burns, cX7_burns, 5, some .int, 2, 43)
abbrev mX7_burnt : Md := (yX7_burnt, cX7_burnt, 2, some .int, 3, 67)
abbrev mX7_canRefresh : Md := (yX7_canRefresh, cX7_canRefresh, 2, some .boolean, 2, 43)
abbrev mX7_carryOut : Md := (yX7_carryOut, cX7_carryOut, 3, some .int, 11, 250)
abbrev mX7_cell : Md := (yX7_cell, cX7_cell, 2, some .int, 0, 0)
abbrev mX7_count : Md := (yX7_count, cX7_count, 2, some .int, 2, 44)
abbrev mX7_does : Md := (yX7_does, cX7_does, 6, some .int, 8, 178)
abbrev mX7_draw : Md := (yX7_draw, cX7_draw, 2, some .int, 0, 0)
abbrev mX7_fault : Md := (yX7_fault, cX7_fault, 2, some .int, 11, 250)
abbrev mX7_goes : Md := (yX7_goes, cX7_goes, 6, some .int, 10, 225)
abbrev mX7_ifMerged : Md := (yX7_ifMerged, cX7_ifMerged, 2, some .int, 7, 156)
abbrev mX7_in : Md := (yX7_in, cX7_in, 3, some .boolean, 0, 0)
abbrev mX7_init : Md := (yX7_init, cX7_init, 1, none, 1, 20)
abbrev mX7_isDone : Md := (yX7_isDone, cX7_isDone, 3, some .boolean, 9, 203)
abbrev mX7_isLiedAbout : Md := (yX7_isLiedAbout, cX7_isLiedAbout, 2, some .boolean, 1, 21)
abbrev mX7_isNext : Md := (yX7_isNext, cX7_isNext, 2, some .boolean, 0, 0)
abbrev mX7_isPassed : Md := (yX7_isPassed, cX7_isPassed, 6, some .boolean, 4, 88)
abbrev mX7_isPassedNow : Md := (yX7_isPassedNow, cX7_isPassedNow, 3, some .boolean, 5, 113)
abbrev mX7_isSecret : Md := (yX7_isSecret, cX7_isSecret, 2, some .boolean, 1, 22)
abbrev mX7_isStore : Md := (yX7_isStore, cX7_isStore, 1, some .boolean, 1, 22)
abbrev mX7_keep : Md := (yX7_keep, cX7_keep, 2, some .int, 10, 229)
abbrev mX7_keeps : Md := (yX7_keeps, cX7_keeps, 2, some .int, 3, 68)
abbrev mX7_lie : Md := (yX7_lie, cX7_lie, 5, some .int, 10, 229)
abbrev mX7_lies : Md := (yX7_lies, cX7_lies, 6, some .int, 2, 43)
abbrev mX7_looks : Md := (yX7_looks, cX7_looks, 2, none, 0, 0)
abbrev mX7_makes : Md := (yX7_makes, cX7_makes, 6, none, 2, 43)
abbrev mX7_merge : Md := (yX7_merge, cX7_merge, 2, some .int, 10, 229)
abbrev mX7_merged : Md := (yX7_merged, cX7_merged, 2, some .int, 6, 135)
abbrev mX7_merges : Md := (yX7_merges, cX7_merges, 3, some .int, 7, 156)
abbrev mX7_needed : Md := (yX7_needed, cX7_needed, 2, some .int, 3, 66)
abbrev mX7_of : Md := (yX7_of, cX7_of, 6, some .int, 4, 88)
abbrev mX7_ofSecret : Md := (yX7_ofSecret, cX7_ofSecret, 3, some .int, 2, 43)
abbrev mX7_old : Md := (yX7_old, cX7_old, 4, some .int, 2, 43)
abbrev mX7_otherwise : Md := (yX7_otherwise, cX7_otherwise, 4, some .int, 3, 65)
abbrev mX7_partOf : Md := (yX7_partOf, cX7_partOf, 3, some .int, 2, 43)
abbrev mX7_pass : Md := (yX7_pass, cX7_pass, 2, some .int, 10, 229)
abbrev mX7_passes : Md := (yX7_passes, cX7_passes, 4, some .int, 5, 114)
abbrev mX7_passes_ : Md := (yX7_passes_, cX7_passes_, 6, some .int, 5, 113)
abbrev mX7_passing : Md := (yX7_passing, cX7_passing, 5, some .int, 5, 113)
abbrev mX7_pushes : Md := (yX7_pushes, cX7_pushes, 2, none, 0, 0)
abbrev mX7_put : Md := (yX7_put, cX7_put, 8, some .int, 1, 22)
abbrev mX7_rankOf : Md := (yX7_rankOf, cX7_rankOf, 5, some .int, 2, 43)
abbrev mX7_readOrder : Md := (yX7_readOrder, cX7_readOrder, 4, none, 4, 90)
abbrev mX7_record : Md := (yX7_record, cX7_record, 1, none, 1, 21)
abbrev mX7_refresh : Md := (yX7_refresh, cX7_refresh, 2, some .int, 10, 229)
abbrev mX7_refreshed : Md := (yX7_refreshed, cX7_refreshed, 2, some .int, 4, 93)
abbrev mX7_refreshes : Md := (yX7_refreshes, cX7_refreshes, 6, none, 3, 68)
abbrev mX7_restore : Md := (yX7_restore, cX7_restore, 3, some .int, 2, 41)
abbrev mX7_save : Md := (yX7_save, cX7_save, 3, some .int, 1, 22)
abbrev mX7_seed : Md := (yX7_seed, cX7_seed, 3, some .int, 2, 41)
abbrev mX7_set : Md := (yX7_set, cX7_set, 5, some .int, 2, 41)
abbrev mX7_setOf : Md := (yX7_setOf, cX7_setOf, 4, some .int, 1, 21)
abbrev mX7_sleep : Md := (yX7_sleep, cX7_sleep, 2, some .int, 10, 229)
abbrev mX7_sleeps : Md := (yX7_sleeps, cX7_sleeps, 2, some .int, 2, 42)
abbrev mX7_steal : Md := (yX7_steal, cX7_steal, 4, some .int, 10, 229)
abbrev mX7_steals : Md := (yX7_steals, cX7_steals, 7, some .int, 3, 67)
abbrev mX7_tagOf : Md := (yX7_tagOf, cX7_tagOf, 3, some .int, 3, 65)
abbrev mX7_takes : Md := (yX7_takes, cX7_takes, 4, some .int, 1, 22)
abbrev mX7_takesBehind : Md := (yX7_takesBehind, cX7_takesBehind, 4, some .int, 3, 67)
abbrev mX7_takesNumber : Md := (yX7_takesNumber, cX7_takesNumber, 3, some .int, 2, 45)
abbrev mX7_toldPart : Md := (yX7_toldPart, cX7_toldPart, 4, some .int, 3, 65)
abbrev mX7_tries : Md := (yX7_tries, cX7_tries, 7, some .int, 9, 203)
abbrev mX7_undo : Md := (yX7_undo, cX7_undo, 2, some .int, 0, 0)
abbrev mX7_versionsAtRisk : Md := (yX7_versionsAtRisk, cX7_versionsAtRisk, 4, some .int, 2, 43)
abbrev mX7_wipe : Md := (yX7_wipe, cX7_wipe, 2, some .int, 0, 0)
end
section
theorem wd_0 : Cond.selects RX1 yX1_draft yX1_draft ∈ lw_good := gd_i 0 (by decide +kernel) (by decide +kernel)
theorem wd_1 : Cond.selects RX5 yX5_copyState yX5_copyState ∈ lw_good := gd_i 1 (by decide +kernel) (by decide +kernel)
theorem wd_2 : Cond.selects RX4 yX4_copySecret yX4_copySecret ∈ lw_good := gd_i 2 (by decide +kernel) (by decide +kernel)
theorem wd_3 : Cond.selects RX0 yX0_copyHalf yX0_copyHalf ∈ lw_good := gd_i 3 (by decide +kernel) (by decide +kernel)
theorem wd_4 : Cond.selects RX5 yX5_changeSetting yX5_changeSetting ∈ lw_good := gd_i 4 (by decide +kernel) (by decide +kernel)
theorem wd_5 : Cond.selects RX6 yX6_recorded yX6_recorded ∈ lw_good := gd_i 5 (by decide +kernel) (by decide +kernel)
theorem wd_6 : Cond.selects RX1 yX1_recordDraft yX1_recordDraft ∈ lw_good := gd_i 6 (by decide +kernel) (by decide +kernel)
theorem wd_7 : Cond.selects RX5 yX5_changeX yX5_changeX ∈ lw_good := gd_i 7 (by decide +kernel) (by decide +kernel)
theorem wd_8 : Cond.selects RX5 yX5_admit yX5_admit ∈ lw_good := gd_i 8 (by decide +kernel) (by decide +kernel)
theorem wd_9 : Cond.selects RX5 yX5_someStoreSleeps yX5_someStoreSleeps ∈ lw_good := gd_i 9 (by decide +kernel) (by decide +kernel)
theorem wd_10 : Cond.selects RX5 yX5_makeVersion yX5_makeVersion ∈ lw_good := gd_i 10 (by decide +kernel) (by decide +kernel)
theorem wd_11 : Cond.selects RX5 yX5_drawn yX5_drawn ∈ lw_good := gd_i 11 (by decide +kernel) (by decide +kernel)
theorem wd_12 : Cond.selects RX0 yX0_tagDueFor yX0_tagDueFor ∈ lw_good := gd_i 12 (by decide +kernel) (by decide +kernel)
theorem wd_13 : Cond.selects RX5 yX5_renew yX5_renew ∈ lw_good := gd_i 13 (by decide +kernel) (by decide +kernel)
theorem wd_14 : Cond.selects RX5 yX5_hasSecret yX5_hasSecret ∈ lw_good := gd_i 14 (by decide +kernel) (by decide +kernel)
theorem wd_15 : Cond.selects RX5 yX5_makeNextVersion yX5_makeNextVersion ∈ lw_good := gd_i 15 (by decide +kernel) (by decide +kernel)
theorem wd_16 : Cond.selects RX4 yX4_value yX4_value ∈ lw_good := gd_i 16 (by decide +kernel) (by decide +kernel)
theorem wd_17 : Cond.selects RX4 yX4_ageKeeping yX4_ageKeeping ∈ lw_good := gd_i 17 (by decide +kernel) (by decide +kernel)
theorem wd_18 : Cond.selects RX0 yX0_freeRowOfNow yX0_freeRowOfNow ∈ lw_good := gd_i 18 (by decide +kernel) (by decide +kernel)
theorem wd_19 : Cond.selects RX5 yX5_burnOldVersions yX5_burnOldVersions ∈ lw_good := gd_i 19 (by decide +kernel) (by decide +kernel)
theorem wd_20 : Cond.selects RX5 yX5_turnSleep yX5_turnSleep ∈ lw_good := gd_i 20 (by decide +kernel) (by decide +kernel)
theorem wd_21 : Cond.selects RX5 yX5_takeUpLie yX5_takeUpLie ∈ lw_good := gd_i 21 (by decide +kernel) (by decide +kernel)
theorem wd_22 : Cond.selects RX5 yX5_hasHalf yX5_hasHalf ∈ lw_good := gd_i 22 (by decide +kernel) (by decide +kernel)
theorem wd_23 : Cond.selects RX4 yX4_halfIn yX4_halfIn ∈ lw_good := gd_i 23 (by decide +kernel) (by decide +kernel)
theorem wd_24 : Cond.selects RX5 yX5_mergeParts yX5_mergeParts ∈ lw_good := gd_i 24 (by decide +kernel) (by decide +kernel)
theorem wd_25 : Cond.selects RX5 yX5_answerOfMerger yX5_answerOfMerger ∈ lw_good := gd_i 25 (by decide +kernel) (by decide +kernel)
theorem wd_26 : Cond.selects RX4 yX4_answerIfMerged yX4_answerIfMerged ∈ lw_good := gd_i 26 (by decide +kernel) (by decide +kernel)
theorem wd_27 : Cond.selects RX0 yX0_catches yX0_catches ∈ lw_good := gd_i 27 (by decide +kernel) (by decide +kernel)
theorem wd_28 : Cond.selects RX0 yX0_toldPart yX0_toldPart ∈ lw_good := gd_i 28 (by decide +kernel) (by decide +kernel)
theorem wd_29 : Cond.selects RX0 yX0_partWith yX0_partWith ∈ lw_good := gd_i 29 (by decide +kernel) (by decide +kernel)
theorem wd_30 : Cond.selects RX0 yX0_toldTag yX0_toldTag ∈ lw_good := gd_i 30 (by decide +kernel) (by decide +kernel)
theorem wd_31 : Cond.selects RX4 yX4_open yX4_open ∈ lw_good := gd_i 31 (by decide +kernel) (by decide +kernel)
theorem wd_32 : Cond.selects RX0 yX0_lies yX0_lies ∈ lw_good := gd_i 32 (by decide +kernel) (by decide +kernel)
theorem wd_33 : Cond.selects RX5 yX5_givePartToThief yX5_givePartToThief ∈ lw_good := gd_i 33 (by decide +kernel) (by decide +kernel)
theorem wd_34 : Cond.selects RX4 yX4_partForThief yX4_partForThief ∈ lw_good := gd_i 34 (by decide +kernel) (by decide +kernel)
theorem wd_35 : Cond.selects RX4 yX4_takenSet yX4_takenSet ∈ lw_good := gd_i 35 (by decide +kernel) (by decide +kernel)
theorem wd_36 : Cond.selects RX5 yX5_passBeats yX5_passBeats ∈ lw_good := gd_i 36 (by decide +kernel) (by decide +kernel)
theorem wd_37 : Cond.selects RX5 yX5_passOneBeat yX5_passOneBeat ∈ lw_good := gd_i 37 (by decide +kernel) (by decide +kernel)
theorem wd_38 : Cond.selects RX5 yX5_figureOfHalf yX5_figureOfHalf ∈ lw_good := gd_i 38 (by decide +kernel) (by decide +kernel)
theorem wd_39 : Cond.selects RX5 yX5_figureOfSecret yX5_figureOfSecret ∈ lw_good := gd_i 39 (by decide +kernel) (by decide +kernel)
theorem wd_40 : Cond.selects RX5 yX5_figureOfOldVersion yX5_figureOfOldVersion ∈ lw_good := gd_i 40 (by decide +kernel) (by decide +kernel)
theorem wd_41 : Cond.selects RX5 yX5_figure yX5_figure ∈ lw_good := gd_i 41 (by decide +kernel) (by decide +kernel)
theorem wd_42 : Cond.selects RX5 yX5_setOfOpen yX5_setOfOpen ∈ lw_good := gd_i 42 (by decide +kernel) (by decide +kernel)
theorem wd_43 : Cond.selects RX5 yX5_setOfKnown yX5_setOfKnown ∈ lw_good := gd_i 43 (by decide +kernel) (by decide +kernel)
theorem wd_44 : Cond.selects RX5 yX5_otherPartFor yX5_otherPartFor ∈ lw_good := gd_i 44 (by decide +kernel) (by decide +kernel)
theorem wd_45 : Cond.selects RX5 yX5_tagOffsetThatPasses yX5_tagOffsetThatPasses ∈ lw_good := gd_i 45 (by decide +kernel) (by decide +kernel)
theorem wd_46 : Cond.selects RX4 yX4_halfBeside yX4_halfBeside ∈ lw_good := gd_i 46 (by decide +kernel) (by decide +kernel)
theorem wd_47 : Cond.selects RX5 yX5_offsetsThatPass yX5_offsetsThatPass ∈ lw_good := gd_i 47 (by decide +kernel) (by decide +kernel)
theorem wd_48 : Cond.selects RX5 yX5_partsNeeded yX5_partsNeeded ∈ lw_good := gd_i 48 (by decide +kernel) (by decide +kernel)
theorem wd_49 : Cond.selects RX4 yX4_rowsAtRisk yX4_rowsAtRisk ∈ lw_good := gd_i 49 (by decide +kernel) (by decide +kernel)
theorem wd_50 : Cond.selects RX5 yX5_versionsAtRisk yX5_versionsAtRisk ∈ lw_good := gd_i 50 (by decide +kernel) (by decide +kernel)
theorem wd_51 : Cond.selects RX2 yX2_append yX2_append ∈ lw_good := gd_i 51 (by decide +kernel) (by decide +kernel)
theorem wd_52 : Cond.selects RX2 yX2_clear yX2_clear ∈ lw_good := gd_i 52 (by decide +kernel) (by decide +kernel)
theorem wd_53 : Cond.selects RX3 yX3_firstFault yX3_firstFault ∈ lw_good := gd_i 53 (by decide +kernel) (by decide +kernel)
theorem wd_54 : Cond.selects RX3 yX3_goToStart yX3_goToStart ∈ lw_good := gd_i 54 (by decide +kernel) (by decide +kernel)
theorem wd_55 : Cond.selects RX3 yX3_readsNextOrder yX3_readsNextOrder ∈ lw_good := gd_i 55 (by decide +kernel) (by decide +kernel)
theorem wd_56 : Cond.selects RX3 yX3_reads yX3_reads ∈ lw_good := gd_i 56 (by decide +kernel) (by decide +kernel)
theorem wd_57 : Cond.selects RX2 yX2_signAt yX2_signAt ∈ lw_good := gd_i 57 (by decide +kernel) (by decide +kernel)
theorem wd_58 : Cond.selects RX3 yX3_readsNumber yX3_readsNumber ∈ lw_good := gd_i 58 (by decide +kernel) (by decide +kernel)
theorem wd_59 : Cond.selects RX3 yX3_numberRead yX3_numberRead ∈ lw_good := gd_i 59 (by decide +kernel) (by decide +kernel)
theorem wd_60 : Cond.selects RX3 yX3_digitRead yX3_digitRead ∈ lw_good := gd_i 60 (by decide +kernel) (by decide +kernel)
theorem wd_61 : Cond.selects RX3 yX3_readsSecret yX3_readsSecret ∈ lw_good := gd_i 61 (by decide +kernel) (by decide +kernel)
theorem wd_62 : Cond.selects RX3 yX3_readsStore yX3_readsStore ∈ lw_good := gd_i 62 (by decide +kernel) (by decide +kernel)
theorem wd_63 : Cond.selects RX3 yX3_readsOffsets yX3_readsOffsets ∈ lw_good := gd_i 63 (by decide +kernel) (by decide +kernel)
theorem wd_64 : Cond.selects RX3 yX3_readsVersion yX3_readsVersion ∈ lw_good := gd_i 64 (by decide +kernel) (by decide +kernel)
theorem wd_65 : Cond.selects RX6 yX6_answerOfOrder yX6_answerOfOrder ∈ lw_good := gd_i 65 (by decide +kernel) (by decide +kernel)
theorem wd_66 : Cond.selects RX6 yX6_versionOfOrder yX6_versionOfOrder ∈ lw_good := gd_i 66 (by decide +kernel) (by decide +kernel)
theorem wd_67 : Cond.selects RX5 yX5_versionNow yX5_versionNow ∈ lw_good := gd_i 67 (by decide +kernel) (by decide +kernel)
theorem wd_68 : Cond.selects RX1 yX1_takesBack yX1_takesBack ∈ lw_good := gd_i 68 (by decide +kernel) (by decide +kernel)
theorem wd_69 : Cond.selects RX7 yX7_record yX7_record ∈ lw_good := gd_i 69 (by decide +kernel) (by decide +kernel)
theorem wd_70 : Cond.selects RX7 yX7_looks yX7_looks ∈ lw_good := gd_i 70 (by decide +kernel) (by decide +kernel)
theorem wd_71 : Cond.selects RX7 yX7_pushes yX7_pushes ∈ lw_good := gd_i 71 (by decide +kernel) (by decide +kernel)
theorem wd_72 : Cond.selects RX7 yX7_tries yX7_tries ∈ lw_good := gd_i 72 (by decide +kernel) (by decide +kernel)
theorem wd_73 : Cond.selects RX7 yX7_does yX7_does ∈ lw_good := gd_i 73 (by decide +kernel) (by decide +kernel)
theorem wd_74 : Cond.selects RX7 yX7_keeps yX7_keeps ∈ lw_good := gd_i 74 (by decide +kernel) (by decide +kernel)
theorem wd_75 : Cond.selects RX7 yX7_areAwake yX7_areAwake ∈ lw_good := gd_i 75 (by decide +kernel) (by decide +kernel)
theorem wd_76 : Cond.selects RX7 yX7_makes yX7_makes ∈ lw_good := gd_i 76 (by decide +kernel) (by decide +kernel)
theorem wd_77 : Cond.selects RX7 yX7_draw yX7_draw ∈ lw_good := gd_i 77 (by decide +kernel) (by decide +kernel)
theorem wd_78 : Cond.selects RX7 yX7_refreshed yX7_refreshed ∈ lw_good := gd_i 78 (by decide +kernel) (by decide +kernel)
theorem wd_79 : Cond.selects RX7 yX7_isSecret yX7_isSecret ∈ lw_good := gd_i 79 (by decide +kernel) (by decide +kernel)
theorem wd_80 : Cond.selects RX7 yX7_canRefresh yX7_canRefresh ∈ lw_good := gd_i 80 (by decide +kernel) (by decide +kernel)
theorem wd_81 : Cond.selects RX7 yX7_refreshes yX7_refreshes ∈ lw_good := gd_i 81 (by decide +kernel) (by decide +kernel)
theorem wd_82 : Cond.selects RX7 yX7_partOf yX7_partOf ∈ lw_good := gd_i 82 (by decide +kernel) (by decide +kernel)
theorem wd_83 : Cond.selects RX7 yX7_burns yX7_burns ∈ lw_good := gd_i 83 (by decide +kernel) (by decide +kernel)
theorem wd_84 : Cond.selects RX7 yX7_burnt yX7_burnt ∈ lw_good := gd_i 84 (by decide +kernel) (by decide +kernel)
theorem wd_85 : Cond.selects RX7 yX7_merges yX7_merges ∈ lw_good := gd_i 85 (by decide +kernel) (by decide +kernel)
theorem wd_86 : Cond.selects RX7 yX7_merged yX7_merged ∈ lw_good := gd_i 86 (by decide +kernel) (by decide +kernel)
theorem wd_87 : Cond.selects RX7 yX7_isPassedNow yX7_isPassedNow ∈ lw_good := gd_i 87 (by decide +kernel) (by decide +kernel)
theorem wd_88 : Cond.selects RX7 yX7_isPassed yX7_isPassed ∈ lw_good := gd_i 88 (by decide +kernel) (by decide +kernel)
theorem wd_89 : Cond.selects RX7 yX7_toldPart yX7_toldPart ∈ lw_good := gd_i 89 (by decide +kernel) (by decide +kernel)
theorem wd_90 : Cond.selects RX7 yX7_tagOf yX7_tagOf ∈ lw_good := gd_i 90 (by decide +kernel) (by decide +kernel)
theorem wd_91 : Cond.selects RX7 yX7_isLiedAbout yX7_isLiedAbout ∈ lw_good := gd_i 91 (by decide +kernel) (by decide +kernel)
theorem wd_92 : Cond.selects RX7 yX7_sleeps yX7_sleeps ∈ lw_good := gd_i 92 (by decide +kernel) (by decide +kernel)
theorem wd_93 : Cond.selects RX7 yX7_lies yX7_lies ∈ lw_good := gd_i 93 (by decide +kernel) (by decide +kernel)
theorem wd_94 : Cond.selects RX7 yX7_steals yX7_steals ∈ lw_good := gd_i 94 (by decide +kernel) (by decide +kernel)
theorem wd_95 : Cond.selects RX7 yX7_rankOf yX7_rankOf ∈ lw_good := gd_i 95 (by decide +kernel) (by decide +kernel)
theorem wd_96 : Cond.selects RX7 yX7_passes yX7_passes ∈ lw_good := gd_i 96 (by decide +kernel) (by decide +kernel)
theorem wd_97 : Cond.selects RX7 yX7_beat yX7_beat ∈ lw_good := gd_i 97 (by decide +kernel) (by decide +kernel)
theorem wd_98 : Cond.selects RX7 yX7_setOf yX7_setOf ∈ lw_good := gd_i 98 (by decide +kernel) (by decide +kernel)
theorem wd_99 : Cond.selects RX7 yX7_versionsAtRisk yX7_versionsAtRisk ∈ lw_good := gd_i 99 (by decide +kernel) (by decide +kernel)
theorem wd_100 : Cond.selects RX7 yX7_goes yX7_goes ∈ lw_good := gd_i 100 (by decide +kernel) (by decide +kernel)
theorem wd_101 : Cond.selects RX7 yX7_readOrder yX7_readOrder ∈ lw_good := gd_i 101 (by decide +kernel) (by decide +kernel)
theorem wd_102 : Cond.selects RX7 yX7_takes yX7_takes ∈ lw_good := gd_i 102 (by decide +kernel) (by decide +kernel)
theorem wd_103 : Cond.selects RX7 yX7_takesNumber yX7_takesNumber ∈ lw_good := gd_i 103 (by decide +kernel) (by decide +kernel)
theorem wd_104 : Cond.selects RX7 yX7_takesBehind yX7_takesBehind ∈ lw_good := gd_i 104 (by decide +kernel) (by decide +kernel)
theorem wd_105 : Cond.selects RX7 yX7_isNext yX7_isNext ∈ lw_good := gd_i 105 (by decide +kernel) (by decide +kernel)
theorem wd_106 : Cond.selects RX7 yX7_isDone yX7_isDone ∈ lw_good := gd_i 106 (by decide +kernel) (by decide +kernel)
theorem wd_107 : Cond.initialized RL ∈ lw_good := gd_i 107 (by decide +kernel) (by decide +kernel)
theorem wd_108 : Cond.initialized RX6 ∈ lw_good := gd_i 108 (by decide +kernel) (by decide +kernel)
theorem wd_109 : Cond.initialized RX5 ∈ lw_good := gd_i 109 (by decide +kernel) (by decide +kernel)
theorem wd_110 : Cond.initialized RX4 ∈ lw_good := gd_i 110 (by decide +kernel) (by decide +kernel)
theorem wd_111 : Cond.initialized RX0 ∈ lw_good := gd_i 111 (by decide +kernel) (by decide +kernel)
theorem wd_112 : Cond.initialized RX1 ∈ lw_good := gd_i 112 (by decide +kernel) (by decide +kernel)
theorem wd_113 : Cond.initialized RX2 ∈ lw_good := gd_i 113 (by decide +kernel) (by decide +kernel)
theorem wd_114 : Cond.initialized RX3 ∈ lw_good := gd_i 114 (by decide +kernel) (by decide +kernel)
theorem wd_115 : Cond.initialized RX7 ∈ lw_good := gd_i 115 (by decide +kernel) (by decide +kernel)
theorem wd_116 : Cond.initialized RJ9 ∈ lw_good := gd_i 116 (by decide +kernel) (by decide +kernel)
theorem wd_117 : Cond.classLink RL 7 RX6 ∈ lw_good := gd_i 117 (by decide +kernel) (by decide +kernel)
theorem wd_118 : Cond.instantiable RX6 6 ∈ lw_good := gd_i 118 (by decide +kernel) (by decide +kernel)
theorem wd_119 : Cond.methodLink RL 9 yX6_init ∈ lw_good := gd_i 119 (by decide +kernel) (by decide +kernel)
theorem wd_120 : Cond.instanceMethod yX6_init ∈ lw_good := gd_i 120 (by decide +kernel) (by decide +kernel)
theorem wd_121 : Cond.code yX6_init cX6_init 2 (none) ∈ lw_good := gd_i 121 (by decide +kernel) (by decide +kernel)
theorem wd_122 : Cond.methodLink RX6 3 objectInit ∈ lw_good := gd_i 122 (by decide +kernel) (by decide +kernel)
theorem wd_123 : Cond.instanceMethod objectInit ∈ lw_good := gd_i 123 (by decide +kernel) (by decide +kernel)
theorem wd_124 : Cond.code objectInit ⟨#[0xb1]⟩ 1 none ∈ lw_good := gd_i 124 (by decide +kernel) (by decide +kernel)
theorem wd_125 : Cond.classLink RX6 9 RX5 ∈ lw_good := gd_i 125 (by decide +kernel) (by decide +kernel)
theorem wd_126 : Cond.instantiable RX5 10 ∈ lw_good := gd_i 126 (by decide +kernel) (by decide +kernel)
theorem wd_127 : Cond.methodLinkNest RX6 11 yX5_init "SplitSecrets" ∈ lw_nest := ns_i 127 (by decide +kernel) (by decide +kernel)
theorem wd_128 : Cond.instanceMethod yX5_init ∈ lw_good := gd_i 128 (by decide +kernel) (by decide +kernel)
theorem wd_129 : Cond.code yX5_init cX5_init 2 (none) ∈ lw_good := gd_i 129 (by decide +kernel) (by decide +kernel)
theorem wd_130 : Cond.methodLink RX5 3 objectInit ∈ lw_good := gd_i 130 (by decide +kernel) (by decide +kernel)
theorem wd_131 : Cond.classLink RX5 9 RX4 ∈ lw_good := gd_i 131 (by decide +kernel) (by decide +kernel)
theorem wd_133 : Cond.instantiable RX4 10 ∈ lw_good := gd_i 133 (by decide +kernel) (by decide +kernel)
theorem wd_134 : Cond.methodLinkNest RX5 29 yX4_init "SplitSecrets" ∈ lw_nest := ns_i 134 (by decide +kernel) (by decide +kernel)
theorem wd_135 : Cond.instanceMethod yX4_init ∈ lw_good := gd_i 135 (by decide +kernel) (by decide +kernel)
theorem wd_136 : Cond.code yX4_init cX4_init 1 (none) ∈ lw_good := gd_i 136 (by decide +kernel) (by decide +kernel)
theorem wd_137 : Cond.methodLink RX4 3 objectInit ∈ lw_good := gd_i 137 (by decide +kernel) (by decide +kernel)
theorem wd_138 : Cond.classLink RX4 9 RX0 ∈ lw_good := gd_i 138 (by decide +kernel) (by decide +kernel)
theorem wd_139 : Cond.instantiable RX0 7 ∈ lw_good := gd_i 139 (by decide +kernel) (by decide +kernel)
theorem wd_140 : Cond.methodLinkNest RX4 11 yX0_init "SplitSecrets" ∈ lw_nest := ns_i 140 (by decide +kernel) (by decide +kernel)
theorem wd_141 : Cond.instanceMethod yX0_init ∈ lw_good := gd_i 141 (by decide +kernel) (by decide +kernel)
theorem wd_142 : Cond.code yX0_init cX0_init 1 (none) ∈ lw_good := gd_i 142 (by decide +kernel) (by decide +kernel)
theorem wd_143 : Cond.methodLink RX0 3 objectInit ∈ lw_good := gd_i 143 (by decide +kernel) (by decide +kernel)
theorem wd_144 : Cond.fieldLink RX0 9 "SplitSecrets$Half" "parts" "[I" ∈ lw_good := gd_i 144 (by decide +kernel) (by decide +kernel)
theorem wd_145 : Cond.fieldLinkNest RX4 51 "SplitSecrets$Half" "parts" "[I" "SplitSecrets" ∈ lw_nest := ns_i 145 (by decide +kernel) (by decide +kernel)
theorem wd_146 : Cond.fieldLinkNest RX5 87 "SplitSecrets$Half" "parts" "[I" "SplitSecrets" ∈ lw_nest := ns_i 146 (by decide +kernel) (by decide +kernel)
theorem wd_147 : Cond.fieldLink RX0 15 "SplitSecrets$Half" "taken" "[Z" ∈ lw_good := gd_i 147 (by decide +kernel) (by decide +kernel)
theorem wd_148 : Cond.fieldLinkNest RX4 76 "SplitSecrets$Half" "taken" "[Z" "SplitSecrets" ∈ lw_nest := ns_i 148 (by decide +kernel) (by decide +kernel)
theorem wd_149 : Cond.fieldLink RX0 19 "SplitSecrets$Half" "tag" "I" ∈ lw_good := gd_i 149 (by decide +kernel) (by decide +kernel)
theorem wd_150 : Cond.fieldLinkNest RX5 112 "SplitSecrets$Half" "tag" "I" "SplitSecrets" ∈ lw_nest := ns_i 150 (by decide +kernel) (by decide +kernel)
theorem wd_151 : Cond.fieldLink RX0 23 "SplitSecrets$Half" "factor" "I" ∈ lw_good := gd_i 151 (by decide +kernel) (by decide +kernel)
theorem wd_152 : Cond.fieldLinkNest RX5 102 "SplitSecrets$Half" "factor" "I" "SplitSecrets" ∈ lw_nest := ns_i 152 (by decide +kernel) (by decide +kernel)
theorem wd_153 : Cond.fieldLink RX0 26 "SplitSecrets$Half" "sum" "I" ∈ lw_good := gd_i 153 (by decide +kernel) (by decide +kernel)
theorem wd_154 : Cond.fieldLinkNest RX5 105 "SplitSecrets$Half" "sum" "I" "SplitSecrets" ∈ lw_nest := ns_i 154 (by decide +kernel) (by decide +kernel)
theorem wd_155 : Cond.fieldLink RX0 29 "SplitSecrets$Half" "offset" "I" ∈ lw_good := gd_i 155 (by decide +kernel) (by decide +kernel)
theorem wd_156 : Cond.fieldLinkNest RX5 138 "SplitSecrets$Half" "offset" "I" "SplitSecrets" ∈ lw_nest := ns_i 156 (by decide +kernel) (by decide +kernel)
theorem wd_157 : Cond.fieldLink RX0 32 "SplitSecrets$Half" "tagOffset" "I" ∈ lw_good := gd_i 157 (by decide +kernel) (by decide +kernel)
theorem wd_158 : Cond.fieldLinkNest RX5 141 "SplitSecrets$Half" "tagOffset" "I" "SplitSecrets" ∈ lw_nest := ns_i 158 (by decide +kernel) (by decide +kernel)
theorem wd_174 : Cond.arrayClass FieldType.int ∈ lw_good := gd_i 174 (by decide +kernel) (by decide +kernel)
theorem wd_175 : Cond.arrayClass FieldType.boolean ∈ lw_good := gd_i 175 (by decide +kernel) (by decide +kernel)
theorem wd_176 : Cond.fieldLink RX4 12 "SplitSecrets$Secret" "first" "LSplitSecrets$Half;" ∈ lw_good := gd_i 176 (by decide +kernel) (by decide +kernel)
theorem wd_177 : Cond.fieldLinkNest RX5 80 "SplitSecrets$Secret" "first" "LSplitSecrets$Half;" "SplitSecrets" ∈ lw_nest := ns_i 177 (by decide +kernel) (by decide +kernel)
theorem wd_178 : Cond.fieldLink RX4 18 "SplitSecrets$Secret" "second" "LSplitSecrets$Half;" ∈ lw_good := gd_i 178 (by decide +kernel) (by decide +kernel)
theorem wd_179 : Cond.fieldLinkNest RX5 84 "SplitSecrets$Secret" "second" "LSplitSecrets$Half;" "SplitSecrets" ∈ lw_nest := ns_i 179 (by decide +kernel) (by decide +kernel)
theorem wd_180 : Cond.fieldLink RX4 25 "SplitSecrets$Secret" "version" "I" ∈ lw_good := gd_i 180 (by decide +kernel) (by decide +kernel)
theorem wd_181 : Cond.fieldLinkNest RX5 59 "SplitSecrets$Secret" "version" "I" "SplitSecrets" ∈ lw_nest := ns_i 181 (by decide +kernel) (by decide +kernel)
theorem wd_182 : Cond.fieldLink RX4 29 "SplitSecrets$Secret" "olds" "I" ∈ lw_good := gd_i 182 (by decide +kernel) (by decide +kernel)
theorem wd_183 : Cond.fieldLinkNest RX5 124 "SplitSecrets$Secret" "olds" "I" "SplitSecrets" ∈ lw_nest := ns_i 183 (by decide +kernel) (by decide +kernel)
theorem wd_184 : Cond.fieldLink RX4 32 "SplitSecrets$Secret" "openAs" "I" ∈ lw_good := gd_i 184 (by decide +kernel) (by decide +kernel)
theorem wd_185 : Cond.fieldLinkNest RX5 176 "SplitSecrets$Secret" "openAs" "I" "SplitSecrets" ∈ lw_nest := ns_i 185 (by decide +kernel) (by decide +kernel)
theorem wd_186 : Cond.fieldLink RX4 35 "SplitSecrets$Secret" "openFor" "I" ∈ lw_good := gd_i 186 (by decide +kernel) (by decide +kernel)
theorem wd_187 : Cond.fieldLinkNest RX5 164 "SplitSecrets$Secret" "openFor" "I" "SplitSecrets" ∈ lw_nest := ns_i 187 (by decide +kernel) (by decide +kernel)
theorem wd_188 : Cond.fieldLink RX4 38 "SplitSecrets$Secret" "caught" "I" ∈ lw_good := gd_i 188 (by decide +kernel) (by decide +kernel)
theorem wd_189 : Cond.fieldLinkNest RX5 150 "SplitSecrets$Secret" "caught" "I" "SplitSecrets" ∈ lw_nest := ns_i 189 (by decide +kernel) (by decide +kernel)
theorem wd_190 : Cond.fieldLink RX4 41 "SplitSecrets$Secret" "opened" "I" ∈ lw_good := gd_i 190 (by decide +kernel) (by decide +kernel)
theorem wd_191 : Cond.fieldLinkNest RX5 186 "SplitSecrets$Secret" "opened" "I" "SplitSecrets" ∈ lw_nest := ns_i 191 (by decide +kernel) (by decide +kernel)
theorem wd_192 : Cond.fieldLink RX4 44 "SplitSecrets$Secret" "stolen" "I" ∈ lw_good := gd_i 192 (by decide +kernel) (by decide +kernel)
theorem wd_193 : Cond.fieldLinkNest RX5 183 "SplitSecrets$Secret" "stolen" "I" "SplitSecrets" ∈ lw_nest := ns_i 193 (by decide +kernel) (by decide +kernel)
theorem wd_194 : Cond.fieldLink RX4 47 "SplitSecrets$Secret" "known" "Z" ∈ lw_good := gd_i 194 (by decide +kernel) (by decide +kernel)
theorem wd_195 : Cond.fieldLinkNest RX5 179 "SplitSecrets$Secret" "known" "Z" "SplitSecrets" ∈ lw_nest := ns_i 195 (by decide +kernel) (by decide +kernel)
theorem wd_217 : Cond.fieldLink RX5 11 "SplitSecrets$Stores" "secrets" "[LSplitSecrets$Secret;" ∈ lw_good := gd_i 217 (by decide +kernel) (by decide +kernel)
theorem wd_218 : Cond.fieldLink RX5 17 "SplitSecrets$Stores" "settings" "[I" ∈ lw_good := gd_i 218 (by decide +kernel) (by decide +kernel)
theorem wd_219 : Cond.fieldLink RX5 21 "SplitSecrets$Stores" "asleep" "[Z" ∈ lw_good := gd_i 219 (by decide +kernel) (by decide +kernel)
theorem wd_220 : Cond.fieldLink RX5 34 "SplitSecrets$Stores" "kept" "I" ∈ lw_good := gd_i 220 (by decide +kernel) (by decide +kernel)
theorem wd_221 : Cond.fieldLinkNest RX6 157 "SplitSecrets$Stores" "kept" "I" "SplitSecrets" ∈ lw_nest := ns_i 221 (by decide +kernel) (by decide +kernel)
theorem wd_222 : Cond.fieldLink RX5 25 "SplitSecrets$Stores" "x" "I" ∈ lw_good := gd_i 222 (by decide +kernel) (by decide +kernel)
theorem wd_223 : Cond.fieldLink RX5 37 "SplitSecrets$Stores" "beatsSoFar" "I" ∈ lw_good := gd_i 223 (by decide +kernel) (by decide +kernel)
theorem wd_224 : Cond.fieldLink RX5 40 "SplitSecrets$Stores" "made" "I" ∈ lw_good := gd_i 224 (by decide +kernel) (by decide +kernel)
theorem wd_225 : Cond.fieldLink RX5 43 "SplitSecrets$Stores" "burnt" "I" ∈ lw_good := gd_i 225 (by decide +kernel) (by decide +kernel)
theorem wd_226 : Cond.fieldLink RX5 46 "SplitSecrets$Stores" "caught" "I" ∈ lw_good := gd_i 226 (by decide +kernel) (by decide +kernel)
theorem wd_227 : Cond.fieldLink RX5 49 "SplitSecrets$Stores" "liesPassed" "I" ∈ lw_good := gd_i 227 (by decide +kernel) (by decide +kernel)
theorem wd_249 : Cond.classLink RX6 16 RX1 ∈ lw_good := gd_i 249 (by decide +kernel) (by decide +kernel)
theorem wd_250 : Cond.instantiable RX1 3 ∈ lw_good := gd_i 250 (by decide +kernel) (by decide +kernel)
theorem wd_251 : Cond.methodLinkNest RX6 18 yX1_init "SplitSecrets" ∈ lw_nest := ns_i 251 (by decide +kernel) (by decide +kernel)
theorem wd_252 : Cond.instanceMethod yX1_init ∈ lw_good := gd_i 252 (by decide +kernel) (by decide +kernel)
theorem wd_253 : Cond.code yX1_init cX1_init 2 (none) ∈ lw_good := gd_i 253 (by decide +kernel) (by decide +kernel)
theorem wd_254 : Cond.methodLink RX1 3 objectInit ∈ lw_good := gd_i 254 (by decide +kernel) (by decide +kernel)
theorem wd_255 : Cond.classLink RX1 9 RX5 ∈ lw_good := gd_i 255 (by decide +kernel) (by decide +kernel)
theorem wd_257 : Cond.methodLinkNest RX1 17 yX5_init "SplitSecrets" ∈ lw_nest := ns_i 257 (by decide +kernel) (by decide +kernel)
theorem wd_258 : Cond.fieldLink RX1 11 "SplitSecrets$History" "rows" "[LSplitSecrets$Stores;" ∈ lw_good := gd_i 258 (by decide +kernel) (by decide +kernel)
theorem wd_259 : Cond.fieldLink RX1 18 "SplitSecrets$History" "oldest" "I" ∈ lw_good := gd_i 259 (by decide +kernel) (by decide +kernel)
theorem wd_260 : Cond.fieldLink RX1 22 "SplitSecrets$History" "size" "I" ∈ lw_good := gd_i 260 (by decide +kernel) (by decide +kernel)
theorem wd_261 : Cond.fieldLinkNest RX6 101 "SplitSecrets$History" "size" "I" "SplitSecrets" ∈ lw_nest := ns_i 261 (by decide +kernel) (by decide +kernel)
theorem wd_269 : Cond.classLink RX6 31 RX2 ∈ lw_good := gd_i 269 (by decide +kernel) (by decide +kernel)
theorem wd_270 : Cond.instantiable RX2 2 ∈ lw_good := gd_i 270 (by decide +kernel) (by decide +kernel)
theorem wd_271 : Cond.methodLinkNest RX6 33 yX2_init "SplitSecrets" ∈ lw_nest := ns_i 271 (by decide +kernel) (by decide +kernel)
theorem wd_272 : Cond.instanceMethod yX2_init ∈ lw_good := gd_i 272 (by decide +kernel) (by decide +kernel)
theorem wd_273 : Cond.code yX2_init cX2_init 1 (none) ∈ lw_good := gd_i 273 (by decide +kernel) (by decide +kernel)
theorem wd_274 : Cond.methodLink RX2 3 objectInit ∈ lw_good := gd_i 274 (by decide +kernel) (by decide +kernel)
theorem wd_275 : Cond.fieldLink RX2 9 "SplitSecrets$Pad" "signs" "[C" ∈ lw_good := gd_i 275 (by decide +kernel) (by decide +kernel)
theorem wd_276 : Cond.fieldLink RX2 19 "SplitSecrets$Pad" "length" "I" ∈ lw_good := gd_i 276 (by decide +kernel) (by decide +kernel)
theorem wd_277 : Cond.fieldLinkNest RX3 26 "SplitSecrets$Pad" "length" "I" "SplitSecrets" ∈ lw_nest := ns_i 277 (by decide +kernel) (by decide +kernel)
theorem wd_278 : Cond.fieldLinkNest RX6 97 "SplitSecrets$Pad" "length" "I" "SplitSecrets" ∈ lw_nest := ns_i 278 (by decide +kernel) (by decide +kernel)
theorem wd_284 : Cond.arrayClass FieldType.char ∈ lw_good := gd_i 284 (by decide +kernel) (by decide +kernel)
theorem wd_285 : Cond.classLink RX6 38 RX3 ∈ lw_good := gd_i 285 (by decide +kernel) (by decide +kernel)
theorem wd_286 : Cond.instantiable RX3 7 ∈ lw_good := gd_i 286 (by decide +kernel) (by decide +kernel)
theorem wd_287 : Cond.methodLinkNest RX6 40 yX3_init "SplitSecrets" ∈ lw_nest := ns_i 287 (by decide +kernel) (by decide +kernel)
theorem wd_288 : Cond.instanceMethod yX3_init ∈ lw_good := gd_i 288 (by decide +kernel) (by decide +kernel)
theorem wd_289 : Cond.code yX3_init cX3_init 2 (none) ∈ lw_good := gd_i 289 (by decide +kernel) (by decide +kernel)
theorem wd_290 : Cond.methodLink RX3 3 objectInit ∈ lw_good := gd_i 290 (by decide +kernel) (by decide +kernel)
theorem wd_291 : Cond.fieldLink RX3 9 "SplitSecrets$Reader" "pad" "LSplitSecrets$Pad;" ∈ lw_good := gd_i 291 (by decide +kernel) (by decide +kernel)
theorem wd_292 : Cond.fieldLink RX3 15 "SplitSecrets$Reader" "at" "I" ∈ lw_good := gd_i 292 (by decide +kernel) (by decide +kernel)
theorem wd_293 : Cond.fieldLink RX3 39 "SplitSecrets$Reader" "letter" "C" ∈ lw_good := gd_i 293 (by decide +kernel) (by decide +kernel)
theorem wd_294 : Cond.fieldLinkNest RX6 163 "SplitSecrets$Reader" "letter" "C" "SplitSecrets" ∈ lw_nest := ns_i 294 (by decide +kernel) (by decide +kernel)
theorem wd_295 : Cond.fieldLink RX3 58 "SplitSecrets$Reader" "store" "I" ∈ lw_good := gd_i 295 (by decide +kernel) (by decide +kernel)
theorem wd_296 : Cond.fieldLinkNest RX6 173 "SplitSecrets$Reader" "store" "I" "SplitSecrets" ∈ lw_nest := ns_i 296 (by decide +kernel) (by decide +kernel)
theorem wd_297 : Cond.fieldLink RX3 65 "SplitSecrets$Reader" "secret" "I" ∈ lw_good := gd_i 297 (by decide +kernel) (by decide +kernel)
theorem wd_298 : Cond.fieldLinkNest RX6 170 "SplitSecrets$Reader" "secret" "I" "SplitSecrets" ∈ lw_nest := ns_i 298 (by decide +kernel) (by decide +kernel)
theorem wd_299 : Cond.fieldLink RX3 71 "SplitSecrets$Reader" "number" "I" ∈ lw_good := gd_i 299 (by decide +kernel) (by decide +kernel)
theorem wd_300 : Cond.fieldLinkNest RX6 167 "SplitSecrets$Reader" "number" "I" "SplitSecrets" ∈ lw_nest := ns_i 300 (by decide +kernel) (by decide +kernel)
theorem wd_301 : Cond.fieldLink RX3 74 "SplitSecrets$Reader" "tag" "I" ∈ lw_good := gd_i 301 (by decide +kernel) (by decide +kernel)
theorem wd_302 : Cond.fieldLinkNest RX6 176 "SplitSecrets$Reader" "tag" "I" "SplitSecrets" ∈ lw_nest := ns_i 302 (by decide +kernel) (by decide +kernel)
theorem wd_318 : Cond.fieldLink RX6 12 "SplitSecrets" "now" "LSplitSecrets$Stores;" ∈ lw_good := gd_i 318 (by decide +kernel) (by decide +kernel)
theorem wd_319 : Cond.fieldLink RX6 19 "SplitSecrets" "history" "LSplitSecrets$History;" ∈ lw_good := gd_i 319 (by decide +kernel) (by decide +kernel)
theorem wd_320 : Cond.fieldLink RX6 23 "SplitSecrets" "slots" "[LSplitSecrets$Stores;" ∈ lw_good := gd_i 320 (by decide +kernel) (by decide +kernel)
theorem wd_321 : Cond.fieldLink RX6 27 "SplitSecrets" "saved" "[Z" ∈ lw_good := gd_i 321 (by decide +kernel) (by decide +kernel)
theorem wd_322 : Cond.fieldLink RX6 34 "SplitSecrets" "pad" "LSplitSecrets$Pad;" ∈ lw_good := gd_i 322 (by decide +kernel) (by decide +kernel)
theorem wd_323 : Cond.fieldLink RX6 43 "SplitSecrets" "reader" "LSplitSecrets$Reader;" ∈ lw_good := gd_i 323 (by decide +kernel) (by decide +kernel)
theorem wd_337 : Cond.methodLink RL 13 yX6_set ∈ lw_good := gd_i 337 (by decide +kernel) (by decide +kernel)
theorem wd_338 : Cond.instanceMethod yX6_set ∈ lw_good := gd_i 338 (by decide +kernel) (by decide +kernel)
theorem wd_339 : Cond.selects RX6 yX6_set yX6_set ∈ lw_good := gd_i 339 (by decide +kernel) (by decide +kernel)
theorem wd_340 : Cond.code yX6_set cX6_set 3 (some .int) ∈ lw_good := gd_i 340 (by decide +kernel) (by decide +kernel)
theorem wd_341 : Cond.methodLinkNest RX6 47 yX1_draft "SplitSecrets" ∈ lw_nest := ns_i 341 (by decide +kernel) (by decide +kernel)
theorem wd_343 : Cond.instanceMethod yX1_draft ∈ lw_good := gd_i 343 (by decide +kernel) (by decide +kernel)
theorem wd_344 : Cond.code yX1_draft cX1_draft 2 (none) ∈ lw_good := gd_i 344 (by decide +kernel) (by decide +kernel)
theorem wd_345 : Cond.methodLinkNest RX1 25 yX5_copyState "SplitSecrets" ∈ lw_nest := ns_i 345 (by decide +kernel) (by decide +kernel)
theorem wd_347 : Cond.instanceMethod yX5_copyState ∈ lw_good := gd_i 347 (by decide +kernel) (by decide +kernel)
theorem wd_348 : Cond.code yX5_copyState cX5_copyState 3 (none) ∈ lw_good := gd_i 348 (by decide +kernel) (by decide +kernel)
theorem wd_349 : Cond.methodLinkNest RX5 30 yX4_copySecret "SplitSecrets" ∈ lw_nest := ns_i 349 (by decide +kernel) (by decide +kernel)
theorem wd_351 : Cond.instanceMethod yX4_copySecret ∈ lw_good := gd_i 351 (by decide +kernel) (by decide +kernel)
theorem wd_352 : Cond.code yX4_copySecret cX4_copySecret 2 (none) ∈ lw_good := gd_i 352 (by decide +kernel) (by decide +kernel)
theorem wd_353 : Cond.methodLinkNest RX4 21 yX0_copyHalf "SplitSecrets" ∈ lw_nest := ns_i 353 (by decide +kernel) (by decide +kernel)
theorem wd_355 : Cond.instanceMethod yX0_copyHalf ∈ lw_good := gd_i 355 (by decide +kernel) (by decide +kernel)
theorem wd_356 : Cond.code yX0_copyHalf cX0_copyHalf 3 (none) ∈ lw_good := gd_i 356 (by decide +kernel) (by decide +kernel)
theorem wd_357 : Cond.methodLinkNest RX6 51 yX5_changeSetting "SplitSecrets" ∈ lw_nest := ns_i 357 (by decide +kernel) (by decide +kernel)
theorem wd_359 : Cond.instanceMethod yX5_changeSetting ∈ lw_good := gd_i 359 (by decide +kernel) (by decide +kernel)
theorem wd_360 : Cond.code yX5_changeSetting cX5_changeSetting 4 (some .int) ∈ lw_good := gd_i 360 (by decide +kernel) (by decide +kernel)
theorem wd_361 : Cond.fieldLinkNest RX5 62 "SplitSecrets" "LEAST_OF_SETTING" "[I" "SplitSecrets" ∈ lw_nest := ns_i 361 (by decide +kernel) (by decide +kernel)
theorem wd_363 : Cond.fieldLinkNest RX5 65 "SplitSecrets" "MOST_OF_SETTING" "[I" "SplitSecrets" ∈ lw_nest := ns_i 363 (by decide +kernel) (by decide +kernel)
theorem wd_365 : Cond.methodLink RX6 55 yX6_recorded ∈ lw_good := gd_i 365 (by decide +kernel) (by decide +kernel)
theorem wd_367 : Cond.instanceMethod yX6_recorded ∈ lw_good := gd_i 367 (by decide +kernel) (by decide +kernel)
theorem wd_368 : Cond.code yX6_recorded cX6_recorded 2 (some .int) ∈ lw_good := gd_i 368 (by decide +kernel) (by decide +kernel)
theorem wd_369 : Cond.methodLinkNest RX6 160 yX1_recordDraft "SplitSecrets" ∈ lw_nest := ns_i 369 (by decide +kernel) (by decide +kernel)
theorem wd_371 : Cond.instanceMethod yX1_recordDraft ∈ lw_good := gd_i 371 (by decide +kernel) (by decide +kernel)
theorem wd_372 : Cond.code yX1_recordDraft cX1_recordDraft 1 (none) ∈ lw_good := gd_i 372 (by decide +kernel) (by decide +kernel)
theorem wd_373 : Cond.methodLink RL 18 yX6_seed ∈ lw_good := gd_i 373 (by decide +kernel) (by decide +kernel)
theorem wd_374 : Cond.instanceMethod yX6_seed ∈ lw_good := gd_i 374 (by decide +kernel) (by decide +kernel)
theorem wd_375 : Cond.selects RX6 yX6_seed yX6_seed ∈ lw_good := gd_i 375 (by decide +kernel) (by decide +kernel)
theorem wd_376 : Cond.code yX6_seed cX6_seed 2 (some .int) ∈ lw_good := gd_i 376 (by decide +kernel) (by decide +kernel)
theorem wd_377 : Cond.methodLinkNest RX6 59 yX5_changeX "SplitSecrets" ∈ lw_nest := ns_i 377 (by decide +kernel) (by decide +kernel)
theorem wd_379 : Cond.instanceMethod yX5_changeX ∈ lw_good := gd_i 379 (by decide +kernel) (by decide +kernel)
theorem wd_380 : Cond.code yX5_changeX cX5_changeX 3 (some .int) ∈ lw_good := gd_i 380 (by decide +kernel) (by decide +kernel)
theorem wd_381 : Cond.methodLink RL 23 yX6_keep ∈ lw_good := gd_i 381 (by decide +kernel) (by decide +kernel)
theorem wd_382 : Cond.instanceMethod yX6_keep ∈ lw_good := gd_i 382 (by decide +kernel) (by decide +kernel)
theorem wd_383 : Cond.selects RX6 yX6_keep yX6_keep ∈ lw_good := gd_i 383 (by decide +kernel) (by decide +kernel)
theorem wd_384 : Cond.code yX6_keep cX6_keep 2 (some .int) ∈ lw_good := gd_i 384 (by decide +kernel) (by decide +kernel)
theorem wd_385 : Cond.methodLinkNest RX6 62 yX5_admit "SplitSecrets" ∈ lw_nest := ns_i 385 (by decide +kernel) (by decide +kernel)
theorem wd_387 : Cond.instanceMethod yX5_admit ∈ lw_good := gd_i 387 (by decide +kernel) (by decide +kernel)
theorem wd_388 : Cond.code yX5_admit cX5_admit 2 (some .int) ∈ lw_good := gd_i 388 (by decide +kernel) (by decide +kernel)
theorem wd_389 : Cond.methodLinkNest RX5 69 yX6_isPart "SplitSecrets" ∈ lw_nest := ns_i 389 (by decide +kernel) (by decide +kernel)
theorem wd_390 : Cond.static yX6_isPart ∈ lw_good := gd_i 390 (by decide +kernel) (by decide +kernel)
theorem wd_391 : Cond.code yX6_isPart cX6_isPart 1 (some .boolean) ∈ lw_good := gd_i 391 (by decide +kernel) (by decide +kernel)
theorem wd_392 : Cond.methodLink RX5 72 yX5_someStoreSleeps ∈ lw_good := gd_i 392 (by decide +kernel) (by decide +kernel)
theorem wd_394 : Cond.instanceMethod yX5_someStoreSleeps ∈ lw_good := gd_i 394 (by decide +kernel) (by decide +kernel)
theorem wd_395 : Cond.code yX5_someStoreSleeps cX5_someStoreSleeps 1 (some .boolean) ∈ lw_good := gd_i 395 (by decide +kernel) (by decide +kernel)
theorem wd_396 : Cond.methodLink RX5 76 yX5_makeVersion ∈ lw_good := gd_i 396 (by decide +kernel) (by decide +kernel)
theorem wd_398 : Cond.instanceMethod yX5_makeVersion ∈ lw_good := gd_i 398 (by decide +kernel) (by decide +kernel)
theorem wd_399 : Cond.code yX5_makeVersion cX5_makeVersion 5 (none) ∈ lw_good := gd_i 399 (by decide +kernel) (by decide +kernel)
theorem wd_400 : Cond.methodLink RX5 92 yX5_drawn ∈ lw_good := gd_i 400 (by decide +kernel) (by decide +kernel)
theorem wd_402 : Cond.instanceMethod yX5_drawn ∈ lw_good := gd_i 402 (by decide +kernel) (by decide +kernel)
theorem wd_403 : Cond.code yX5_drawn cX5_drawn 1 (some .int) ∈ lw_good := gd_i 403 (by decide +kernel) (by decide +kernel)
theorem wd_404 : Jvm.Cond.constant RX5 68 65537 ∈ lw_good := gd_i 404 (by decide +kernel) (by decide +kernel)
theorem wd_405 : Cond.methodLink RX5 96 yJ9_floorMod_7cf53 ∈ lw_good := gd_i 405 (by decide +kernel) (by decide +kernel)
theorem wd_406 : Cond.static yJ9_floorMod_7cf53 ∈ lw_good := gd_i 406 (by decide +kernel) (by decide +kernel)
theorem wd_407 : Cond.code yJ9_floorMod_7cf53 cJ9_floorMod_7cf53 3 (some .int) ∈ lw_good := gd_i 407 (by decide +kernel) (by decide +kernel)
theorem wd_408 : Cond.methodLinkNest RX5 108 yX0_tagDueFor "SplitSecrets" ∈ lw_nest := ns_i 408 (by decide +kernel) (by decide +kernel)
theorem wd_410 : Cond.instanceMethod yX0_tagDueFor ∈ lw_good := gd_i 410 (by decide +kernel) (by decide +kernel)
theorem wd_411 : Cond.code yX0_tagDueFor cX0_tagDueFor 2 (some .int) ∈ lw_good := gd_i 411 (by decide +kernel) (by decide +kernel)
theorem wd_412 : Cond.methodLink RL 27 yX6_refresh ∈ lw_good := gd_i 412 (by decide +kernel) (by decide +kernel)
theorem wd_413 : Cond.instanceMethod yX6_refresh ∈ lw_good := gd_i 413 (by decide +kernel) (by decide +kernel)
theorem wd_414 : Cond.selects RX6 yX6_refresh yX6_refresh ∈ lw_good := gd_i 414 (by decide +kernel) (by decide +kernel)
theorem wd_415 : Cond.code yX6_refresh cX6_refresh 2 (some .int) ∈ lw_good := gd_i 415 (by decide +kernel) (by decide +kernel)
theorem wd_416 : Cond.methodLinkNest RX6 65 yX5_renew "SplitSecrets" ∈ lw_nest := ns_i 416 (by decide +kernel) (by decide +kernel)
theorem wd_418 : Cond.instanceMethod yX5_renew ∈ lw_good := gd_i 418 (by decide +kernel) (by decide +kernel)
theorem wd_419 : Cond.code yX5_renew cX5_renew 3 (some .int) ∈ lw_good := gd_i 419 (by decide +kernel) (by decide +kernel)
theorem wd_420 : Cond.methodLink RX5 56 yX5_hasSecret ∈ lw_good := gd_i 420 (by decide +kernel) (by decide +kernel)
theorem wd_422 : Cond.instanceMethod yX5_hasSecret ∈ lw_good := gd_i 422 (by decide +kernel) (by decide +kernel)
theorem wd_423 : Cond.code yX5_hasSecret cX5_hasSecret 2 (some .boolean) ∈ lw_good := gd_i 423 (by decide +kernel) (by decide +kernel)
theorem wd_424 : Cond.methodLink RX5 121 yX5_makeNextVersion ∈ lw_good := gd_i 424 (by decide +kernel) (by decide +kernel)
theorem wd_426 : Cond.instanceMethod yX5_makeNextVersion ∈ lw_good := gd_i 426 (by decide +kernel) (by decide +kernel)
theorem wd_427 : Cond.code yX5_makeNextVersion cX5_makeNextVersion 3 (none) ∈ lw_good := gd_i 427 (by decide +kernel) (by decide +kernel)
theorem wd_428 : Cond.methodLinkNest RX5 115 yX4_value "SplitSecrets" ∈ lw_nest := ns_i 428 (by decide +kernel) (by decide +kernel)
theorem wd_430 : Cond.instanceMethod yX4_value ∈ lw_good := gd_i 430 (by decide +kernel) (by decide +kernel)
theorem wd_431 : Cond.code yX4_value cX4_value 1 (some .int) ∈ lw_good := gd_i 431 (by decide +kernel) (by decide +kernel)
theorem wd_432 : Cond.methodLinkNest RX5 118 yX4_ageKeeping "SplitSecrets" ∈ lw_nest := ns_i 432 (by decide +kernel) (by decide +kernel)
theorem wd_434 : Cond.instanceMethod yX4_ageKeeping ∈ lw_good := gd_i 434 (by decide +kernel) (by decide +kernel)
theorem wd_435 : Cond.code yX4_ageKeeping cX4_ageKeeping 3 (some .int) ∈ lw_good := gd_i 435 (by decide +kernel) (by decide +kernel)
theorem wd_436 : Cond.methodLinkNest RX4 55 yX0_freeRowOfNow "SplitSecrets" ∈ lw_nest := ns_i 436 (by decide +kernel) (by decide +kernel)
theorem wd_438 : Cond.instanceMethod yX0_freeRowOfNow ∈ lw_good := gd_i 438 (by decide +kernel) (by decide +kernel)
theorem wd_439 : Cond.code yX0_freeRowOfNow cX0_freeRowOfNow 2 (none) ∈ lw_good := gd_i 439 (by decide +kernel) (by decide +kernel)
theorem wd_440 : Cond.methodLink RX4 58 yJ9_min_7cf53 ∈ lw_good := gd_i 440 (by decide +kernel) (by decide +kernel)
theorem wd_441 : Cond.static yJ9_min_7cf53 ∈ lw_good := gd_i 441 (by decide +kernel) (by decide +kernel)
theorem wd_442 : Cond.code yJ9_min_7cf53 cJ9_min_7cf53 2 (some .int) ∈ lw_good := gd_i 442 (by decide +kernel) (by decide +kernel)
theorem wd_443 : Cond.methodLink RL 31 yX6_burn ∈ lw_good := gd_i 443 (by decide +kernel) (by decide +kernel)
theorem wd_444 : Cond.instanceMethod yX6_burn ∈ lw_good := gd_i 444 (by decide +kernel) (by decide +kernel)
theorem wd_445 : Cond.selects RX6 yX6_burn yX6_burn ∈ lw_good := gd_i 445 (by decide +kernel) (by decide +kernel)
theorem wd_446 : Cond.code yX6_burn cX6_burn 2 (some .int) ∈ lw_good := gd_i 446 (by decide +kernel) (by decide +kernel)
theorem wd_447 : Cond.methodLinkNest RX6 68 yX5_burnOldVersions "SplitSecrets" ∈ lw_nest := ns_i 447 (by decide +kernel) (by decide +kernel)
theorem wd_449 : Cond.instanceMethod yX5_burnOldVersions ∈ lw_good := gd_i 449 (by decide +kernel) (by decide +kernel)
theorem wd_450 : Cond.code yX5_burnOldVersions cX5_burnOldVersions 3 (some .int) ∈ lw_good := gd_i 450 (by decide +kernel) (by decide +kernel)
theorem wd_451 : Cond.methodLink RL 35 yX6_sleep ∈ lw_good := gd_i 451 (by decide +kernel) (by decide +kernel)
theorem wd_452 : Cond.instanceMethod yX6_sleep ∈ lw_good := gd_i 452 (by decide +kernel) (by decide +kernel)
theorem wd_453 : Cond.selects RX6 yX6_sleep yX6_sleep ∈ lw_good := gd_i 453 (by decide +kernel) (by decide +kernel)
theorem wd_454 : Cond.code yX6_sleep cX6_sleep 2 (some .int) ∈ lw_good := gd_i 454 (by decide +kernel) (by decide +kernel)
theorem wd_455 : Cond.methodLinkNest RX6 71 yX5_turnSleep "SplitSecrets" ∈ lw_nest := ns_i 455 (by decide +kernel) (by decide +kernel)
theorem wd_457 : Cond.instanceMethod yX5_turnSleep ∈ lw_good := gd_i 457 (by decide +kernel) (by decide +kernel)
theorem wd_458 : Cond.code yX5_turnSleep cX5_turnSleep 2 (some .int) ∈ lw_good := gd_i 458 (by decide +kernel) (by decide +kernel)
theorem wd_459 : Cond.methodLinkNest RX5 52 yX6_isStore "SplitSecrets" ∈ lw_nest := ns_i 459 (by decide +kernel) (by decide +kernel)
theorem wd_460 : Cond.static yX6_isStore ∈ lw_good := gd_i 460 (by decide +kernel) (by decide +kernel)
theorem wd_461 : Cond.code yX6_isStore cX6_isStore 1 (some .boolean) ∈ lw_good := gd_i 461 (by decide +kernel) (by decide +kernel)
theorem wd_462 : Cond.methodLink RL 39 yX6_lie ∈ lw_good := gd_i 462 (by decide +kernel) (by decide +kernel)
theorem wd_463 : Cond.instanceMethod yX6_lie ∈ lw_good := gd_i 463 (by decide +kernel) (by decide +kernel)
theorem wd_464 : Cond.selects RX6 yX6_lie yX6_lie ∈ lw_good := gd_i 464 (by decide +kernel) (by decide +kernel)
theorem wd_465 : Cond.code yX6_lie cX6_lie 5 (some .int) ∈ lw_good := gd_i 465 (by decide +kernel) (by decide +kernel)
theorem wd_466 : Cond.methodLinkNest RX6 74 yX5_takeUpLie "SplitSecrets" ∈ lw_nest := ns_i 466 (by decide +kernel) (by decide +kernel)
theorem wd_468 : Cond.instanceMethod yX5_takeUpLie ∈ lw_good := gd_i 468 (by decide +kernel) (by decide +kernel)
theorem wd_469 : Cond.code yX5_takeUpLie cX5_takeUpLie 7 (some .int) ∈ lw_good := gd_i 469 (by decide +kernel) (by decide +kernel)
theorem wd_470 : Cond.methodLink RX5 127 yX5_hasHalf ∈ lw_good := gd_i 470 (by decide +kernel) (by decide +kernel)
theorem wd_472 : Cond.instanceMethod yX5_hasHalf ∈ lw_good := gd_i 472 (by decide +kernel) (by decide +kernel)
theorem wd_473 : Cond.code yX5_hasHalf cX5_hasHalf 3 (some .boolean) ∈ lw_good := gd_i 473 (by decide +kernel) (by decide +kernel)
theorem wd_474 : Cond.methodLinkNest RX5 131 yX6_isTag "SplitSecrets" ∈ lw_nest := ns_i 474 (by decide +kernel) (by decide +kernel)
theorem wd_475 : Cond.static yX6_isTag ∈ lw_good := gd_i 475 (by decide +kernel) (by decide +kernel)
theorem wd_476 : Cond.code yX6_isTag cX6_isTag 1 (some .boolean) ∈ lw_good := gd_i 476 (by decide +kernel) (by decide +kernel)
theorem wd_477 : Cond.methodLinkNest RX5 134 yX4_halfIn "SplitSecrets" ∈ lw_nest := ns_i 477 (by decide +kernel) (by decide +kernel)
theorem wd_479 : Cond.instanceMethod yX4_halfIn ∈ lw_good := gd_i 479 (by decide +kernel) (by decide +kernel)
theorem wd_480 : Cond.code yX4_halfIn cX4_halfIn 2 (some (.object "SplitSecrets$Half")) ∈ lw_good := gd_i 480 (by decide +kernel) (by decide +kernel)
theorem wd_481 : Cond.methodLink RL 44 yX6_merge ∈ lw_good := gd_i 481 (by decide +kernel) (by decide +kernel)
theorem wd_482 : Cond.instanceMethod yX6_merge ∈ lw_good := gd_i 482 (by decide +kernel) (by decide +kernel)
theorem wd_483 : Cond.selects RX6 yX6_merge yX6_merge ∈ lw_good := gd_i 483 (by decide +kernel) (by decide +kernel)
theorem wd_484 : Cond.code yX6_merge cX6_merge 2 (some .int) ∈ lw_good := gd_i 484 (by decide +kernel) (by decide +kernel)
theorem wd_485 : Cond.methodLinkNest RX6 78 yX5_mergeParts "SplitSecrets" ∈ lw_nest := ns_i 485 (by decide +kernel) (by decide +kernel)
theorem wd_487 : Cond.instanceMethod yX5_mergeParts ∈ lw_good := gd_i 487 (by decide +kernel) (by decide +kernel)
theorem wd_488 : Cond.code yX5_mergeParts cX5_mergeParts 4 (some .int) ∈ lw_good := gd_i 488 (by decide +kernel) (by decide +kernel)
theorem wd_489 : Cond.methodLink RX5 147 yX5_answerOfMerger ∈ lw_good := gd_i 489 (by decide +kernel) (by decide +kernel)
theorem wd_491 : Cond.instanceMethod yX5_answerOfMerger ∈ lw_good := gd_i 491 (by decide +kernel) (by decide +kernel)
theorem wd_492 : Cond.code yX5_answerOfMerger cX5_answerOfMerger 2 (some .int) ∈ lw_good := gd_i 492 (by decide +kernel) (by decide +kernel)
theorem wd_493 : Cond.methodLinkNest RX5 144 yX4_answerIfMerged "SplitSecrets" ∈ lw_nest := ns_i 493 (by decide +kernel) (by decide +kernel)
theorem wd_495 : Cond.instanceMethod yX4_answerIfMerged ∈ lw_good := gd_i 495 (by decide +kernel) (by decide +kernel)
theorem wd_496 : Cond.code yX4_answerIfMerged cX4_answerIfMerged 1 (some .int) ∈ lw_good := gd_i 496 (by decide +kernel) (by decide +kernel)
theorem wd_497 : Cond.methodLinkNest RX4 64 yX0_catches "SplitSecrets" ∈ lw_nest := ns_i 497 (by decide +kernel) (by decide +kernel)
theorem wd_499 : Cond.instanceMethod yX0_catches ∈ lw_good := gd_i 499 (by decide +kernel) (by decide +kernel)
theorem wd_500 : Cond.code yX0_catches cX0_catches 2 (some .boolean) ∈ lw_good := gd_i 500 (by decide +kernel) (by decide +kernel)
theorem wd_501 : Cond.methodLink RX0 39 yX0_toldPart ∈ lw_good := gd_i 501 (by decide +kernel) (by decide +kernel)
theorem wd_503 : Cond.instanceMethod yX0_toldPart ∈ lw_good := gd_i 503 (by decide +kernel) (by decide +kernel)
theorem wd_504 : Cond.code yX0_toldPart cX0_toldPart 1 (some .int) ∈ lw_good := gd_i 504 (by decide +kernel) (by decide +kernel)
theorem wd_505 : Cond.methodLink RX0 35 yX0_partWith ∈ lw_good := gd_i 505 (by decide +kernel) (by decide +kernel)
theorem wd_507 : Cond.instanceMethod yX0_partWith ∈ lw_good := gd_i 507 (by decide +kernel) (by decide +kernel)
theorem wd_508 : Cond.code yX0_partWith cX0_partWith 2 (some .int) ∈ lw_good := gd_i 508 (by decide +kernel) (by decide +kernel)
theorem wd_509 : Cond.methodLink RX0 43 yX0_tagDueFor ∈ lw_good := gd_i 509 (by decide +kernel) (by decide +kernel)
theorem wd_510 : Cond.methodLink RX0 46 yX0_toldTag ∈ lw_good := gd_i 510 (by decide +kernel) (by decide +kernel)
theorem wd_512 : Cond.instanceMethod yX0_toldTag ∈ lw_good := gd_i 512 (by decide +kernel) (by decide +kernel)
theorem wd_513 : Cond.code yX0_toldTag cX0_toldTag 1 (some .int) ∈ lw_good := gd_i 513 (by decide +kernel) (by decide +kernel)
theorem wd_514 : Cond.methodLinkNest RX4 68 yX0_toldPart "SplitSecrets" ∈ lw_nest := ns_i 514 (by decide +kernel) (by decide +kernel)
theorem wd_515 : Cond.methodLinkNest RX5 151 yX4_open "SplitSecrets" ∈ lw_nest := ns_i 515 (by decide +kernel) (by decide +kernel)
theorem wd_517 : Cond.instanceMethod yX4_open ∈ lw_good := gd_i 517 (by decide +kernel) (by decide +kernel)
theorem wd_518 : Cond.code yX4_open cX4_open 3 (none) ∈ lw_good := gd_i 518 (by decide +kernel) (by decide +kernel)
theorem wd_519 : Cond.methodLinkNest RX5 155 yX0_lies "SplitSecrets" ∈ lw_nest := ns_i 519 (by decide +kernel) (by decide +kernel)
theorem wd_521 : Cond.instanceMethod yX0_lies ∈ lw_good := gd_i 521 (by decide +kernel) (by decide +kernel)
theorem wd_522 : Cond.code yX0_lies cX0_lies 1 (some .boolean) ∈ lw_good := gd_i 522 (by decide +kernel) (by decide +kernel)
theorem wd_523 : Cond.methodLink RL 48 yX6_steal ∈ lw_good := gd_i 523 (by decide +kernel) (by decide +kernel)
theorem wd_524 : Cond.instanceMethod yX6_steal ∈ lw_good := gd_i 524 (by decide +kernel) (by decide +kernel)
theorem wd_525 : Cond.selects RX6 yX6_steal yX6_steal ∈ lw_good := gd_i 525 (by decide +kernel) (by decide +kernel)
theorem wd_526 : Cond.code yX6_steal cX6_steal 4 (some .int) ∈ lw_good := gd_i 526 (by decide +kernel) (by decide +kernel)
theorem wd_527 : Cond.methodLinkNest RX6 81 yX5_givePartToThief "SplitSecrets" ∈ lw_nest := ns_i 527 (by decide +kernel) (by decide +kernel)
theorem wd_529 : Cond.instanceMethod yX5_givePartToThief ∈ lw_good := gd_i 529 (by decide +kernel) (by decide +kernel)
theorem wd_530 : Cond.code yX5_givePartToThief cX5_givePartToThief 5 (some .int) ∈ lw_good := gd_i 530 (by decide +kernel) (by decide +kernel)
theorem wd_531 : Cond.methodLinkNest RX5 158 yX4_partForThief "SplitSecrets" ∈ lw_nest := ns_i 531 (by decide +kernel) (by decide +kernel)
theorem wd_533 : Cond.instanceMethod yX4_partForThief ∈ lw_good := gd_i 533 (by decide +kernel) (by decide +kernel)
theorem wd_534 : Cond.code yX4_partForThief cX4_partForThief 4 (some .int) ∈ lw_good := gd_i 534 (by decide +kernel) (by decide +kernel)
theorem wd_535 : Cond.methodLink RX4 72 yX4_halfIn ∈ lw_good := gd_i 535 (by decide +kernel) (by decide +kernel)
theorem wd_536 : Cond.methodLink RX4 80 yX4_takenSet ∈ lw_good := gd_i 536 (by decide +kernel) (by decide +kernel)
theorem wd_538 : Cond.instanceMethod yX4_takenSet ∈ lw_good := gd_i 538 (by decide +kernel) (by decide +kernel)
theorem wd_539 : Cond.code yX4_takenSet cX4_takenSet 2 (some .int) ∈ lw_good := gd_i 539 (by decide +kernel) (by decide +kernel)
theorem wd_540 : Cond.methodLink RL 53 yX6_pass ∈ lw_good := gd_i 540 (by decide +kernel) (by decide +kernel)
theorem wd_541 : Cond.instanceMethod yX6_pass ∈ lw_good := gd_i 541 (by decide +kernel) (by decide +kernel)
theorem wd_542 : Cond.selects RX6 yX6_pass yX6_pass ∈ lw_good := gd_i 542 (by decide +kernel) (by decide +kernel)
theorem wd_543 : Cond.code yX6_pass cX6_pass 2 (some .int) ∈ lw_good := gd_i 543 (by decide +kernel) (by decide +kernel)
theorem wd_544 : Cond.methodLinkNest RX6 85 yX5_passBeats "SplitSecrets" ∈ lw_nest := ns_i 544 (by decide +kernel) (by decide +kernel)
theorem wd_546 : Cond.instanceMethod yX5_passBeats ∈ lw_good := gd_i 546 (by decide +kernel) (by decide +kernel)
theorem wd_547 : Cond.code yX5_passBeats cX5_passBeats 4 (some .int) ∈ lw_good := gd_i 547 (by decide +kernel) (by decide +kernel)
theorem wd_548 : Cond.methodLink RX5 161 yX5_passOneBeat ∈ lw_good := gd_i 548 (by decide +kernel) (by decide +kernel)
theorem wd_550 : Cond.instanceMethod yX5_passOneBeat ∈ lw_good := gd_i 550 (by decide +kernel) (by decide +kernel)
theorem wd_551 : Cond.code yX5_passOneBeat cX5_passOneBeat 2 (none) ∈ lw_good := gd_i 551 (by decide +kernel) (by decide +kernel)
theorem wd_552 : Cond.methodLink RX5 167 yJ9_max_7cf53 ∈ lw_good := gd_i 552 (by decide +kernel) (by decide +kernel)
theorem wd_553 : Cond.static yJ9_max_7cf53 ∈ lw_good := gd_i 553 (by decide +kernel) (by decide +kernel)
theorem wd_554 : Cond.code yJ9_max_7cf53 cJ9_max_7cf53 2 (some .int) ∈ lw_good := gd_i 554 (by decide +kernel) (by decide +kernel)
theorem wd_555 : Cond.methodLink RL 57 yX6_of ∈ lw_good := gd_i 555 (by decide +kernel) (by decide +kernel)
theorem wd_556 : Cond.instanceMethod yX6_of ∈ lw_good := gd_i 556 (by decide +kernel) (by decide +kernel)
theorem wd_557 : Cond.selects RX6 yX6_of yX6_of ∈ lw_good := gd_i 557 (by decide +kernel) (by decide +kernel)
theorem wd_558 : Cond.code yX6_of cX6_of 4 (some .int) ∈ lw_good := gd_i 558 (by decide +kernel) (by decide +kernel)
theorem wd_559 : Cond.methodLinkNest RX6 88 yX5_figureOfHalf "SplitSecrets" ∈ lw_nest := ns_i 559 (by decide +kernel) (by decide +kernel)
theorem wd_561 : Cond.instanceMethod yX5_figureOfHalf ∈ lw_good := gd_i 561 (by decide +kernel) (by decide +kernel)
theorem wd_562 : Cond.code yX5_figureOfHalf cX5_figureOfHalf 5 (some .int) ∈ lw_good := gd_i 562 (by decide +kernel) (by decide +kernel)
theorem wd_563 : Cond.methodLinkNest RX5 170 yX0_toldPart "SplitSecrets" ∈ lw_nest := ns_i 563 (by decide +kernel) (by decide +kernel)
theorem wd_564 : Cond.methodLinkNest RX5 173 yX0_toldTag "SplitSecrets" ∈ lw_nest := ns_i 564 (by decide +kernel) (by decide +kernel)
theorem wd_565 : Cond.methodLink RL 61 yX6_ofSecret ∈ lw_good := gd_i 565 (by decide +kernel) (by decide +kernel)
theorem wd_566 : Cond.instanceMethod yX6_ofSecret ∈ lw_good := gd_i 566 (by decide +kernel) (by decide +kernel)
theorem wd_567 : Cond.selects RX6 yX6_ofSecret yX6_ofSecret ∈ lw_good := gd_i 567 (by decide +kernel) (by decide +kernel)
theorem wd_568 : Cond.code yX6_ofSecret cX6_ofSecret 3 (some .int) ∈ lw_good := gd_i 568 (by decide +kernel) (by decide +kernel)
theorem wd_569 : Cond.methodLinkNest RX6 91 yX5_figureOfSecret "SplitSecrets" ∈ lw_nest := ns_i 569 (by decide +kernel) (by decide +kernel)
theorem wd_571 : Cond.instanceMethod yX5_figureOfSecret ∈ lw_good := gd_i 571 (by decide +kernel) (by decide +kernel)
theorem wd_572 : Cond.code yX5_figureOfSecret cX5_figureOfSecret 4 (some .int) ∈ lw_good := gd_i 572 (by decide +kernel) (by decide +kernel)
theorem wd_573 : Cond.methodLink RL 65 yX6_old ∈ lw_good := gd_i 573 (by decide +kernel) (by decide +kernel)
theorem wd_574 : Cond.instanceMethod yX6_old ∈ lw_good := gd_i 574 (by decide +kernel) (by decide +kernel)
theorem wd_575 : Cond.selects RX6 yX6_old yX6_old ∈ lw_good := gd_i 575 (by decide +kernel) (by decide +kernel)
theorem wd_576 : Cond.code yX6_old cX6_old 4 (some .int) ∈ lw_good := gd_i 576 (by decide +kernel) (by decide +kernel)
theorem wd_577 : Cond.methodLinkNest RX6 94 yX5_figureOfOldVersion "SplitSecrets" ∈ lw_nest := ns_i 577 (by decide +kernel) (by decide +kernel)
theorem wd_579 : Cond.instanceMethod yX5_figureOfOldVersion ∈ lw_good := gd_i 579 (by decide +kernel) (by decide +kernel)
theorem wd_580 : Cond.code yX5_figureOfOldVersion cX5_figureOfOldVersion 6 (some .int) ∈ lw_good := gd_i 580 (by decide +kernel) (by decide +kernel)
theorem wd_581 : Cond.methodLinkNest RX5 189 yX4_takenSet "SplitSecrets" ∈ lw_nest := ns_i 581 (by decide +kernel) (by decide +kernel)
theorem wd_582 : Cond.methodLink RL 69 yX6_count ∈ lw_good := gd_i 582 (by decide +kernel) (by decide +kernel)
theorem wd_583 : Cond.instanceMethod yX6_count ∈ lw_good := gd_i 583 (by decide +kernel) (by decide +kernel)
theorem wd_584 : Cond.selects RX6 yX6_count yX6_count ∈ lw_good := gd_i 584 (by decide +kernel) (by decide +kernel)
theorem wd_585 : Cond.code yX6_count cX6_count 2 (some .int) ∈ lw_good := gd_i 585 (by decide +kernel) (by decide +kernel)
theorem wd_586 : Cond.methodLinkNest RX6 104 yX5_figure "SplitSecrets" ∈ lw_nest := ns_i 586 (by decide +kernel) (by decide +kernel)
theorem wd_588 : Cond.instanceMethod yX5_figure ∈ lw_good := gd_i 588 (by decide +kernel) (by decide +kernel)
theorem wd_589 : Cond.code yX5_figure cX5_figure 2 (some .int) ∈ lw_good := gd_i 589 (by decide +kernel) (by decide +kernel)
theorem wd_590 : Cond.methodLink RX5 192 yX5_setOfOpen ∈ lw_good := gd_i 590 (by decide +kernel) (by decide +kernel)
theorem wd_592 : Cond.instanceMethod yX5_setOfOpen ∈ lw_good := gd_i 592 (by decide +kernel) (by decide +kernel)
theorem wd_593 : Cond.code yX5_setOfOpen cX5_setOfOpen 3 (some .int) ∈ lw_good := gd_i 593 (by decide +kernel) (by decide +kernel)
theorem wd_594 : Cond.methodLink RX5 195 yX5_setOfKnown ∈ lw_good := gd_i 594 (by decide +kernel) (by decide +kernel)
theorem wd_596 : Cond.instanceMethod yX5_setOfKnown ∈ lw_good := gd_i 596 (by decide +kernel) (by decide +kernel)
theorem wd_597 : Cond.code yX5_setOfKnown cX5_setOfKnown 3 (some .int) ∈ lw_good := gd_i 597 (by decide +kernel) (by decide +kernel)
theorem wd_598 : Cond.methodLink RL 73 yX6_otherwise ∈ lw_good := gd_i 598 (by decide +kernel) (by decide +kernel)
theorem wd_599 : Cond.instanceMethod yX6_otherwise ∈ lw_good := gd_i 599 (by decide +kernel) (by decide +kernel)
theorem wd_600 : Cond.selects RX6 yX6_otherwise yX6_otherwise ∈ lw_good := gd_i 600 (by decide +kernel) (by decide +kernel)
theorem wd_601 : Cond.code yX6_otherwise cX6_otherwise 4 (some .int) ∈ lw_good := gd_i 601 (by decide +kernel) (by decide +kernel)
theorem wd_602 : Cond.methodLinkNest RX6 107 yX5_otherPartFor "SplitSecrets" ∈ lw_nest := ns_i 602 (by decide +kernel) (by decide +kernel)
theorem wd_604 : Cond.instanceMethod yX5_otherPartFor ∈ lw_good := gd_i 604 (by decide +kernel) (by decide +kernel)
theorem wd_605 : Cond.code yX5_otherPartFor cX5_otherPartFor 4 (some .int) ∈ lw_good := gd_i 605 (by decide +kernel) (by decide +kernel)
theorem wd_606 : Cond.methodLink RL 77 yX6_passing ∈ lw_good := gd_i 606 (by decide +kernel) (by decide +kernel)
theorem wd_607 : Cond.instanceMethod yX6_passing ∈ lw_good := gd_i 607 (by decide +kernel) (by decide +kernel)
theorem wd_608 : Cond.selects RX6 yX6_passing yX6_passing ∈ lw_good := gd_i 608 (by decide +kernel) (by decide +kernel)
theorem wd_609 : Cond.code yX6_passing cX6_passing 4 (some .int) ∈ lw_good := gd_i 609 (by decide +kernel) (by decide +kernel)
theorem wd_610 : Cond.methodLinkNest RX6 110 yX5_tagOffsetThatPasses "SplitSecrets" ∈ lw_nest := ns_i 610 (by decide +kernel) (by decide +kernel)
theorem wd_612 : Cond.instanceMethod yX5_tagOffsetThatPasses ∈ lw_good := gd_i 612 (by decide +kernel) (by decide +kernel)
theorem wd_613 : Cond.code yX5_tagOffsetThatPasses cX5_tagOffsetThatPasses 6 (some .int) ∈ lw_good := gd_i 613 (by decide +kernel) (by decide +kernel)
theorem wd_614 : Cond.methodLinkNest RX5 198 yX4_halfBeside "SplitSecrets" ∈ lw_nest := ns_i 614 (by decide +kernel) (by decide +kernel)
theorem wd_616 : Cond.instanceMethod yX4_halfBeside ∈ lw_good := gd_i 616 (by decide +kernel) (by decide +kernel)
theorem wd_617 : Cond.code yX4_halfBeside cX4_halfBeside 2 (some (.object "SplitSecrets$Half")) ∈ lw_good := gd_i 617 (by decide +kernel) (by decide +kernel)
theorem wd_618 : Cond.methodLinkNest RX5 201 yX0_partWith "SplitSecrets" ∈ lw_nest := ns_i 618 (by decide +kernel) (by decide +kernel)
theorem wd_619 : Cond.methodLink RL 81 yX6_passes ∈ lw_good := gd_i 619 (by decide +kernel) (by decide +kernel)
theorem wd_620 : Cond.instanceMethod yX6_passes ∈ lw_good := gd_i 620 (by decide +kernel) (by decide +kernel)
theorem wd_621 : Cond.selects RX6 yX6_passes yX6_passes ∈ lw_good := gd_i 621 (by decide +kernel) (by decide +kernel)
theorem wd_622 : Cond.code yX6_passes cX6_passes 4 (some .int) ∈ lw_good := gd_i 622 (by decide +kernel) (by decide +kernel)
theorem wd_623 : Cond.methodLinkNest RX6 113 yX5_offsetsThatPass "SplitSecrets" ∈ lw_nest := ns_i 623 (by decide +kernel) (by decide +kernel)
theorem wd_625 : Cond.instanceMethod yX5_offsetsThatPass ∈ lw_good := gd_i 625 (by decide +kernel) (by decide +kernel)
theorem wd_626 : Cond.code yX5_offsetsThatPass cX5_offsetsThatPass 6 (some .int) ∈ lw_good := gd_i 626 (by decide +kernel) (by decide +kernel)
theorem wd_627 : Cond.methodLink RX5 204 yX5_tagOffsetThatPasses ∈ lw_good := gd_i 627 (by decide +kernel) (by decide +kernel)
theorem wd_628 : Cond.methodLink RL 85 yX6_needed ∈ lw_good := gd_i 628 (by decide +kernel) (by decide +kernel)
theorem wd_629 : Cond.instanceMethod yX6_needed ∈ lw_good := gd_i 629 (by decide +kernel) (by decide +kernel)
theorem wd_630 : Cond.selects RX6 yX6_needed yX6_needed ∈ lw_good := gd_i 630 (by decide +kernel) (by decide +kernel)
theorem wd_631 : Cond.code yX6_needed cX6_needed 2 (some .int) ∈ lw_good := gd_i 631 (by decide +kernel) (by decide +kernel)
theorem wd_632 : Cond.methodLinkNest RX6 116 yX5_partsNeeded "SplitSecrets" ∈ lw_nest := ns_i 632 (by decide +kernel) (by decide +kernel)
theorem wd_634 : Cond.instanceMethod yX5_partsNeeded ∈ lw_good := gd_i 634 (by decide +kernel) (by decide +kernel)
theorem wd_635 : Cond.code yX5_partsNeeded cX5_partsNeeded 2 (some .int) ∈ lw_good := gd_i 635 (by decide +kernel) (by decide +kernel)
theorem wd_636 : Cond.methodLinkNest RX5 208 yX4_rowsAtRisk "SplitSecrets" ∈ lw_nest := ns_i 636 (by decide +kernel) (by decide +kernel)
theorem wd_638 : Cond.instanceMethod yX4_rowsAtRisk ∈ lw_good := gd_i 638 (by decide +kernel) (by decide +kernel)
theorem wd_639 : Cond.code yX4_rowsAtRisk cX4_rowsAtRisk 3 (some .int) ∈ lw_good := gd_i 639 (by decide +kernel) (by decide +kernel)
theorem wd_640 : Cond.methodLink RL 89 yX6_atRisk ∈ lw_good := gd_i 640 (by decide +kernel) (by decide +kernel)
theorem wd_641 : Cond.instanceMethod yX6_atRisk ∈ lw_good := gd_i 641 (by decide +kernel) (by decide +kernel)
theorem wd_642 : Cond.selects RX6 yX6_atRisk yX6_atRisk ∈ lw_good := gd_i 642 (by decide +kernel) (by decide +kernel)
theorem wd_643 : Cond.code yX6_atRisk cX6_atRisk 2 (some .int) ∈ lw_good := gd_i 643 (by decide +kernel) (by decide +kernel)
theorem wd_644 : Cond.methodLinkNest RX6 119 yX5_versionsAtRisk "SplitSecrets" ∈ lw_nest := ns_i 644 (by decide +kernel) (by decide +kernel)
theorem wd_646 : Cond.instanceMethod yX5_versionsAtRisk ∈ lw_good := gd_i 646 (by decide +kernel) (by decide +kernel)
theorem wd_647 : Cond.code yX5_versionsAtRisk cX5_versionsAtRisk 2 (some .int) ∈ lw_good := gd_i 647 (by decide +kernel) (by decide +kernel)
theorem wd_648 : Cond.methodLink RL 93 yX6_ifMerged ∈ lw_good := gd_i 648 (by decide +kernel) (by decide +kernel)
theorem wd_649 : Cond.instanceMethod yX6_ifMerged ∈ lw_good := gd_i 649 (by decide +kernel) (by decide +kernel)
theorem wd_650 : Cond.selects RX6 yX6_ifMerged yX6_ifMerged ∈ lw_good := gd_i 650 (by decide +kernel) (by decide +kernel)
theorem wd_651 : Cond.code yX6_ifMerged cX6_ifMerged 2 (some .int) ∈ lw_good := gd_i 651 (by decide +kernel) (by decide +kernel)
theorem wd_652 : Cond.methodLinkNest RX6 122 yX5_answerOfMerger "SplitSecrets" ∈ lw_nest := ns_i 652 (by decide +kernel) (by decide +kernel)
theorem wd_653 : Cond.methodLink RL 99 yX6_put ∈ lw_good := gd_i 653 (by decide +kernel) (by decide +kernel)
theorem wd_654 : Cond.instanceMethod yX6_put ∈ lw_good := gd_i 654 (by decide +kernel) (by decide +kernel)
theorem wd_655 : Cond.selects RX6 yX6_put yX6_put ∈ lw_good := gd_i 655 (by decide +kernel) (by decide +kernel)
theorem wd_656 : Cond.code yX6_put cX6_put 3 (some .int) ∈ lw_good := gd_i 656 (by decide +kernel) (by decide +kernel)
theorem wd_657 : Cond.methodLinkNest RX6 125 yX2_append "SplitSecrets" ∈ lw_nest := ns_i 657 (by decide +kernel) (by decide +kernel)
theorem wd_659 : Cond.instanceMethod yX2_append ∈ lw_good := gd_i 659 (by decide +kernel) (by decide +kernel)
theorem wd_660 : Cond.code yX2_append cX2_append 5 (some .int) ∈ lw_good := gd_i 660 (by decide +kernel) (by decide +kernel)
theorem wd_661 : Cond.methodLink RX2 15 yX2_signsIn ∈ lw_good := gd_i 661 (by decide +kernel) (by decide +kernel)
theorem wd_662 : Cond.static yX2_signsIn ∈ lw_good := gd_i 662 (by decide +kernel) (by decide +kernel)
theorem wd_663 : Cond.code yX2_signsIn cX2_signsIn 4 (some .int) ∈ lw_good := gd_i 663 (by decide +kernel) (by decide +kernel)
theorem wd_664 : Cond.methodLink RX2 23 yX2_codeIn ∈ lw_good := gd_i 664 (by decide +kernel) (by decide +kernel)
theorem wd_665 : Cond.static yX2_codeIn ∈ lw_good := gd_i 665 (by decide +kernel) (by decide +kernel)
theorem wd_666 : Cond.code yX2_codeIn cX2_codeIn 3 (some .int) ∈ lw_good := gd_i 666 (by decide +kernel) (by decide +kernel)
theorem wd_667 : Cond.methodLink RL 104 yX6_wipe ∈ lw_good := gd_i 667 (by decide +kernel) (by decide +kernel)
theorem wd_668 : Cond.instanceMethod yX6_wipe ∈ lw_good := gd_i 668 (by decide +kernel) (by decide +kernel)
theorem wd_669 : Cond.selects RX6 yX6_wipe yX6_wipe ∈ lw_good := gd_i 669 (by decide +kernel) (by decide +kernel)
theorem wd_670 : Cond.code yX6_wipe cX6_wipe 1 (some .int) ∈ lw_good := gd_i 670 (by decide +kernel) (by decide +kernel)
theorem wd_671 : Cond.methodLinkNest RX6 129 yX2_clear "SplitSecrets" ∈ lw_nest := ns_i 671 (by decide +kernel) (by decide +kernel)
theorem wd_673 : Cond.instanceMethod yX2_clear ∈ lw_good := gd_i 673 (by decide +kernel) (by decide +kernel)
theorem wd_674 : Cond.code yX2_clear cX2_clear 2 (some .int) ∈ lw_good := gd_i 674 (by decide +kernel) (by decide +kernel)
theorem wd_675 : Cond.methodLink RL 109 yX6_fault ∈ lw_good := gd_i 675 (by decide +kernel) (by decide +kernel)
theorem wd_676 : Cond.instanceMethod yX6_fault ∈ lw_good := gd_i 676 (by decide +kernel) (by decide +kernel)
theorem wd_677 : Cond.selects RX6 yX6_fault yX6_fault ∈ lw_good := gd_i 677 (by decide +kernel) (by decide +kernel)
theorem wd_678 : Cond.code yX6_fault cX6_fault 1 (some .int) ∈ lw_good := gd_i 678 (by decide +kernel) (by decide +kernel)
theorem wd_679 : Cond.methodLinkNest RX6 133 yX3_firstFault "SplitSecrets" ∈ lw_nest := ns_i 679 (by decide +kernel) (by decide +kernel)
theorem wd_681 : Cond.instanceMethod yX3_firstFault ∈ lw_good := gd_i 681 (by decide +kernel) (by decide +kernel)
theorem wd_682 : Cond.code yX3_firstFault cX3_firstFault 2 (some .int) ∈ lw_good := gd_i 682 (by decide +kernel) (by decide +kernel)
theorem wd_683 : Cond.methodLink RX3 19 yX3_goToStart ∈ lw_good := gd_i 683 (by decide +kernel) (by decide +kernel)
theorem wd_685 : Cond.instanceMethod yX3_goToStart ∈ lw_good := gd_i 685 (by decide +kernel) (by decide +kernel)
theorem wd_686 : Cond.code yX3_goToStart cX3_goToStart 1 (none) ∈ lw_good := gd_i 686 (by decide +kernel) (by decide +kernel)
theorem wd_687 : Cond.methodLink RX3 22 yX3_readsNextOrder ∈ lw_good := gd_i 687 (by decide +kernel) (by decide +kernel)
theorem wd_689 : Cond.instanceMethod yX3_readsNextOrder ∈ lw_good := gd_i 689 (by decide +kernel) (by decide +kernel)
theorem wd_690 : Cond.code yX3_readsNextOrder cX3_readsNextOrder 1 (some .boolean) ∈ lw_good := gd_i 690 (by decide +kernel) (by decide +kernel)
theorem wd_691 : Cond.methodLink RX3 31 yX3_reads ∈ lw_good := gd_i 691 (by decide +kernel) (by decide +kernel)
theorem wd_693 : Cond.instanceMethod yX3_reads ∈ lw_good := gd_i 693 (by decide +kernel) (by decide +kernel)
theorem wd_694 : Cond.code yX3_reads cX3_reads 2 (some .boolean) ∈ lw_good := gd_i 694 (by decide +kernel) (by decide +kernel)
theorem wd_695 : Cond.methodLinkNest RX3 35 yX2_signAt "SplitSecrets" ∈ lw_nest := ns_i 695 (by decide +kernel) (by decide +kernel)
theorem wd_697 : Cond.instanceMethod yX2_signAt ∈ lw_good := gd_i 697 (by decide +kernel) (by decide +kernel)
theorem wd_698 : Cond.code yX2_signAt cX2_signAt 2 (some .char) ∈ lw_good := gd_i 698 (by decide +kernel) (by decide +kernel)
theorem wd_699 : Cond.methodLink RX3 43 yX3_readsNumber ∈ lw_good := gd_i 699 (by decide +kernel) (by decide +kernel)
theorem wd_701 : Cond.instanceMethod yX3_readsNumber ∈ lw_good := gd_i 701 (by decide +kernel) (by decide +kernel)
theorem wd_702 : Cond.code yX3_readsNumber cX3_readsNumber 1 (some .boolean) ∈ lw_good := gd_i 702 (by decide +kernel) (by decide +kernel)
theorem wd_703 : Cond.methodLink RX3 68 yX3_numberRead ∈ lw_good := gd_i 703 (by decide +kernel) (by decide +kernel)
theorem wd_705 : Cond.instanceMethod yX3_numberRead ∈ lw_good := gd_i 705 (by decide +kernel) (by decide +kernel)
theorem wd_706 : Cond.code yX3_numberRead cX3_numberRead 4 (some .int) ∈ lw_good := gd_i 706 (by decide +kernel) (by decide +kernel)
theorem wd_707 : Cond.methodLink RX3 61 yX3_digitRead ∈ lw_good := gd_i 707 (by decide +kernel) (by decide +kernel)
theorem wd_709 : Cond.instanceMethod yX3_digitRead ∈ lw_good := gd_i 709 (by decide +kernel) (by decide +kernel)
theorem wd_710 : Cond.code yX3_digitRead cX3_digitRead 2 (some .int) ∈ lw_good := gd_i 710 (by decide +kernel) (by decide +kernel)
theorem wd_711 : Cond.methodLink RX3 46 yX3_readsSecret ∈ lw_good := gd_i 711 (by decide +kernel) (by decide +kernel)
theorem wd_713 : Cond.instanceMethod yX3_readsSecret ∈ lw_good := gd_i 713 (by decide +kernel) (by decide +kernel)
theorem wd_714 : Cond.code yX3_readsSecret cX3_readsSecret 1 (some .boolean) ∈ lw_good := gd_i 714 (by decide +kernel) (by decide +kernel)
theorem wd_715 : Cond.methodLink RX3 49 yX3_readsStore ∈ lw_good := gd_i 715 (by decide +kernel) (by decide +kernel)
theorem wd_717 : Cond.instanceMethod yX3_readsStore ∈ lw_good := gd_i 717 (by decide +kernel) (by decide +kernel)
theorem wd_718 : Cond.code yX3_readsStore cX3_readsStore 2 (some .boolean) ∈ lw_good := gd_i 718 (by decide +kernel) (by decide +kernel)
theorem wd_719 : Cond.methodLink RX3 52 yX3_readsOffsets ∈ lw_good := gd_i 719 (by decide +kernel) (by decide +kernel)
theorem wd_721 : Cond.instanceMethod yX3_readsOffsets ∈ lw_good := gd_i 721 (by decide +kernel) (by decide +kernel)
theorem wd_722 : Cond.code yX3_readsOffsets cX3_readsOffsets 1 (some .boolean) ∈ lw_good := gd_i 722 (by decide +kernel) (by decide +kernel)
theorem wd_723 : Cond.methodLink RX3 55 yX3_readsVersion ∈ lw_good := gd_i 723 (by decide +kernel) (by decide +kernel)
theorem wd_725 : Cond.instanceMethod yX3_readsVersion ∈ lw_good := gd_i 725 (by decide +kernel) (by decide +kernel)
theorem wd_726 : Cond.code yX3_readsVersion cX3_readsVersion 1 (some .boolean) ∈ lw_good := gd_i 726 (by decide +kernel) (by decide +kernel)
theorem wd_727 : Cond.methodLink RL 113 yX6_carryOut ∈ lw_good := gd_i 727 (by decide +kernel) (by decide +kernel)
theorem wd_728 : Cond.instanceMethod yX6_carryOut ∈ lw_good := gd_i 728 (by decide +kernel) (by decide +kernel)
theorem wd_729 : Cond.selects RX6 yX6_carryOut yX6_carryOut ∈ lw_good := gd_i 729 (by decide +kernel) (by decide +kernel)
theorem wd_730 : Cond.code yX6_carryOut cX6_carryOut 2 (some .int) ∈ lw_good := gd_i 730 (by decide +kernel) (by decide +kernel)
theorem wd_731 : Cond.methodLinkNest RX6 136 yX3_goToStart "SplitSecrets" ∈ lw_nest := ns_i 731 (by decide +kernel) (by decide +kernel)
theorem wd_732 : Cond.methodLinkNest RX6 139 yX3_readsNextOrder "SplitSecrets" ∈ lw_nest := ns_i 732 (by decide +kernel) (by decide +kernel)
theorem wd_733 : Cond.methodLink RX6 143 yX6_answerOfOrder ∈ lw_good := gd_i 733 (by decide +kernel) (by decide +kernel)
theorem wd_735 : Cond.instanceMethod yX6_answerOfOrder ∈ lw_good := gd_i 735 (by decide +kernel) (by decide +kernel)
theorem wd_736 : Cond.code yX6_answerOfOrder cX6_answerOfOrder 1 (some .int) ∈ lw_good := gd_i 736 (by decide +kernel) (by decide +kernel)
theorem wd_737 : Cond.methodLink RX6 179 yX6_versionOfOrder ∈ lw_good := gd_i 737 (by decide +kernel) (by decide +kernel)
theorem wd_739 : Cond.instanceMethod yX6_versionOfOrder ∈ lw_good := gd_i 739 (by decide +kernel) (by decide +kernel)
theorem wd_740 : Cond.code yX6_versionOfOrder cX6_versionOfOrder 1 (some .int) ∈ lw_good := gd_i 740 (by decide +kernel) (by decide +kernel)
theorem wd_741 : Cond.methodLinkNest RX6 182 yX5_versionNow "SplitSecrets" ∈ lw_nest := ns_i 741 (by decide +kernel) (by decide +kernel)
theorem wd_743 : Cond.instanceMethod yX5_versionNow ∈ lw_good := gd_i 743 (by decide +kernel) (by decide +kernel)
theorem wd_744 : Cond.code yX5_versionNow cX5_versionNow 2 (some .int) ∈ lw_good := gd_i 744 (by decide +kernel) (by decide +kernel)
theorem wd_745 : Cond.methodLink RL 117 yX6_undo ∈ lw_good := gd_i 745 (by decide +kernel) (by decide +kernel)
theorem wd_746 : Cond.instanceMethod yX6_undo ∈ lw_good := gd_i 746 (by decide +kernel) (by decide +kernel)
theorem wd_747 : Cond.selects RX6 yX6_undo yX6_undo ∈ lw_good := gd_i 747 (by decide +kernel) (by decide +kernel)
theorem wd_748 : Cond.code yX6_undo cX6_undo 1 (some .int) ∈ lw_good := gd_i 748 (by decide +kernel) (by decide +kernel)
theorem wd_749 : Cond.methodLinkNest RX6 146 yX1_takesBack "SplitSecrets" ∈ lw_nest := ns_i 749 (by decide +kernel) (by decide +kernel)
theorem wd_751 : Cond.instanceMethod yX1_takesBack ∈ lw_good := gd_i 751 (by decide +kernel) (by decide +kernel)
theorem wd_752 : Cond.code yX1_takesBack cX1_takesBack 2 (some .boolean) ∈ lw_good := gd_i 752 (by decide +kernel) (by decide +kernel)
theorem wd_753 : Cond.methodLink RL 121 yX6_save ∈ lw_good := gd_i 753 (by decide +kernel) (by decide +kernel)
theorem wd_754 : Cond.instanceMethod yX6_save ∈ lw_good := gd_i 754 (by decide +kernel) (by decide +kernel)
theorem wd_755 : Cond.selects RX6 yX6_save yX6_save ∈ lw_good := gd_i 755 (by decide +kernel) (by decide +kernel)
theorem wd_756 : Cond.code yX6_save cX6_save 2 (some .int) ∈ lw_good := gd_i 756 (by decide +kernel) (by decide +kernel)
theorem wd_757 : Cond.methodLink RX6 150 yX6_isSlot ∈ lw_good := gd_i 757 (by decide +kernel) (by decide +kernel)
theorem wd_758 : Cond.static yX6_isSlot ∈ lw_good := gd_i 758 (by decide +kernel) (by decide +kernel)
theorem wd_759 : Cond.code yX6_isSlot cX6_isSlot 1 (some .boolean) ∈ lw_good := gd_i 759 (by decide +kernel) (by decide +kernel)
theorem wd_760 : Cond.methodLinkNest RX6 154 yX5_copyState "SplitSecrets" ∈ lw_nest := ns_i 760 (by decide +kernel) (by decide +kernel)
theorem wd_761 : Cond.methodLink RL 125 yX6_restore ∈ lw_good := gd_i 761 (by decide +kernel) (by decide +kernel)
theorem wd_762 : Cond.instanceMethod yX6_restore ∈ lw_good := gd_i 762 (by decide +kernel) (by decide +kernel)
theorem wd_763 : Cond.selects RX6 yX6_restore yX6_restore ∈ lw_good := gd_i 763 (by decide +kernel) (by decide +kernel)
theorem wd_764 : Cond.code yX6_restore cX6_restore 2 (some .int) ∈ lw_good := gd_i 764 (by decide +kernel) (by decide +kernel)
theorem wd_765 : Cond.classLink RL 10 RX7 ∈ lw_good := gd_i 765 (by decide +kernel) (by decide +kernel)
theorem wd_766 : Cond.instantiable RX7 11 ∈ lw_good := gd_i 766 (by decide +kernel) (by decide +kernel)
theorem wd_767 : Cond.methodLink RL 12 yX7_init ∈ lw_good := gd_i 767 (by decide +kernel) (by decide +kernel)
theorem wd_768 : Cond.instanceMethod yX7_init ∈ lw_good := gd_i 768 (by decide +kernel) (by decide +kernel)
theorem wd_769 : Cond.code yX7_init cX7_init 1 (none) ∈ lw_good := gd_i 769 (by decide +kernel) (by decide +kernel)
theorem wd_770 : Cond.methodLink RX7 1 objectInit ∈ lw_good := gd_i 770 (by decide +kernel) (by decide +kernel)
theorem wd_771 : Cond.fieldLink RX7 7 "SplitSecretsModel" "s" "[I" ∈ lw_good := gd_i 771 (by decide +kernel) (by decide +kernel)
theorem wd_772 : Cond.fieldLink RX7 13 "SplitSecretsModel" "history" "[I" ∈ lw_good := gd_i 772 (by decide +kernel) (by decide +kernel)
theorem wd_773 : Cond.fieldLink RX7 44 "SplitSecretsModel" "kept" "I" ∈ lw_good := gd_i 773 (by decide +kernel) (by decide +kernel)
theorem wd_774 : Cond.fieldLink RX7 16 "SplitSecretsModel" "slots" "[I" ∈ lw_good := gd_i 774 (by decide +kernel) (by decide +kernel)
theorem wd_775 : Cond.fieldLink RX7 19 "SplitSecretsModel" "isSaved" "[Z" ∈ lw_good := gd_i 775 (by decide +kernel) (by decide +kernel)
theorem wd_776 : Cond.fieldLink RX7 23 "SplitSecretsModel" "pad" "[I" ∈ lw_good := gd_i 776 (by decide +kernel) (by decide +kernel)
theorem wd_777 : Cond.fieldLink RX7 151 "SplitSecretsModel" "length" "I" ∈ lw_good := gd_i 777 (by decide +kernel) (by decide +kernel)
theorem wd_778 : Cond.fieldLink RX7 26 "SplitSecretsModel" "ahead" "[I" ∈ lw_good := gd_i 778 (by decide +kernel) (by decide +kernel)
theorem wd_779 : Cond.fieldLink RX7 163 "SplitSecretsModel" "position" "I" ∈ lw_good := gd_i 779 (by decide +kernel) (by decide +kernel)
theorem wd_780 : Cond.fieldLink RX7 159 "SplitSecretsModel" "isWrong" "Z" ∈ lw_good := gd_i 780 (by decide +kernel) (by decide +kernel)
theorem wd_781 : Cond.fieldLink RX7 29 "SplitSecretsModel" "order" "[I" ∈ lw_good := gd_i 781 (by decide +kernel) (by decide +kernel)
theorem wd_805 : Cond.methodLink RL 17 yX7_set ∈ lw_good := gd_i 805 (by decide +kernel) (by decide +kernel)
theorem wd_806 : Cond.instanceMethod yX7_set ∈ lw_good := gd_i 806 (by decide +kernel) (by decide +kernel)
theorem wd_807 : Cond.selects RX7 yX7_set yX7_set ∈ lw_good := gd_i 807 (by decide +kernel) (by decide +kernel)
theorem wd_808 : Cond.code yX7_set cX7_set 5 (some .int) ∈ lw_good := gd_i 808 (by decide +kernel) (by decide +kernel)
theorem wd_809 : Cond.methodLink RX7 32 yX7_in ∈ lw_good := gd_i 809 (by decide +kernel) (by decide +kernel)
theorem wd_810 : Cond.static yX7_in ∈ lw_good := gd_i 810 (by decide +kernel) (by decide +kernel)
theorem wd_811 : Cond.code yX7_in cX7_in 3 (some .boolean) ∈ lw_good := gd_i 811 (by decide +kernel) (by decide +kernel)
theorem wd_812 : Cond.methodLink RX7 142 yX7_record ∈ lw_good := gd_i 812 (by decide +kernel) (by decide +kernel)
theorem wd_814 : Cond.instanceMethod yX7_record ∈ lw_good := gd_i 814 (by decide +kernel) (by decide +kernel)
theorem wd_815 : Cond.code yX7_record cX7_record 1 (none) ∈ lw_good := gd_i 815 (by decide +kernel) (by decide +kernel)
theorem wd_816 : Cond.methodLink RX7 48 yX7_looks ∈ lw_good := gd_i 816 (by decide +kernel) (by decide +kernel)
theorem wd_818 : Cond.instanceMethod yX7_looks ∈ lw_good := gd_i 818 (by decide +kernel) (by decide +kernel)
theorem wd_819 : Cond.code yX7_looks cX7_looks 2 (none) ∈ lw_good := gd_i 819 (by decide +kernel) (by decide +kernel)
theorem wd_820 : Cond.methodLink RX7 51 yX7_pushes ∈ lw_good := gd_i 820 (by decide +kernel) (by decide +kernel)
theorem wd_822 : Cond.instanceMethod yX7_pushes ∈ lw_good := gd_i 822 (by decide +kernel) (by decide +kernel)
theorem wd_823 : Cond.code yX7_pushes cX7_pushes 2 (none) ∈ lw_good := gd_i 823 (by decide +kernel) (by decide +kernel)
theorem wd_824 : Cond.methodLink RL 22 yX7_seed ∈ lw_good := gd_i 824 (by decide +kernel) (by decide +kernel)
theorem wd_825 : Cond.instanceMethod yX7_seed ∈ lw_good := gd_i 825 (by decide +kernel) (by decide +kernel)
theorem wd_826 : Cond.selects RX7 yX7_seed yX7_seed ∈ lw_good := gd_i 826 (by decide +kernel) (by decide +kernel)
theorem wd_827 : Cond.code yX7_seed cX7_seed 3 (some .int) ∈ lw_good := gd_i 827 (by decide +kernel) (by decide +kernel)
theorem wd_828 : Cond.methodLink RL 26 yX7_keep ∈ lw_good := gd_i 828 (by decide +kernel) (by decide +kernel)
theorem wd_829 : Cond.instanceMethod yX7_keep ∈ lw_good := gd_i 829 (by decide +kernel) (by decide +kernel)
theorem wd_830 : Cond.selects RX7 yX7_keep yX7_keep ∈ lw_good := gd_i 830 (by decide +kernel) (by decide +kernel)
theorem wd_831 : Cond.code yX7_keep cX7_keep 2 (some .int) ∈ lw_good := gd_i 831 (by decide +kernel) (by decide +kernel)
theorem wd_832 : Cond.methodLink RX7 145 yX7_tries ∈ lw_good := gd_i 832 (by decide +kernel) (by decide +kernel)
theorem wd_834 : Cond.instanceMethod yX7_tries ∈ lw_good := gd_i 834 (by decide +kernel) (by decide +kernel)
theorem wd_835 : Cond.code yX7_tries cX7_tries 7 (some .int) ∈ lw_good := gd_i 835 (by decide +kernel) (by decide +kernel)
theorem wd_836 : Cond.methodLink RX7 113 yX7_does ∈ lw_good := gd_i 836 (by decide +kernel) (by decide +kernel)
theorem wd_838 : Cond.instanceMethod yX7_does ∈ lw_good := gd_i 838 (by decide +kernel) (by decide +kernel)
theorem wd_839 : Cond.code yX7_does cX7_does 6 (some .int) ∈ lw_good := gd_i 839 (by decide +kernel) (by decide +kernel)
theorem wd_840 : Cond.methodLink RX7 117 yX7_keeps ∈ lw_good := gd_i 840 (by decide +kernel) (by decide +kernel)
theorem wd_842 : Cond.instanceMethod yX7_keeps ∈ lw_good := gd_i 842 (by decide +kernel) (by decide +kernel)
theorem wd_843 : Cond.code yX7_keeps cX7_keeps 2 (some .int) ∈ lw_good := gd_i 843 (by decide +kernel) (by decide +kernel)
theorem wd_844 : Cond.methodLink RX7 59 yX7_areAwake ∈ lw_good := gd_i 844 (by decide +kernel) (by decide +kernel)
theorem wd_846 : Cond.instanceMethod yX7_areAwake ∈ lw_good := gd_i 846 (by decide +kernel) (by decide +kernel)
theorem wd_847 : Cond.code yX7_areAwake cX7_areAwake 1 (some .boolean) ∈ lw_good := gd_i 847 (by decide +kernel) (by decide +kernel)
theorem wd_848 : Cond.methodLink RX7 69 yX7_makes ∈ lw_good := gd_i 848 (by decide +kernel) (by decide +kernel)
theorem wd_850 : Cond.instanceMethod yX7_makes ∈ lw_good := gd_i 850 (by decide +kernel) (by decide +kernel)
theorem wd_851 : Cond.code yX7_makes cX7_makes 6 (none) ∈ lw_good := gd_i 851 (by decide +kernel) (by decide +kernel)
theorem wd_852 : Cond.methodLink RX7 55 yX7_draw ∈ lw_good := gd_i 852 (by decide +kernel) (by decide +kernel)
theorem wd_854 : Cond.instanceMethod yX7_draw ∈ lw_good := gd_i 854 (by decide +kernel) (by decide +kernel)
theorem wd_855 : Cond.code yX7_draw cX7_draw 2 (some .int) ∈ lw_good := gd_i 855 (by decide +kernel) (by decide +kernel)
theorem wd_856 : Jvm.Cond.constant RX7 54 65537 ∈ lw_good := gd_i 856 (by decide +kernel) (by decide +kernel)
theorem wd_857 : Cond.methodLink RX7 40 yX7_at ∈ lw_good := gd_i 857 (by decide +kernel) (by decide +kernel)
theorem wd_858 : Cond.static yX7_at ∈ lw_good := gd_i 858 (by decide +kernel) (by decide +kernel)
theorem wd_859 : Cond.code yX7_at cX7_at 3 (some .int) ∈ lw_good := gd_i 859 (by decide +kernel) (by decide +kernel)
theorem wd_860 : Cond.methodLink RX7 36 yX7_cell ∈ lw_good := gd_i 860 (by decide +kernel) (by decide +kernel)
theorem wd_861 : Cond.static yX7_cell ∈ lw_good := gd_i 861 (by decide +kernel) (by decide +kernel)
theorem wd_862 : Cond.code yX7_cell cX7_cell 2 (some .int) ∈ lw_good := gd_i 862 (by decide +kernel) (by decide +kernel)
theorem wd_863 : Cond.methodLink RX7 120 yX7_refreshed ∈ lw_good := gd_i 863 (by decide +kernel) (by decide +kernel)
theorem wd_865 : Cond.instanceMethod yX7_refreshed ∈ lw_good := gd_i 865 (by decide +kernel) (by decide +kernel)
theorem wd_866 : Cond.code yX7_refreshed cX7_refreshed 2 (some .int) ∈ lw_good := gd_i 866 (by decide +kernel) (by decide +kernel)
theorem wd_867 : Cond.methodLink RX7 87 yX7_isSecret ∈ lw_good := gd_i 867 (by decide +kernel) (by decide +kernel)
theorem wd_869 : Cond.instanceMethod yX7_isSecret ∈ lw_good := gd_i 869 (by decide +kernel) (by decide +kernel)
theorem wd_870 : Cond.code yX7_isSecret cX7_isSecret 2 (some .boolean) ∈ lw_good := gd_i 870 (by decide +kernel) (by decide +kernel)
theorem wd_871 : Cond.methodLink RX7 91 yX7_canRefresh ∈ lw_good := gd_i 871 (by decide +kernel) (by decide +kernel)
theorem wd_873 : Cond.instanceMethod yX7_canRefresh ∈ lw_good := gd_i 873 (by decide +kernel) (by decide +kernel)
theorem wd_874 : Cond.code yX7_canRefresh cX7_canRefresh 2 (some .boolean) ∈ lw_good := gd_i 874 (by decide +kernel) (by decide +kernel)
theorem wd_875 : Cond.methodLink RX7 94 yX7_refreshes ∈ lw_good := gd_i 875 (by decide +kernel) (by decide +kernel)
theorem wd_877 : Cond.instanceMethod yX7_refreshes ∈ lw_good := gd_i 877 (by decide +kernel) (by decide +kernel)
theorem wd_878 : Cond.code yX7_refreshes cX7_refreshes 6 (none) ∈ lw_good := gd_i 878 (by decide +kernel) (by decide +kernel)
theorem wd_879 : Cond.methodLink RX7 63 yX7_partOf ∈ lw_good := gd_i 879 (by decide +kernel) (by decide +kernel)
theorem wd_881 : Cond.instanceMethod yX7_partOf ∈ lw_good := gd_i 881 (by decide +kernel) (by decide +kernel)
theorem wd_882 : Cond.code yX7_partOf cX7_partOf 3 (some .int) ∈ lw_good := gd_i 882 (by decide +kernel) (by decide +kernel)
theorem wd_883 : Cond.methodLink RX7 66 yX7_burns ∈ lw_good := gd_i 883 (by decide +kernel) (by decide +kernel)
theorem wd_885 : Cond.instanceMethod yX7_burns ∈ lw_good := gd_i 885 (by decide +kernel) (by decide +kernel)
theorem wd_886 : Cond.code yX7_burns cX7_burns 5 (some .int) ∈ lw_good := gd_i 886 (by decide +kernel) (by decide +kernel)
theorem wd_887 : Cond.methodLink RX7 123 yX7_burnt ∈ lw_good := gd_i 887 (by decide +kernel) (by decide +kernel)
theorem wd_889 : Cond.instanceMethod yX7_burnt ∈ lw_good := gd_i 889 (by decide +kernel) (by decide +kernel)
theorem wd_890 : Cond.code yX7_burnt cX7_burnt 2 (some .int) ∈ lw_good := gd_i 890 (by decide +kernel) (by decide +kernel)
theorem wd_891 : Cond.methodLink RX7 126 yX7_merges ∈ lw_good := gd_i 891 (by decide +kernel) (by decide +kernel)
theorem wd_893 : Cond.instanceMethod yX7_merges ∈ lw_good := gd_i 893 (by decide +kernel) (by decide +kernel)
theorem wd_894 : Cond.code yX7_merges cX7_merges 3 (some .int) ∈ lw_good := gd_i 894 (by decide +kernel) (by decide +kernel)
theorem wd_895 : Cond.methodLink RX7 101 yX7_merged ∈ lw_good := gd_i 895 (by decide +kernel) (by decide +kernel)
theorem wd_897 : Cond.instanceMethod yX7_merged ∈ lw_good := gd_i 897 (by decide +kernel) (by decide +kernel)
theorem wd_898 : Cond.code yX7_merged cX7_merged 2 (some .int) ∈ lw_good := gd_i 898 (by decide +kernel) (by decide +kernel)
theorem wd_899 : Cond.methodLink RX7 83 yX7_isPassedNow ∈ lw_good := gd_i 899 (by decide +kernel) (by decide +kernel)
theorem wd_901 : Cond.instanceMethod yX7_isPassedNow ∈ lw_good := gd_i 901 (by decide +kernel) (by decide +kernel)
theorem wd_902 : Cond.code yX7_isPassedNow cX7_isPassedNow 3 (some .boolean) ∈ lw_good := gd_i 902 (by decide +kernel) (by decide +kernel)
theorem wd_903 : Cond.methodLink RX7 79 yX7_isPassed ∈ lw_good := gd_i 903 (by decide +kernel) (by decide +kernel)
theorem wd_905 : Cond.instanceMethod yX7_isPassed ∈ lw_good := gd_i 905 (by decide +kernel) (by decide +kernel)
theorem wd_906 : Cond.code yX7_isPassed cX7_isPassed 6 (some .boolean) ∈ lw_good := gd_i 906 (by decide +kernel) (by decide +kernel)
theorem wd_907 : Cond.methodLink RX7 73 yX7_toldPart ∈ lw_good := gd_i 907 (by decide +kernel) (by decide +kernel)
theorem wd_909 : Cond.instanceMethod yX7_toldPart ∈ lw_good := gd_i 909 (by decide +kernel) (by decide +kernel)
theorem wd_910 : Cond.code yX7_toldPart cX7_toldPart 4 (some .int) ∈ lw_good := gd_i 910 (by decide +kernel) (by decide +kernel)
theorem wd_911 : Cond.methodLink RX7 76 yX7_tagOf ∈ lw_good := gd_i 911 (by decide +kernel) (by decide +kernel)
theorem wd_913 : Cond.instanceMethod yX7_tagOf ∈ lw_good := gd_i 913 (by decide +kernel) (by decide +kernel)
theorem wd_914 : Cond.code yX7_tagOf cX7_tagOf 3 (some .int) ∈ lw_good := gd_i 914 (by decide +kernel) (by decide +kernel)
theorem wd_915 : Cond.methodLink RX7 104 yX7_isLiedAbout ∈ lw_good := gd_i 915 (by decide +kernel) (by decide +kernel)
theorem wd_917 : Cond.instanceMethod yX7_isLiedAbout ∈ lw_good := gd_i 917 (by decide +kernel) (by decide +kernel)
theorem wd_918 : Cond.code yX7_isLiedAbout cX7_isLiedAbout 2 (some .boolean) ∈ lw_good := gd_i 918 (by decide +kernel) (by decide +kernel)
theorem wd_919 : Cond.methodLink RX7 129 yX7_sleeps ∈ lw_good := gd_i 919 (by decide +kernel) (by decide +kernel)
theorem wd_921 : Cond.instanceMethod yX7_sleeps ∈ lw_good := gd_i 921 (by decide +kernel) (by decide +kernel)
theorem wd_922 : Cond.code yX7_sleeps cX7_sleeps 2 (some .int) ∈ lw_good := gd_i 922 (by decide +kernel) (by decide +kernel)
theorem wd_923 : Cond.methodLink RX7 98 yX7_isStore ∈ lw_good := gd_i 923 (by decide +kernel) (by decide +kernel)
theorem wd_924 : Cond.static yX7_isStore ∈ lw_good := gd_i 924 (by decide +kernel) (by decide +kernel)
theorem wd_925 : Cond.code yX7_isStore cX7_isStore 1 (some .boolean) ∈ lw_good := gd_i 925 (by decide +kernel) (by decide +kernel)
theorem wd_926 : Cond.methodLink RX7 132 yX7_lies ∈ lw_good := gd_i 926 (by decide +kernel) (by decide +kernel)
theorem wd_928 : Cond.instanceMethod yX7_lies ∈ lw_good := gd_i 928 (by decide +kernel) (by decide +kernel)
theorem wd_929 : Cond.code yX7_lies cX7_lies 6 (some .int) ∈ lw_good := gd_i 929 (by decide +kernel) (by decide +kernel)
theorem wd_930 : Cond.methodLink RX7 136 yX7_steals ∈ lw_good := gd_i 930 (by decide +kernel) (by decide +kernel)
theorem wd_932 : Cond.instanceMethod yX7_steals ∈ lw_good := gd_i 932 (by decide +kernel) (by decide +kernel)
theorem wd_933 : Cond.code yX7_steals cX7_steals 7 (some .int) ∈ lw_good := gd_i 933 (by decide +kernel) (by decide +kernel)
theorem wd_934 : Cond.methodLink RX7 107 yX7_rankOf ∈ lw_good := gd_i 934 (by decide +kernel) (by decide +kernel)
theorem wd_936 : Cond.instanceMethod yX7_rankOf ∈ lw_good := gd_i 936 (by decide +kernel) (by decide +kernel)
theorem wd_937 : Cond.code yX7_rankOf cX7_rankOf 5 (some .int) ∈ lw_good := gd_i 937 (by decide +kernel) (by decide +kernel)
theorem wd_938 : Cond.methodLink RX7 139 yX7_passes ∈ lw_good := gd_i 938 (by decide +kernel) (by decide +kernel)
theorem wd_940 : Cond.instanceMethod yX7_passes ∈ lw_good := gd_i 940 (by decide +kernel) (by decide +kernel)
theorem wd_941 : Cond.code yX7_passes cX7_passes 4 (some .int) ∈ lw_good := gd_i 941 (by decide +kernel) (by decide +kernel)
theorem wd_942 : Cond.methodLink RX7 110 yX7_beat ∈ lw_good := gd_i 942 (by decide +kernel) (by decide +kernel)
theorem wd_944 : Cond.instanceMethod yX7_beat ∈ lw_good := gd_i 944 (by decide +kernel) (by decide +kernel)
theorem wd_945 : Cond.code yX7_beat cX7_beat 2 (none) ∈ lw_good := gd_i 945 (by decide +kernel) (by decide +kernel)
theorem wd_946 : Cond.methodLink RL 30 yX7_refresh ∈ lw_good := gd_i 946 (by decide +kernel) (by decide +kernel)
theorem wd_947 : Cond.instanceMethod yX7_refresh ∈ lw_good := gd_i 947 (by decide +kernel) (by decide +kernel)
theorem wd_948 : Cond.selects RX7 yX7_refresh yX7_refresh ∈ lw_good := gd_i 948 (by decide +kernel) (by decide +kernel)
theorem wd_949 : Cond.code yX7_refresh cX7_refresh 2 (some .int) ∈ lw_good := gd_i 949 (by decide +kernel) (by decide +kernel)
theorem wd_950 : Cond.methodLink RL 34 yX7_burn ∈ lw_good := gd_i 950 (by decide +kernel) (by decide +kernel)
theorem wd_951 : Cond.instanceMethod yX7_burn ∈ lw_good := gd_i 951 (by decide +kernel) (by decide +kernel)
theorem wd_952 : Cond.selects RX7 yX7_burn yX7_burn ∈ lw_good := gd_i 952 (by decide +kernel) (by decide +kernel)
theorem wd_953 : Cond.code yX7_burn cX7_burn 2 (some .int) ∈ lw_good := gd_i 953 (by decide +kernel) (by decide +kernel)
theorem wd_954 : Cond.methodLink RL 38 yX7_sleep ∈ lw_good := gd_i 954 (by decide +kernel) (by decide +kernel)
theorem wd_955 : Cond.instanceMethod yX7_sleep ∈ lw_good := gd_i 955 (by decide +kernel) (by decide +kernel)
theorem wd_956 : Cond.selects RX7 yX7_sleep yX7_sleep ∈ lw_good := gd_i 956 (by decide +kernel) (by decide +kernel)
theorem wd_957 : Cond.code yX7_sleep cX7_sleep 2 (some .int) ∈ lw_good := gd_i 957 (by decide +kernel) (by decide +kernel)
theorem wd_958 : Cond.methodLink RL 43 yX7_lie ∈ lw_good := gd_i 958 (by decide +kernel) (by decide +kernel)
theorem wd_959 : Cond.instanceMethod yX7_lie ∈ lw_good := gd_i 959 (by decide +kernel) (by decide +kernel)
theorem wd_960 : Cond.selects RX7 yX7_lie yX7_lie ∈ lw_good := gd_i 960 (by decide +kernel) (by decide +kernel)
theorem wd_961 : Cond.code yX7_lie cX7_lie 5 (some .int) ∈ lw_good := gd_i 961 (by decide +kernel) (by decide +kernel)
theorem wd_962 : Cond.methodLink RL 47 yX7_merge ∈ lw_good := gd_i 962 (by decide +kernel) (by decide +kernel)
theorem wd_963 : Cond.instanceMethod yX7_merge ∈ lw_good := gd_i 963 (by decide +kernel) (by decide +kernel)
theorem wd_964 : Cond.selects RX7 yX7_merge yX7_merge ∈ lw_good := gd_i 964 (by decide +kernel) (by decide +kernel)
theorem wd_965 : Cond.code yX7_merge cX7_merge 2 (some .int) ∈ lw_good := gd_i 965 (by decide +kernel) (by decide +kernel)
theorem wd_966 : Cond.methodLink RL 52 yX7_steal ∈ lw_good := gd_i 966 (by decide +kernel) (by decide +kernel)
theorem wd_967 : Cond.instanceMethod yX7_steal ∈ lw_good := gd_i 967 (by decide +kernel) (by decide +kernel)
theorem wd_968 : Cond.selects RX7 yX7_steal yX7_steal ∈ lw_good := gd_i 968 (by decide +kernel) (by decide +kernel)
theorem wd_969 : Cond.code yX7_steal cX7_steal 4 (some .int) ∈ lw_good := gd_i 969 (by decide +kernel) (by decide +kernel)
theorem wd_970 : Cond.methodLink RL 56 yX7_pass ∈ lw_good := gd_i 970 (by decide +kernel) (by decide +kernel)
theorem wd_971 : Cond.instanceMethod yX7_pass ∈ lw_good := gd_i 971 (by decide +kernel) (by decide +kernel)
theorem wd_972 : Cond.selects RX7 yX7_pass yX7_pass ∈ lw_good := gd_i 972 (by decide +kernel) (by decide +kernel)
theorem wd_973 : Cond.code yX7_pass cX7_pass 2 (some .int) ∈ lw_good := gd_i 973 (by decide +kernel) (by decide +kernel)
theorem wd_974 : Cond.methodLink RL 60 yX7_of ∈ lw_good := gd_i 974 (by decide +kernel) (by decide +kernel)
theorem wd_975 : Cond.instanceMethod yX7_of ∈ lw_good := gd_i 975 (by decide +kernel) (by decide +kernel)
theorem wd_976 : Cond.selects RX7 yX7_of yX7_of ∈ lw_good := gd_i 976 (by decide +kernel) (by decide +kernel)
theorem wd_977 : Cond.code yX7_of cX7_of 6 (some .int) ∈ lw_good := gd_i 977 (by decide +kernel) (by decide +kernel)
theorem wd_978 : Cond.methodLink RL 64 yX7_ofSecret ∈ lw_good := gd_i 978 (by decide +kernel) (by decide +kernel)
theorem wd_979 : Cond.instanceMethod yX7_ofSecret ∈ lw_good := gd_i 979 (by decide +kernel) (by decide +kernel)
theorem wd_980 : Cond.selects RX7 yX7_ofSecret yX7_ofSecret ∈ lw_good := gd_i 980 (by decide +kernel) (by decide +kernel)
theorem wd_981 : Cond.code yX7_ofSecret cX7_ofSecret 3 (some .int) ∈ lw_good := gd_i 981 (by decide +kernel) (by decide +kernel)
theorem wd_982 : Cond.methodLink RL 68 yX7_old ∈ lw_good := gd_i 982 (by decide +kernel) (by decide +kernel)
theorem wd_983 : Cond.instanceMethod yX7_old ∈ lw_good := gd_i 983 (by decide +kernel) (by decide +kernel)
theorem wd_984 : Cond.selects RX7 yX7_old yX7_old ∈ lw_good := gd_i 984 (by decide +kernel) (by decide +kernel)
theorem wd_985 : Cond.code yX7_old cX7_old 4 (some .int) ∈ lw_good := gd_i 985 (by decide +kernel) (by decide +kernel)
theorem wd_986 : Cond.methodLink RL 72 yX7_count ∈ lw_good := gd_i 986 (by decide +kernel) (by decide +kernel)
theorem wd_987 : Cond.instanceMethod yX7_count ∈ lw_good := gd_i 987 (by decide +kernel) (by decide +kernel)
theorem wd_988 : Cond.selects RX7 yX7_count yX7_count ∈ lw_good := gd_i 988 (by decide +kernel) (by decide +kernel)
theorem wd_989 : Cond.code yX7_count cX7_count 2 (some .int) ∈ lw_good := gd_i 989 (by decide +kernel) (by decide +kernel)
theorem wd_990 : Cond.methodLink RX7 148 yX7_setOf ∈ lw_good := gd_i 990 (by decide +kernel) (by decide +kernel)
theorem wd_992 : Cond.instanceMethod yX7_setOf ∈ lw_good := gd_i 992 (by decide +kernel) (by decide +kernel)
theorem wd_993 : Cond.code yX7_setOf cX7_setOf 4 (some .int) ∈ lw_good := gd_i 993 (by decide +kernel) (by decide +kernel)
theorem wd_994 : Cond.methodLink RL 76 yX7_otherwise ∈ lw_good := gd_i 994 (by decide +kernel) (by decide +kernel)
theorem wd_995 : Cond.instanceMethod yX7_otherwise ∈ lw_good := gd_i 995 (by decide +kernel) (by decide +kernel)
theorem wd_996 : Cond.selects RX7 yX7_otherwise yX7_otherwise ∈ lw_good := gd_i 996 (by decide +kernel) (by decide +kernel)
theorem wd_997 : Cond.code yX7_otherwise cX7_otherwise 4 (some .int) ∈ lw_good := gd_i 997 (by decide +kernel) (by decide +kernel)
theorem wd_998 : Cond.methodLink RL 80 yX7_passing ∈ lw_good := gd_i 998 (by decide +kernel) (by decide +kernel)
theorem wd_999 : Cond.instanceMethod yX7_passing ∈ lw_good := gd_i 999 (by decide +kernel) (by decide +kernel)
theorem wd_1000 : Cond.selects RX7 yX7_passing yX7_passing ∈ lw_good := gd_i 1000 (by decide +kernel) (by decide +kernel)
theorem wd_1001 : Cond.code yX7_passing cX7_passing 5 (some .int) ∈ lw_good := gd_i 1001 (by decide +kernel) (by decide +kernel)
theorem wd_1002 : Cond.methodLink RL 84 yX7_passes_ ∈ lw_good := gd_i 1002 (by decide +kernel) (by decide +kernel)
theorem wd_1003 : Cond.instanceMethod yX7_passes_ ∈ lw_good := gd_i 1003 (by decide +kernel) (by decide +kernel)
theorem wd_1004 : Cond.selects RX7 yX7_passes_ yX7_passes_ ∈ lw_good := gd_i 1004 (by decide +kernel) (by decide +kernel)
theorem wd_1005 : Cond.code yX7_passes_ cX7_passes_ 6 (some .int) ∈ lw_good := gd_i 1005 (by decide +kernel) (by decide +kernel)
theorem wd_1006 : Cond.methodLink RL 88 yX7_needed ∈ lw_good := gd_i 1006 (by decide +kernel) (by decide +kernel)
theorem wd_1007 : Cond.instanceMethod yX7_needed ∈ lw_good := gd_i 1007 (by decide +kernel) (by decide +kernel)
theorem wd_1008 : Cond.selects RX7 yX7_needed yX7_needed ∈ lw_good := gd_i 1008 (by decide +kernel) (by decide +kernel)
theorem wd_1009 : Cond.code yX7_needed cX7_needed 2 (some .int) ∈ lw_good := gd_i 1009 (by decide +kernel) (by decide +kernel)
theorem wd_1010 : Cond.methodLink RX7 154 yX7_versionsAtRisk ∈ lw_good := gd_i 1010 (by decide +kernel) (by decide +kernel)
theorem wd_1012 : Cond.instanceMethod yX7_versionsAtRisk ∈ lw_good := gd_i 1012 (by decide +kernel) (by decide +kernel)
theorem wd_1013 : Cond.code yX7_versionsAtRisk cX7_versionsAtRisk 4 (some .int) ∈ lw_good := gd_i 1013 (by decide +kernel) (by decide +kernel)
theorem wd_1014 : Cond.methodLink RL 92 yX7_atRisk ∈ lw_good := gd_i 1014 (by decide +kernel) (by decide +kernel)
theorem wd_1015 : Cond.instanceMethod yX7_atRisk ∈ lw_good := gd_i 1015 (by decide +kernel) (by decide +kernel)
theorem wd_1016 : Cond.selects RX7 yX7_atRisk yX7_atRisk ∈ lw_good := gd_i 1016 (by decide +kernel) (by decide +kernel)
theorem wd_1017 : Cond.code yX7_atRisk cX7_atRisk 2 (some .int) ∈ lw_good := gd_i 1017 (by decide +kernel) (by decide +kernel)
theorem wd_1018 : Cond.methodLink RL 96 yX7_ifMerged ∈ lw_good := gd_i 1018 (by decide +kernel) (by decide +kernel)
theorem wd_1019 : Cond.instanceMethod yX7_ifMerged ∈ lw_good := gd_i 1019 (by decide +kernel) (by decide +kernel)
theorem wd_1020 : Cond.selects RX7 yX7_ifMerged yX7_ifMerged ∈ lw_good := gd_i 1020 (by decide +kernel) (by decide +kernel)
theorem wd_1021 : Cond.code yX7_ifMerged cX7_ifMerged 2 (some .int) ∈ lw_good := gd_i 1021 (by decide +kernel) (by decide +kernel)
theorem wd_1022 : Cond.methodLink RL 103 yX7_put ∈ lw_good := gd_i 1022 (by decide +kernel) (by decide +kernel)
theorem wd_1023 : Cond.instanceMethod yX7_put ∈ lw_good := gd_i 1023 (by decide +kernel) (by decide +kernel)
theorem wd_1024 : Cond.selects RX7 yX7_put yX7_put ∈ lw_good := gd_i 1024 (by decide +kernel) (by decide +kernel)
theorem wd_1025 : Cond.code yX7_put cX7_put 8 (some .int) ∈ lw_good := gd_i 1025 (by decide +kernel) (by decide +kernel)
theorem wd_1026 : Jvm.Cond.constantLong RX7 157 255 ∈ lw_good := gd_i 1026 (by decide +kernel) (by decide +kernel)
theorem wd_1027 : Cond.methodLink RL 108 yX7_wipe ∈ lw_good := gd_i 1027 (by decide +kernel) (by decide +kernel)
theorem wd_1028 : Cond.instanceMethod yX7_wipe ∈ lw_good := gd_i 1028 (by decide +kernel) (by decide +kernel)
theorem wd_1029 : Cond.selects RX7 yX7_wipe yX7_wipe ∈ lw_good := gd_i 1029 (by decide +kernel) (by decide +kernel)
theorem wd_1030 : Cond.code yX7_wipe cX7_wipe 2 (some .int) ∈ lw_good := gd_i 1030 (by decide +kernel) (by decide +kernel)
theorem wd_1031 : Cond.methodLink RL 112 yX7_fault ∈ lw_good := gd_i 1031 (by decide +kernel) (by decide +kernel)
theorem wd_1032 : Cond.instanceMethod yX7_fault ∈ lw_good := gd_i 1032 (by decide +kernel) (by decide +kernel)
theorem wd_1033 : Cond.selects RX7 yX7_fault yX7_fault ∈ lw_good := gd_i 1033 (by decide +kernel) (by decide +kernel)
theorem wd_1034 : Cond.code yX7_fault cX7_fault 2 (some .int) ∈ lw_good := gd_i 1034 (by decide +kernel) (by decide +kernel)
theorem wd_1035 : Cond.methodLink RX7 185 yX7_goes ∈ lw_good := gd_i 1035 (by decide +kernel) (by decide +kernel)
theorem wd_1037 : Cond.instanceMethod yX7_goes ∈ lw_good := gd_i 1037 (by decide +kernel) (by decide +kernel)
theorem wd_1038 : Cond.code yX7_goes cX7_goes 6 (some .int) ∈ lw_good := gd_i 1038 (by decide +kernel) (by decide +kernel)
theorem wd_1039 : Cond.methodLink RX7 179 yX7_readOrder ∈ lw_good := gd_i 1039 (by decide +kernel) (by decide +kernel)
theorem wd_1041 : Cond.instanceMethod yX7_readOrder ∈ lw_good := gd_i 1041 (by decide +kernel) (by decide +kernel)
theorem wd_1042 : Cond.code yX7_readOrder cX7_readOrder 4 (none) ∈ lw_good := gd_i 1042 (by decide +kernel) (by decide +kernel)
theorem wd_1043 : Cond.methodLink RX7 166 yX7_takes ∈ lw_good := gd_i 1043 (by decide +kernel) (by decide +kernel)
theorem wd_1045 : Cond.instanceMethod yX7_takes ∈ lw_good := gd_i 1045 (by decide +kernel) (by decide +kernel)
theorem wd_1046 : Cond.code yX7_takes cX7_takes 4 (some .int) ∈ lw_good := gd_i 1046 (by decide +kernel) (by decide +kernel)
theorem wd_1047 : Cond.methodLink RX7 172 yX7_takesNumber ∈ lw_good := gd_i 1047 (by decide +kernel) (by decide +kernel)
theorem wd_1049 : Cond.instanceMethod yX7_takesNumber ∈ lw_good := gd_i 1049 (by decide +kernel) (by decide +kernel)
theorem wd_1050 : Cond.code yX7_takesNumber cX7_takesNumber 3 (some .int) ∈ lw_good := gd_i 1050 (by decide +kernel) (by decide +kernel)
theorem wd_1051 : Cond.methodLink RX7 176 yX7_takesBehind ∈ lw_good := gd_i 1051 (by decide +kernel) (by decide +kernel)
theorem wd_1053 : Cond.instanceMethod yX7_takesBehind ∈ lw_good := gd_i 1053 (by decide +kernel) (by decide +kernel)
theorem wd_1054 : Cond.code yX7_takesBehind cX7_takesBehind 4 (some .int) ∈ lw_good := gd_i 1054 (by decide +kernel) (by decide +kernel)
theorem wd_1055 : Cond.methodLink RX7 169 yX7_isNext ∈ lw_good := gd_i 1055 (by decide +kernel) (by decide +kernel)
theorem wd_1057 : Cond.instanceMethod yX7_isNext ∈ lw_good := gd_i 1057 (by decide +kernel) (by decide +kernel)
theorem wd_1058 : Cond.code yX7_isNext cX7_isNext 2 (some .boolean) ∈ lw_good := gd_i 1058 (by decide +kernel) (by decide +kernel)
theorem wd_1059 : Cond.methodLink RX7 182 yX7_isDone ∈ lw_good := gd_i 1059 (by decide +kernel) (by decide +kernel)
theorem wd_1061 : Cond.instanceMethod yX7_isDone ∈ lw_good := gd_i 1061 (by decide +kernel) (by decide +kernel)
theorem wd_1062 : Cond.code yX7_isDone cX7_isDone 3 (some .boolean) ∈ lw_good := gd_i 1062 (by decide +kernel) (by decide +kernel)
theorem wd_1063 : Cond.methodLink RL 116 yX7_carryOut ∈ lw_good := gd_i 1063 (by decide +kernel) (by decide +kernel)
theorem wd_1064 : Cond.instanceMethod yX7_carryOut ∈ lw_good := gd_i 1064 (by decide +kernel) (by decide +kernel)
theorem wd_1065 : Cond.selects RX7 yX7_carryOut yX7_carryOut ∈ lw_good := gd_i 1065 (by decide +kernel) (by decide +kernel)
theorem wd_1066 : Cond.code yX7_carryOut cX7_carryOut 3 (some .int) ∈ lw_good := gd_i 1066 (by decide +kernel) (by decide +kernel)
theorem wd_1067 : Cond.methodLink RL 120 yX7_undo ∈ lw_good := gd_i 1067 (by decide +kernel) (by decide +kernel)
theorem wd_1068 : Cond.instanceMethod yX7_undo ∈ lw_good := gd_i 1068 (by decide +kernel) (by decide +kernel)
theorem wd_1069 : Cond.selects RX7 yX7_undo yX7_undo ∈ lw_good := gd_i 1069 (by decide +kernel) (by decide +kernel)
theorem wd_1070 : Cond.code yX7_undo cX7_undo 2 (some .int) ∈ lw_good := gd_i 1070 (by decide +kernel) (by decide +kernel)
theorem wd_1071 : Cond.methodLink RL 124 yX7_save ∈ lw_good := gd_i 1071 (by decide +kernel) (by decide +kernel)
theorem wd_1072 : Cond.instanceMethod yX7_save ∈ lw_good := gd_i 1072 (by decide +kernel) (by decide +kernel)
theorem wd_1073 : Cond.selects RX7 yX7_save yX7_save ∈ lw_good := gd_i 1073 (by decide +kernel) (by decide +kernel)
theorem wd_1074 : Cond.code yX7_save cX7_save 3 (some .int) ∈ lw_good := gd_i 1074 (by decide +kernel) (by decide +kernel)
theorem wd_1075 : Cond.methodLink RL 128 yX7_restore ∈ lw_good := gd_i 1075 (by decide +kernel) (by decide +kernel)
theorem wd_1076 : Cond.instanceMethod yX7_restore ∈ lw_good := gd_i 1076 (by decide +kernel) (by decide +kernel)
theorem wd_1077 : Cond.selects RX7 yX7_restore yX7_restore ∈ lw_good := gd_i 1077 (by decide +kernel) (by decide +kernel)
theorem wd_1078 : Cond.code yX7_restore cX7_restore 3 (some .int) ∈ lw_good := gd_i 1078 (by decide +kernel) (by decide +kernel)
theorem wd_1079 : Jvm.Cond.constantLong RL 97 4294967295 ∈ lw_good := gd_i 1079 (by decide +kernel) (by decide +kernel)
theorem f_6_12 : LK RX6 12 6 0 := ⟨(RX6, TX6, 6), rfl, by decide, Or.inl wd_318⟩
theorem f_6_19 : LK RX6 19 6 1 := ⟨(RX6, TX6, 6), rfl, by decide, Or.inl wd_319⟩
theorem f_6_23 : LK RX6 23 6 2 := ⟨(RX6, TX6, 6), rfl, by decide, Or.inl wd_320⟩
theorem f_6_27 : LK RX6 27 6 3 := ⟨(RX6, TX6, 6), rfl, by decide, Or.inl wd_321⟩
theorem f_6_34 : LK RX6 34 6 4 := ⟨(RX6, TX6, 6), rfl, by decide, Or.inl wd_322⟩
theorem f_6_43 : LK RX6 43 6 5 := ⟨(RX6, TX6, 6), rfl, by decide, Or.inl wd_323⟩
theorem f_6_97 : LK RX6 97 2 1 := ⟨(RX2, TX2, 2), rfl, by decide, Or.inr ⟨_, wd_278⟩⟩
theorem f_6_101 : LK RX6 101 1 2 := ⟨(RX1, TX1, 3), rfl, by decide, Or.inr ⟨_, wd_261⟩⟩
theorem f_6_157 : LK RX6 157 5 3 := ⟨(RX5, TX5, 10), rfl, by decide, Or.inr ⟨_, wd_221⟩⟩
theorem f_6_163 : LK RX6 163 3 2 := ⟨(RX3, TX3, 7), rfl, by decide, Or.inr ⟨_, wd_294⟩⟩
theorem f_6_167 : LK RX6 167 3 5 := ⟨(RX3, TX3, 7), rfl, by decide, Or.inr ⟨_, wd_300⟩⟩
theorem f_6_170 : LK RX6 170 3 4 := ⟨(RX3, TX3, 7), rfl, by decide, Or.inr ⟨_, wd_298⟩⟩
theorem f_6_173 : LK RX6 173 3 3 := ⟨(RX3, TX3, 7), rfl, by decide, Or.inr ⟨_, wd_296⟩⟩
theorem f_6_176 : LK RX6 176 3 6 := ⟨(RX3, TX3, 7), rfl, by decide, Or.inr ⟨_, wd_302⟩⟩
theorem f_0_9 : LK RX0 9 0 0 := ⟨(RX0, TX0, 7), rfl, by decide, Or.inl wd_144⟩
theorem f_0_15 : LK RX0 15 0 1 := ⟨(RX0, TX0, 7), rfl, by decide, Or.inl wd_147⟩
theorem f_0_19 : LK RX0 19 0 2 := ⟨(RX0, TX0, 7), rfl, by decide, Or.inl wd_149⟩
theorem f_0_23 : LK RX0 23 0 3 := ⟨(RX0, TX0, 7), rfl, by decide, Or.inl wd_151⟩
theorem f_0_26 : LK RX0 26 0 4 := ⟨(RX0, TX0, 7), rfl, by decide, Or.inl wd_153⟩
theorem f_0_29 : LK RX0 29 0 5 := ⟨(RX0, TX0, 7), rfl, by decide, Or.inl wd_155⟩
theorem f_0_32 : LK RX0 32 0 6 := ⟨(RX0, TX0, 7), rfl, by decide, Or.inl wd_157⟩
theorem f_1_11 : LK RX1 11 1 0 := ⟨(RX1, TX1, 3), rfl, by decide, Or.inl wd_258⟩
theorem f_1_18 : LK RX1 18 1 1 := ⟨(RX1, TX1, 3), rfl, by decide, Or.inl wd_259⟩
theorem f_1_22 : LK RX1 22 1 2 := ⟨(RX1, TX1, 3), rfl, by decide, Or.inl wd_260⟩
theorem f_2_9 : LK RX2 9 2 0 := ⟨(RX2, TX2, 2), rfl, by decide, Or.inl wd_275⟩
theorem f_2_19 : LK RX2 19 2 1 := ⟨(RX2, TX2, 2), rfl, by decide, Or.inl wd_276⟩
theorem f_3_9 : LK RX3 9 3 0 := ⟨(RX3, TX3, 7), rfl, by decide, Or.inl wd_291⟩
theorem f_3_15 : LK RX3 15 3 1 := ⟨(RX3, TX3, 7), rfl, by decide, Or.inl wd_292⟩
theorem f_3_26 : LK RX3 26 2 1 := ⟨(RX2, TX2, 2), rfl, by decide, Or.inr ⟨_, wd_277⟩⟩
theorem f_3_39 : LK RX3 39 3 2 := ⟨(RX3, TX3, 7), rfl, by decide, Or.inl wd_293⟩
theorem f_3_58 : LK RX3 58 3 3 := ⟨(RX3, TX3, 7), rfl, by decide, Or.inl wd_295⟩
theorem f_3_65 : LK RX3 65 3 4 := ⟨(RX3, TX3, 7), rfl, by decide, Or.inl wd_297⟩
theorem f_3_71 : LK RX3 71 3 5 := ⟨(RX3, TX3, 7), rfl, by decide, Or.inl wd_299⟩
theorem f_3_74 : LK RX3 74 3 6 := ⟨(RX3, TX3, 7), rfl, by decide, Or.inl wd_301⟩
theorem f_4_12 : LK RX4 12 4 0 := ⟨(RX4, TX4, 10), rfl, by decide, Or.inl wd_176⟩
theorem f_4_18 : LK RX4 18 4 1 := ⟨(RX4, TX4, 10), rfl, by decide, Or.inl wd_178⟩
theorem f_4_25 : LK RX4 25 4 2 := ⟨(RX4, TX4, 10), rfl, by decide, Or.inl wd_180⟩
theorem f_4_29 : LK RX4 29 4 3 := ⟨(RX4, TX4, 10), rfl, by decide, Or.inl wd_182⟩
theorem f_4_32 : LK RX4 32 4 4 := ⟨(RX4, TX4, 10), rfl, by decide, Or.inl wd_184⟩
theorem f_4_35 : LK RX4 35 4 5 := ⟨(RX4, TX4, 10), rfl, by decide, Or.inl wd_186⟩
theorem f_4_38 : LK RX4 38 4 6 := ⟨(RX4, TX4, 10), rfl, by decide, Or.inl wd_188⟩
theorem f_4_41 : LK RX4 41 4 7 := ⟨(RX4, TX4, 10), rfl, by decide, Or.inl wd_190⟩
theorem f_4_44 : LK RX4 44 4 8 := ⟨(RX4, TX4, 10), rfl, by decide, Or.inl wd_192⟩
theorem f_4_47 : LK RX4 47 4 9 := ⟨(RX4, TX4, 10), rfl, by decide, Or.inl wd_194⟩
theorem f_4_51 : LK RX4 51 0 0 := ⟨(RX0, TX0, 7), rfl, by decide, Or.inr ⟨_, wd_145⟩⟩
theorem f_4_76 : LK RX4 76 0 1 := ⟨(RX0, TX0, 7), rfl, by decide, Or.inr ⟨_, wd_148⟩⟩
theorem f_5_11 : LK RX5 11 5 0 := ⟨(RX5, TX5, 10), rfl, by decide, Or.inl wd_217⟩
theorem f_5_17 : LK RX5 17 5 1 := ⟨(RX5, TX5, 10), rfl, by decide, Or.inl wd_218⟩
theorem f_5_21 : LK RX5 21 5 2 := ⟨(RX5, TX5, 10), rfl, by decide, Or.inl wd_219⟩
theorem f_5_25 : LK RX5 25 5 4 := ⟨(RX5, TX5, 10), rfl, by decide, Or.inl wd_222⟩
theorem f_5_34 : LK RX5 34 5 3 := ⟨(RX5, TX5, 10), rfl, by decide, Or.inl wd_220⟩
theorem f_5_37 : LK RX5 37 5 5 := ⟨(RX5, TX5, 10), rfl, by decide, Or.inl wd_223⟩
theorem f_5_40 : LK RX5 40 5 6 := ⟨(RX5, TX5, 10), rfl, by decide, Or.inl wd_224⟩
theorem f_5_43 : LK RX5 43 5 7 := ⟨(RX5, TX5, 10), rfl, by decide, Or.inl wd_225⟩
theorem f_5_46 : LK RX5 46 5 8 := ⟨(RX5, TX5, 10), rfl, by decide, Or.inl wd_226⟩
theorem f_5_49 : LK RX5 49 5 9 := ⟨(RX5, TX5, 10), rfl, by decide, Or.inl wd_227⟩
theorem f_5_59 : LK RX5 59 4 2 := ⟨(RX4, TX4, 10), rfl, by decide, Or.inr ⟨_, wd_181⟩⟩
theorem f_5_80 : LK RX5 80 4 0 := ⟨(RX4, TX4, 10), rfl, by decide, Or.inr ⟨_, wd_177⟩⟩
theorem f_5_84 : LK RX5 84 4 1 := ⟨(RX4, TX4, 10), rfl, by decide, Or.inr ⟨_, wd_179⟩⟩
theorem f_5_87 : LK RX5 87 0 0 := ⟨(RX0, TX0, 7), rfl, by decide, Or.inr ⟨_, wd_146⟩⟩
theorem f_5_102 : LK RX5 102 0 3 := ⟨(RX0, TX0, 7), rfl, by decide, Or.inr ⟨_, wd_152⟩⟩
theorem f_5_105 : LK RX5 105 0 4 := ⟨(RX0, TX0, 7), rfl, by decide, Or.inr ⟨_, wd_154⟩⟩
theorem f_5_112 : LK RX5 112 0 2 := ⟨(RX0, TX0, 7), rfl, by decide, Or.inr ⟨_, wd_150⟩⟩
theorem f_5_124 : LK RX5 124 4 3 := ⟨(RX4, TX4, 10), rfl, by decide, Or.inr ⟨_, wd_183⟩⟩
theorem f_5_138 : LK RX5 138 0 5 := ⟨(RX0, TX0, 7), rfl, by decide, Or.inr ⟨_, wd_156⟩⟩
theorem f_5_141 : LK RX5 141 0 6 := ⟨(RX0, TX0, 7), rfl, by decide, Or.inr ⟨_, wd_158⟩⟩
theorem f_5_150 : LK RX5 150 4 6 := ⟨(RX4, TX4, 10), rfl, by decide, Or.inr ⟨_, wd_189⟩⟩
theorem f_5_164 : LK RX5 164 4 5 := ⟨(RX4, TX4, 10), rfl, by decide, Or.inr ⟨_, wd_187⟩⟩
theorem f_5_176 : LK RX5 176 4 4 := ⟨(RX4, TX4, 10), rfl, by decide, Or.inr ⟨_, wd_185⟩⟩
theorem f_5_179 : LK RX5 179 4 9 := ⟨(RX4, TX4, 10), rfl, by decide, Or.inr ⟨_, wd_195⟩⟩
theorem f_5_183 : LK RX5 183 4 8 := ⟨(RX4, TX4, 10), rfl, by decide, Or.inr ⟨_, wd_193⟩⟩
theorem f_5_186 : LK RX5 186 4 7 := ⟨(RX4, TX4, 10), rfl, by decide, Or.inr ⟨_, wd_191⟩⟩
theorem f_7_7 : LK RX7 7 7 0 := ⟨(RX7, TX7, 11), rfl, by decide, Or.inl wd_771⟩
theorem f_7_13 : LK RX7 13 7 1 := ⟨(RX7, TX7, 11), rfl, by decide, Or.inl wd_772⟩
theorem f_7_16 : LK RX7 16 7 3 := ⟨(RX7, TX7, 11), rfl, by decide, Or.inl wd_774⟩
theorem f_7_19 : LK RX7 19 7 4 := ⟨(RX7, TX7, 11), rfl, by decide, Or.inl wd_775⟩
theorem f_7_23 : LK RX7 23 7 5 := ⟨(RX7, TX7, 11), rfl, by decide, Or.inl wd_776⟩
theorem f_7_26 : LK RX7 26 7 7 := ⟨(RX7, TX7, 11), rfl, by decide, Or.inl wd_778⟩
theorem f_7_29 : LK RX7 29 7 10 := ⟨(RX7, TX7, 11), rfl, by decide, Or.inl wd_781⟩
theorem f_7_44 : LK RX7 44 7 2 := ⟨(RX7, TX7, 11), rfl, by decide, Or.inl wd_773⟩
theorem f_7_151 : LK RX7 151 7 6 := ⟨(RX7, TX7, 11), rfl, by decide, Or.inl wd_777⟩
theorem f_7_159 : LK RX7 159 7 9 := ⟨(RX7, TX7, 11), rfl, by decide, Or.inl wd_780⟩
theorem f_7_163 : LK RX7 163 7 8 := ⟨(RX7, TX7, 11), rfl, by decide, Or.inl wd_779⟩
theorem coJ9_floorMod_7cf53 {M : Md} (h1 : mF mJ9_floorMod_7cf53 + 1 ≤ mF M) (h2 : 8 + (mL mJ9_floorMod_7cf53 + 11) + mW mJ9_floorMod_7cf53 ≤ mW M) : CLo M mJ9_floorMod_7cf53 2 := ⟨by decide +kernel, wd_407, by decide +kernel, by decide +kernel, h1, h2, wd_116⟩
theorem coJ9_max_7cf53 {M : Md} (h1 : mF mJ9_max_7cf53 + 1 ≤ mF M) (h2 : 8 + (mL mJ9_max_7cf53 + 11) + mW mJ9_max_7cf53 ≤ mW M) : CLo M mJ9_max_7cf53 2 := ⟨by decide +kernel, wd_554, by decide +kernel, by decide +kernel, h1, h2, wd_116⟩
theorem coJ9_min_7cf53 {M : Md} (h1 : mF mJ9_min_7cf53 + 1 ≤ mF M) (h2 : 8 + (mL mJ9_min_7cf53 + 11) + mW mJ9_min_7cf53 ≤ mW M) : CLo M mJ9_min_7cf53 2 := ⟨by decide +kernel, wd_442, by decide +kernel, by decide +kernel, h1, h2, wd_116⟩
theorem coX0_catches {M : Md} (h1 : mF mX0_catches + 1 ≤ mF M) (h2 : 8 + (mL mX0_catches + 11) + mW mX0_catches ≤ mW M) : CLo M mX0_catches 1 := ⟨by decide +kernel, wd_500, by decide +kernel, by decide +kernel, h1, h2, wd_111⟩
theorem coX0_copyHalf {M : Md} (h1 : mF mX0_copyHalf + 1 ≤ mF M) (h2 : 8 + (mL mX0_copyHalf + 11) + mW mX0_copyHalf ≤ mW M) : CLo M mX0_copyHalf 1 := ⟨by decide +kernel, wd_356, by decide +kernel, by decide +kernel, h1, h2, wd_111⟩
theorem coX0_freeRowOfNow {M : Md} (h1 : mF mX0_freeRowOfNow + 1 ≤ mF M) (h2 : 8 + (mL mX0_freeRowOfNow + 11) + mW mX0_freeRowOfNow ≤ mW M) : CLo M mX0_freeRowOfNow 0 := ⟨by decide +kernel, wd_439, by decide +kernel, by decide +kernel, h1, h2, wd_111⟩
theorem coX0_init {M : Md} (h1 : mF mX0_init + 1 ≤ mF M) (h2 : 8 + (mL mX0_init + 11) + mW mX0_init ≤ mW M) : CLo M mX0_init 0 := ⟨by decide +kernel, wd_142, by decide +kernel, by decide +kernel, h1, h2, wd_111⟩
theorem coX0_lies {M : Md} (h1 : mF mX0_lies + 1 ≤ mF M) (h2 : 8 + (mL mX0_lies + 11) + mW mX0_lies ≤ mW M) : CLo M mX0_lies 0 := ⟨by decide +kernel, wd_522, by decide +kernel, by decide +kernel, h1, h2, wd_111⟩
theorem coX0_partWith {M : Md} (h1 : mF mX0_partWith + 1 ≤ mF M) (h2 : 8 + (mL mX0_partWith + 11) + mW mX0_partWith ≤ mW M) : CLo M mX0_partWith 1 := ⟨by decide +kernel, wd_508, by decide +kernel, by decide +kernel, h1, h2, wd_111⟩
theorem coX0_tagDueFor {M : Md} (h1 : mF mX0_tagDueFor + 1 ≤ mF M) (h2 : 8 + (mL mX0_tagDueFor + 11) + mW mX0_tagDueFor ≤ mW M) : CLo M mX0_tagDueFor 1 := ⟨by decide +kernel, wd_411, by decide +kernel, by decide +kernel, h1, h2, wd_111⟩
theorem coX0_toldPart {M : Md} (h1 : mF mX0_toldPart + 1 ≤ mF M) (h2 : 8 + (mL mX0_toldPart + 11) + mW mX0_toldPart ≤ mW M) : CLo M mX0_toldPart 0 := ⟨by decide +kernel, wd_504, by decide +kernel, by decide +kernel, h1, h2, wd_111⟩
theorem coX0_toldTag {M : Md} (h1 : mF mX0_toldTag + 1 ≤ mF M) (h2 : 8 + (mL mX0_toldTag + 11) + mW mX0_toldTag ≤ mW M) : CLo M mX0_toldTag 0 := ⟨by decide +kernel, wd_513, by decide +kernel, by decide +kernel, h1, h2, wd_111⟩
theorem coX1_draft {M : Md} (h1 : mF mX1_draft + 1 ≤ mF M) (h2 : 8 + (mL mX1_draft + 11) + mW mX1_draft ≤ mW M) : CLo M mX1_draft 1 := ⟨by decide +kernel, wd_344, by decide +kernel, by decide +kernel, h1, h2, wd_112⟩
theorem coX1_init {M : Md} (h1 : mF mX1_init + 1 ≤ mF M) (h2 : 8 + (mL mX1_init + 11) + mW mX1_init ≤ mW M) : CLo M mX1_init 0 := ⟨by decide +kernel, wd_253, by decide +kernel, by decide +kernel, h1, h2, wd_112⟩
theorem coX1_recordDraft {M : Md} (h1 : mF mX1_recordDraft + 1 ≤ mF M) (h2 : 8 + (mL mX1_recordDraft + 11) + mW mX1_recordDraft ≤ mW M) : CLo M mX1_recordDraft 0 := ⟨by decide +kernel, wd_372, by decide +kernel, by decide +kernel, h1, h2, wd_112⟩
theorem coX1_takesBack {M : Md} (h1 : mF mX1_takesBack + 1 ≤ mF M) (h2 : 8 + (mL mX1_takesBack + 11) + mW mX1_takesBack ≤ mW M) : CLo M mX1_takesBack 1 := ⟨by decide +kernel, wd_752, by decide +kernel, by decide +kernel, h1, h2, wd_112⟩
theorem coX2_append {M : Md} (h1 : mF mX2_append + 1 ≤ mF M) (h2 : 8 + (mL mX2_append + 11) + mW mX2_append ≤ mW M) : CLo M mX2_append 1 := ⟨by decide +kernel, wd_660, by decide +kernel, by decide +kernel, h1, h2, wd_113⟩
theorem coX2_clear {M : Md} (h1 : mF mX2_clear + 1 ≤ mF M) (h2 : 8 + (mL mX2_clear + 11) + mW mX2_clear ≤ mW M) : CLo M mX2_clear 0 := ⟨by decide +kernel, wd_674, by decide +kernel, by decide +kernel, h1, h2, wd_113⟩
theorem coX2_codeIn {M : Md} (h1 : mF mX2_codeIn + 1 ≤ mF M) (h2 : 8 + (mL mX2_codeIn + 11) + mW mX2_codeIn ≤ mW M) : CLo M mX2_codeIn 2 := ⟨by decide +kernel, wd_666, by decide +kernel, by decide +kernel, h1, h2, wd_113⟩
theorem coX2_init {M : Md} (h1 : mF mX2_init + 1 ≤ mF M) (h2 : 8 + (mL mX2_init + 11) + mW mX2_init ≤ mW M) : CLo M mX2_init 0 := ⟨by decide +kernel, wd_273, by decide +kernel, by decide +kernel, h1, h2, wd_113⟩
theorem coX2_signAt {M : Md} (h1 : mF mX2_signAt + 1 ≤ mF M) (h2 : 8 + (mL mX2_signAt + 11) + mW mX2_signAt ≤ mW M) : CLo M mX2_signAt 1 := ⟨by decide +kernel, wd_698, by decide +kernel, by decide +kernel, h1, h2, wd_113⟩
theorem coX2_signsIn {M : Md} (h1 : mF mX2_signsIn + 1 ≤ mF M) (h2 : 8 + (mL mX2_signsIn + 11) + mW mX2_signsIn ≤ mW M) : CLo M mX2_signsIn 1 := ⟨by decide +kernel, wd_663, by decide +kernel, by decide +kernel, h1, h2, wd_113⟩
theorem coX3_digitRead {M : Md} (h1 : mF mX3_digitRead + 1 ≤ mF M) (h2 : 8 + (mL mX3_digitRead + 11) + mW mX3_digitRead ≤ mW M) : CLo M mX3_digitRead 0 := ⟨by decide +kernel, wd_710, by decide +kernel, by decide +kernel, h1, h2, wd_114⟩
theorem coX3_firstFault {M : Md} (h1 : mF mX3_firstFault + 1 ≤ mF M) (h2 : 8 + (mL mX3_firstFault + 11) + mW mX3_firstFault ≤ mW M) : CLo M mX3_firstFault 0 := ⟨by decide +kernel, wd_682, by decide +kernel, by decide +kernel, h1, h2, wd_114⟩
theorem coX3_goToStart {M : Md} (h1 : mF mX3_goToStart + 1 ≤ mF M) (h2 : 8 + (mL mX3_goToStart + 11) + mW mX3_goToStart ≤ mW M) : CLo M mX3_goToStart 0 := ⟨by decide +kernel, wd_686, by decide +kernel, by decide +kernel, h1, h2, wd_114⟩
theorem coX3_init {M : Md} (h1 : mF mX3_init + 1 ≤ mF M) (h2 : 8 + (mL mX3_init + 11) + mW mX3_init ≤ mW M) : CLo M mX3_init 1 := ⟨by decide +kernel, wd_289, by decide +kernel, by decide +kernel, h1, h2, wd_114⟩
theorem coX3_numberRead {M : Md} (h1 : mF mX3_numberRead + 1 ≤ mF M) (h2 : 8 + (mL mX3_numberRead + 11) + mW mX3_numberRead ≤ mW M) : CLo M mX3_numberRead 0 := ⟨by decide +kernel, wd_706, by decide +kernel, by decide +kernel, h1, h2, wd_114⟩
theorem coX3_reads {M : Md} (h1 : mF mX3_reads + 1 ≤ mF M) (h2 : 8 + (mL mX3_reads + 11) + mW mX3_reads ≤ mW M) : CLo M mX3_reads 1 := ⟨by decide +kernel, wd_694, by decide +kernel, by decide +kernel, h1, h2, wd_114⟩
theorem coX3_readsNextOrder {M : Md} (h1 : mF mX3_readsNextOrder + 1 ≤ mF M) (h2 : 8 + (mL mX3_readsNextOrder + 11) + mW mX3_readsNextOrder ≤ mW M) : CLo M mX3_readsNextOrder 0 := ⟨by decide +kernel, wd_690, by decide +kernel, by decide +kernel, h1, h2, wd_114⟩
theorem coX3_readsNumber {M : Md} (h1 : mF mX3_readsNumber + 1 ≤ mF M) (h2 : 8 + (mL mX3_readsNumber + 11) + mW mX3_readsNumber ≤ mW M) : CLo M mX3_readsNumber 0 := ⟨by decide +kernel, wd_702, by decide +kernel, by decide +kernel, h1, h2, wd_114⟩
theorem coX3_readsOffsets {M : Md} (h1 : mF mX3_readsOffsets + 1 ≤ mF M) (h2 : 8 + (mL mX3_readsOffsets + 11) + mW mX3_readsOffsets ≤ mW M) : CLo M mX3_readsOffsets 0 := ⟨by decide +kernel, wd_722, by decide +kernel, by decide +kernel, h1, h2, wd_114⟩
theorem coX3_readsSecret {M : Md} (h1 : mF mX3_readsSecret + 1 ≤ mF M) (h2 : 8 + (mL mX3_readsSecret + 11) + mW mX3_readsSecret ≤ mW M) : CLo M mX3_readsSecret 0 := ⟨by decide +kernel, wd_714, by decide +kernel, by decide +kernel, h1, h2, wd_114⟩
theorem coX3_readsStore {M : Md} (h1 : mF mX3_readsStore + 1 ≤ mF M) (h2 : 8 + (mL mX3_readsStore + 11) + mW mX3_readsStore ≤ mW M) : CLo M mX3_readsStore 0 := ⟨by decide +kernel, wd_718, by decide +kernel, by decide +kernel, h1, h2, wd_114⟩
theorem coX3_readsVersion {M : Md} (h1 : mF mX3_readsVersion + 1 ≤ mF M) (h2 : 8 + (mL mX3_readsVersion + 11) + mW mX3_readsVersion ≤ mW M) : CLo M mX3_readsVersion 0 := ⟨by decide +kernel, wd_726, by decide +kernel, by decide +kernel, h1, h2, wd_114⟩
theorem coX4_ageKeeping {M : Md} (h1 : mF mX4_ageKeeping + 1 ≤ mF M) (h2 : 8 + (mL mX4_ageKeeping + 11) + mW mX4_ageKeeping ≤ mW M) : CLo M mX4_ageKeeping 1 := ⟨by decide +kernel, wd_435, by decide +kernel, by decide +kernel, h1, h2, wd_110⟩
theorem coX4_answerIfMerged {M : Md} (h1 : mF mX4_answerIfMerged + 1 ≤ mF M) (h2 : 8 + (mL mX4_answerIfMerged + 11) + mW mX4_answerIfMerged ≤ mW M) : CLo M mX4_answerIfMerged 0 := ⟨by decide +kernel, wd_496, by decide +kernel, by decide +kernel, h1, h2, wd_110⟩
theorem coX4_copySecret {M : Md} (h1 : mF mX4_copySecret + 1 ≤ mF M) (h2 : 8 + (mL mX4_copySecret + 11) + mW mX4_copySecret ≤ mW M) : CLo M mX4_copySecret 1 := ⟨by decide +kernel, wd_352, by decide +kernel, by decide +kernel, h1, h2, wd_110⟩
theorem coX4_halfBeside {M : Md} (h1 : mF mX4_halfBeside + 1 ≤ mF M) (h2 : 8 + (mL mX4_halfBeside + 11) + mW mX4_halfBeside ≤ mW M) : CLo M mX4_halfBeside 1 := ⟨by decide +kernel, wd_617, by decide +kernel, by decide +kernel, h1, h2, wd_110⟩
theorem coX4_halfIn {M : Md} (h1 : mF mX4_halfIn + 1 ≤ mF M) (h2 : 8 + (mL mX4_halfIn + 11) + mW mX4_halfIn ≤ mW M) : CLo M mX4_halfIn 1 := ⟨by decide +kernel, wd_480, by decide +kernel, by decide +kernel, h1, h2, wd_110⟩
theorem coX4_init {M : Md} (h1 : mF mX4_init + 1 ≤ mF M) (h2 : 8 + (mL mX4_init + 11) + mW mX4_init ≤ mW M) : CLo M mX4_init 0 := ⟨by decide +kernel, wd_136, by decide +kernel, by decide +kernel, h1, h2, wd_110⟩
theorem coX4_open {M : Md} (h1 : mF mX4_open + 1 ≤ mF M) (h2 : 8 + (mL mX4_open + 11) + mW mX4_open ≤ mW M) : CLo M mX4_open 2 := ⟨by decide +kernel, wd_518, by decide +kernel, by decide +kernel, h1, h2, wd_110⟩
theorem coX4_partForThief {M : Md} (h1 : mF mX4_partForThief + 1 ≤ mF M) (h2 : 8 + (mL mX4_partForThief + 11) + mW mX4_partForThief ≤ mW M) : CLo M mX4_partForThief 2 := ⟨by decide +kernel, wd_534, by decide +kernel, by decide +kernel, h1, h2, wd_110⟩
theorem coX4_rowsAtRisk {M : Md} (h1 : mF mX4_rowsAtRisk + 1 ≤ mF M) (h2 : 8 + (mL mX4_rowsAtRisk + 11) + mW mX4_rowsAtRisk ≤ mW M) : CLo M mX4_rowsAtRisk 0 := ⟨by decide +kernel, wd_639, by decide +kernel, by decide +kernel, h1, h2, wd_110⟩
theorem coX4_takenSet {M : Md} (h1 : mF mX4_takenSet + 1 ≤ mF M) (h2 : 8 + (mL mX4_takenSet + 11) + mW mX4_takenSet ≤ mW M) : CLo M mX4_takenSet 1 := ⟨by decide +kernel, wd_539, by decide +kernel, by decide +kernel, h1, h2, wd_110⟩
theorem coX4_value {M : Md} (h1 : mF mX4_value + 1 ≤ mF M) (h2 : 8 + (mL mX4_value + 11) + mW mX4_value ≤ mW M) : CLo M mX4_value 0 := ⟨by decide +kernel, wd_431, by decide +kernel, by decide +kernel, h1, h2, wd_110⟩
theorem coX5_admit {M : Md} (h1 : mF mX5_admit + 1 ≤ mF M) (h2 : 8 + (mL mX5_admit + 11) + mW mX5_admit ≤ mW M) : CLo M mX5_admit 1 := ⟨by decide +kernel, wd_388, by decide +kernel, by decide +kernel, h1, h2, wd_109⟩
theorem coX5_answerOfMerger {M : Md} (h1 : mF mX5_answerOfMerger + 1 ≤ mF M) (h2 : 8 + (mL mX5_answerOfMerger + 11) + mW mX5_answerOfMerger ≤ mW M) : CLo M mX5_answerOfMerger 1 := ⟨by decide +kernel, wd_492, by decide +kernel, by decide +kernel, h1, h2, wd_109⟩
theorem coX5_burnOldVersions {M : Md} (h1 : mF mX5_burnOldVersions + 1 ≤ mF M) (h2 : 8 + (mL mX5_burnOldVersions + 11) + mW mX5_burnOldVersions ≤ mW M) : CLo M mX5_burnOldVersions 1 := ⟨by decide +kernel, wd_450, by decide +kernel, by decide +kernel, h1, h2, wd_109⟩
theorem coX5_changeSetting {M : Md} (h1 : mF mX5_changeSetting + 1 ≤ mF M) (h2 : 8 + (mL mX5_changeSetting + 11) + mW mX5_changeSetting ≤ mW M) : CLo M mX5_changeSetting 2 := ⟨by decide +kernel, wd_360, by decide +kernel, by decide +kernel, h1, h2, wd_109⟩
theorem coX5_changeX {M : Md} (h1 : mF mX5_changeX + 1 ≤ mF M) (h2 : 8 + (mL mX5_changeX + 11) + mW mX5_changeX ≤ mW M) : CLo M mX5_changeX 1 := ⟨by decide +kernel, wd_380, by decide +kernel, by decide +kernel, h1, h2, wd_109⟩
theorem coX5_copyState {M : Md} (h1 : mF mX5_copyState + 1 ≤ mF M) (h2 : 8 + (mL mX5_copyState + 11) + mW mX5_copyState ≤ mW M) : CLo M mX5_copyState 1 := ⟨by decide +kernel, wd_348, by decide +kernel, by decide +kernel, h1, h2, wd_109⟩
theorem coX5_drawn {M : Md} (h1 : mF mX5_drawn + 1 ≤ mF M) (h2 : 8 + (mL mX5_drawn + 11) + mW mX5_drawn ≤ mW M) : CLo M mX5_drawn 0 := ⟨by decide +kernel, wd_403, by decide +kernel, by decide +kernel, h1, h2, wd_109⟩
theorem coX5_figure {M : Md} (h1 : mF mX5_figure + 1 ≤ mF M) (h2 : 8 + (mL mX5_figure + 11) + mW mX5_figure ≤ mW M) : CLo M mX5_figure 1 := ⟨by decide +kernel, wd_589, by decide +kernel, by decide +kernel, h1, h2, wd_109⟩
theorem coX5_figureOfHalf {M : Md} (h1 : mF mX5_figureOfHalf + 1 ≤ mF M) (h2 : 8 + (mL mX5_figureOfHalf + 11) + mW mX5_figureOfHalf ≤ mW M) : CLo M mX5_figureOfHalf 3 := ⟨by decide +kernel, wd_562, by decide +kernel, by decide +kernel, h1, h2, wd_109⟩
theorem coX5_figureOfOldVersion {M : Md} (h1 : mF mX5_figureOfOldVersion + 1 ≤ mF M) (h2 : 8 + (mL mX5_figureOfOldVersion + 11) + mW mX5_figureOfOldVersion ≤ mW M) : CLo M mX5_figureOfOldVersion 3 := ⟨by decide +kernel, wd_580, by decide +kernel, by decide +kernel, h1, h2, wd_109⟩
theorem coX5_figureOfSecret {M : Md} (h1 : mF mX5_figureOfSecret + 1 ≤ mF M) (h2 : 8 + (mL mX5_figureOfSecret + 11) + mW mX5_figureOfSecret ≤ mW M) : CLo M mX5_figureOfSecret 2 := ⟨by decide +kernel, wd_572, by decide +kernel, by decide +kernel, h1, h2, wd_109⟩
theorem coX5_givePartToThief {M : Md} (h1 : mF mX5_givePartToThief + 1 ≤ mF M) (h2 : 8 + (mL mX5_givePartToThief + 11) + mW mX5_givePartToThief ≤ mW M) : CLo M mX5_givePartToThief 3 := ⟨by decide +kernel, wd_530, by decide +kernel, by decide +kernel, h1, h2, wd_109⟩
theorem coX5_hasHalf {M : Md} (h1 : mF mX5_hasHalf + 1 ≤ mF M) (h2 : 8 + (mL mX5_hasHalf + 11) + mW mX5_hasHalf ≤ mW M) : CLo M mX5_hasHalf 2 := ⟨by decide +kernel, wd_473, by decide +kernel, by decide +kernel, h1, h2, wd_109⟩
theorem coX5_hasSecret {M : Md} (h1 : mF mX5_hasSecret + 1 ≤ mF M) (h2 : 8 + (mL mX5_hasSecret + 11) + mW mX5_hasSecret ≤ mW M) : CLo M mX5_hasSecret 1 := ⟨by decide +kernel, wd_423, by decide +kernel, by decide +kernel, h1, h2, wd_109⟩
theorem coX5_init {M : Md} (h1 : mF mX5_init + 1 ≤ mF M) (h2 : 8 + (mL mX5_init + 11) + mW mX5_init ≤ mW M) : CLo M mX5_init 0 := ⟨by decide +kernel, wd_129, by decide +kernel, by decide +kernel, h1, h2, wd_109⟩
theorem coX5_makeNextVersion {M : Md} (h1 : mF mX5_makeNextVersion + 1 ≤ mF M) (h2 : 8 + (mL mX5_makeNextVersion + 11) + mW mX5_makeNextVersion ≤ mW M) : CLo M mX5_makeNextVersion 1 := ⟨by decide +kernel, wd_427, by decide +kernel, by decide +kernel, h1, h2, wd_109⟩
theorem coX5_makeVersion {M : Md} (h1 : mF mX5_makeVersion + 1 ≤ mF M) (h2 : 8 + (mL mX5_makeVersion + 11) + mW mX5_makeVersion ≤ mW M) : CLo M mX5_makeVersion 2 := ⟨by decide +kernel, wd_399, by decide +kernel, by decide +kernel, h1, h2, wd_109⟩
theorem coX5_mergeParts {M : Md} (h1 : mF mX5_mergeParts + 1 ≤ mF M) (h2 : 8 + (mL mX5_mergeParts + 11) + mW mX5_mergeParts ≤ mW M) : CLo M mX5_mergeParts 1 := ⟨by decide +kernel, wd_488, by decide +kernel, by decide +kernel, h1, h2, wd_109⟩
theorem coX5_offsetsThatPass {M : Md} (h1 : mF mX5_offsetsThatPass + 1 ≤ mF M) (h2 : 8 + (mL mX5_offsetsThatPass + 11) + mW mX5_offsetsThatPass ≤ mW M) : CLo M mX5_offsetsThatPass 3 := ⟨by decide +kernel, wd_626, by decide +kernel, by decide +kernel, h1, h2, wd_109⟩
theorem coX5_otherPartFor {M : Md} (h1 : mF mX5_otherPartFor + 1 ≤ mF M) (h2 : 8 + (mL mX5_otherPartFor + 11) + mW mX5_otherPartFor ≤ mW M) : CLo M mX5_otherPartFor 3 := ⟨by decide +kernel, wd_605, by decide +kernel, by decide +kernel, h1, h2, wd_109⟩
theorem coX5_partsNeeded {M : Md} (h1 : mF mX5_partsNeeded + 1 ≤ mF M) (h2 : 8 + (mL mX5_partsNeeded + 11) + mW mX5_partsNeeded ≤ mW M) : CLo M mX5_partsNeeded 1 := ⟨by decide +kernel, wd_635, by decide +kernel, by decide +kernel, h1, h2, wd_109⟩
theorem coX5_passBeats {M : Md} (h1 : mF mX5_passBeats + 1 ≤ mF M) (h2 : 8 + (mL mX5_passBeats + 11) + mW mX5_passBeats ≤ mW M) : CLo M mX5_passBeats 1 := ⟨by decide +kernel, wd_547, by decide +kernel, by decide +kernel, h1, h2, wd_109⟩
theorem coX5_passOneBeat {M : Md} (h1 : mF mX5_passOneBeat + 1 ≤ mF M) (h2 : 8 + (mL mX5_passOneBeat + 11) + mW mX5_passOneBeat ≤ mW M) : CLo M mX5_passOneBeat 0 := ⟨by decide +kernel, wd_551, by decide +kernel, by decide +kernel, h1, h2, wd_109⟩
theorem coX5_renew {M : Md} (h1 : mF mX5_renew + 1 ≤ mF M) (h2 : 8 + (mL mX5_renew + 11) + mW mX5_renew ≤ mW M) : CLo M mX5_renew 1 := ⟨by decide +kernel, wd_419, by decide +kernel, by decide +kernel, h1, h2, wd_109⟩
theorem coX5_setOfKnown {M : Md} (h1 : mF mX5_setOfKnown + 1 ≤ mF M) (h2 : 8 + (mL mX5_setOfKnown + 11) + mW mX5_setOfKnown ≤ mW M) : CLo M mX5_setOfKnown 0 := ⟨by decide +kernel, wd_597, by decide +kernel, by decide +kernel, h1, h2, wd_109⟩
theorem coX5_setOfOpen {M : Md} (h1 : mF mX5_setOfOpen + 1 ≤ mF M) (h2 : 8 + (mL mX5_setOfOpen + 11) + mW mX5_setOfOpen ≤ mW M) : CLo M mX5_setOfOpen 0 := ⟨by decide +kernel, wd_593, by decide +kernel, by decide +kernel, h1, h2, wd_109⟩
theorem coX5_someStoreSleeps {M : Md} (h1 : mF mX5_someStoreSleeps + 1 ≤ mF M) (h2 : 8 + (mL mX5_someStoreSleeps + 11) + mW mX5_someStoreSleeps ≤ mW M) : CLo M mX5_someStoreSleeps 0 := ⟨by decide +kernel, wd_395, by decide +kernel, by decide +kernel, h1, h2, wd_109⟩
theorem coX5_tagOffsetThatPasses {M : Md} (h1 : mF mX5_tagOffsetThatPasses + 1 ≤ mF M) (h2 : 8 + (mL mX5_tagOffsetThatPasses + 11) + mW mX5_tagOffsetThatPasses ≤ mW M) : CLo M mX5_tagOffsetThatPasses 3 := ⟨by decide +kernel, wd_613, by decide +kernel, by decide +kernel, h1, h2, wd_109⟩
theorem coX5_takeUpLie {M : Md} (h1 : mF mX5_takeUpLie + 1 ≤ mF M) (h2 : 8 + (mL mX5_takeUpLie + 11) + mW mX5_takeUpLie ≤ mW M) : CLo M mX5_takeUpLie 4 := ⟨by decide +kernel, wd_469, by decide +kernel, by decide +kernel, h1, h2, wd_109⟩
theorem coX5_turnSleep {M : Md} (h1 : mF mX5_turnSleep + 1 ≤ mF M) (h2 : 8 + (mL mX5_turnSleep + 11) + mW mX5_turnSleep ≤ mW M) : CLo M mX5_turnSleep 1 := ⟨by decide +kernel, wd_458, by decide +kernel, by decide +kernel, h1, h2, wd_109⟩
theorem coX5_versionNow {M : Md} (h1 : mF mX5_versionNow + 1 ≤ mF M) (h2 : 8 + (mL mX5_versionNow + 11) + mW mX5_versionNow ≤ mW M) : CLo M mX5_versionNow 1 := ⟨by decide +kernel, wd_744, by decide +kernel, by decide +kernel, h1, h2, wd_109⟩
theorem coX5_versionsAtRisk {M : Md} (h1 : mF mX5_versionsAtRisk + 1 ≤ mF M) (h2 : 8 + (mL mX5_versionsAtRisk + 11) + mW mX5_versionsAtRisk ≤ mW M) : CLo M mX5_versionsAtRisk 1 := ⟨by decide +kernel, wd_647, by decide +kernel, by decide +kernel, h1, h2, wd_109⟩
theorem coX6_answerOfOrder {M : Md} (h1 : mF mX6_answerOfOrder + 1 ≤ mF M) (h2 : 8 + (mL mX6_answerOfOrder + 11) + mW mX6_answerOfOrder ≤ mW M) : CLo M mX6_answerOfOrder 0 := ⟨by decide +kernel, wd_736, by decide +kernel, by decide +kernel, h1, h2, wd_108⟩
theorem coX6_atRisk {M : Md} (h1 : mF mX6_atRisk + 1 ≤ mF M) (h2 : 8 + (mL mX6_atRisk + 11) + mW mX6_atRisk ≤ mW M) : CLo M mX6_atRisk 1 := ⟨by decide +kernel, wd_643, by decide +kernel, by decide +kernel, h1, h2, wd_108⟩
theorem coX6_burn {M : Md} (h1 : mF mX6_burn + 1 ≤ mF M) (h2 : 8 + (mL mX6_burn + 11) + mW mX6_burn ≤ mW M) : CLo M mX6_burn 1 := ⟨by decide +kernel, wd_446, by decide +kernel, by decide +kernel, h1, h2, wd_108⟩
theorem coX6_carryOut {M : Md} (h1 : mF mX6_carryOut + 1 ≤ mF M) (h2 : 8 + (mL mX6_carryOut + 11) + mW mX6_carryOut ≤ mW M) : CLo M mX6_carryOut 0 := ⟨by decide +kernel, wd_730, by decide +kernel, by decide +kernel, h1, h2, wd_108⟩
theorem coX6_count {M : Md} (h1 : mF mX6_count + 1 ≤ mF M) (h2 : 8 + (mL mX6_count + 11) + mW mX6_count ≤ mW M) : CLo M mX6_count 1 := ⟨by decide +kernel, wd_585, by decide +kernel, by decide +kernel, h1, h2, wd_108⟩
theorem coX6_fault {M : Md} (h1 : mF mX6_fault + 1 ≤ mF M) (h2 : 8 + (mL mX6_fault + 11) + mW mX6_fault ≤ mW M) : CLo M mX6_fault 0 := ⟨by decide +kernel, wd_678, by decide +kernel, by decide +kernel, h1, h2, wd_108⟩
theorem coX6_ifMerged {M : Md} (h1 : mF mX6_ifMerged + 1 ≤ mF M) (h2 : 8 + (mL mX6_ifMerged + 11) + mW mX6_ifMerged ≤ mW M) : CLo M mX6_ifMerged 1 := ⟨by decide +kernel, wd_651, by decide +kernel, by decide +kernel, h1, h2, wd_108⟩
theorem coX6_init {M : Md} (h1 : mF mX6_init + 1 ≤ mF M) (h2 : 8 + (mL mX6_init + 11) + mW mX6_init ≤ mW M) : CLo M mX6_init 0 := ⟨by decide +kernel, wd_121, by decide +kernel, by decide +kernel, h1, h2, wd_108⟩
theorem coX6_isPart {M : Md} (h1 : mF mX6_isPart + 1 ≤ mF M) (h2 : 8 + (mL mX6_isPart + 11) + mW mX6_isPart ≤ mW M) : CLo M mX6_isPart 1 := ⟨by decide +kernel, wd_391, by decide +kernel, by decide +kernel, h1, h2, wd_108⟩
theorem coX6_isSlot {M : Md} (h1 : mF mX6_isSlot + 1 ≤ mF M) (h2 : 8 + (mL mX6_isSlot + 11) + mW mX6_isSlot ≤ mW M) : CLo M mX6_isSlot 1 := ⟨by decide +kernel, wd_759, by decide +kernel, by decide +kernel, h1, h2, wd_108⟩
theorem coX6_isStore {M : Md} (h1 : mF mX6_isStore + 1 ≤ mF M) (h2 : 8 + (mL mX6_isStore + 11) + mW mX6_isStore ≤ mW M) : CLo M mX6_isStore 1 := ⟨by decide +kernel, wd_461, by decide +kernel, by decide +kernel, h1, h2, wd_108⟩
theorem coX6_isTag {M : Md} (h1 : mF mX6_isTag + 1 ≤ mF M) (h2 : 8 + (mL mX6_isTag + 11) + mW mX6_isTag ≤ mW M) : CLo M mX6_isTag 1 := ⟨by decide +kernel, wd_476, by decide +kernel, by decide +kernel, h1, h2, wd_108⟩
theorem coX6_keep {M : Md} (h1 : mF mX6_keep + 1 ≤ mF M) (h2 : 8 + (mL mX6_keep + 11) + mW mX6_keep ≤ mW M) : CLo M mX6_keep 1 := ⟨by decide +kernel, wd_384, by decide +kernel, by decide +kernel, h1, h2, wd_108⟩
theorem coX6_lie {M : Md} (h1 : mF mX6_lie + 1 ≤ mF M) (h2 : 8 + (mL mX6_lie + 11) + mW mX6_lie ≤ mW M) : CLo M mX6_lie 4 := ⟨by decide +kernel, wd_465, by decide +kernel, by decide +kernel, h1, h2, wd_108⟩
theorem coX6_merge {M : Md} (h1 : mF mX6_merge + 1 ≤ mF M) (h2 : 8 + (mL mX6_merge + 11) + mW mX6_merge ≤ mW M) : CLo M mX6_merge 1 := ⟨by decide +kernel, wd_484, by decide +kernel, by decide +kernel, h1, h2, wd_108⟩
theorem coX6_needed {M : Md} (h1 : mF mX6_needed + 1 ≤ mF M) (h2 : 8 + (mL mX6_needed + 11) + mW mX6_needed ≤ mW M) : CLo M mX6_needed 1 := ⟨by decide +kernel, wd_631, by decide +kernel, by decide +kernel, h1, h2, wd_108⟩
theorem coX6_of {M : Md} (h1 : mF mX6_of + 1 ≤ mF M) (h2 : 8 + (mL mX6_of + 11) + mW mX6_of ≤ mW M) : CLo M mX6_of 3 := ⟨by decide +kernel, wd_558, by decide +kernel, by decide +kernel, h1, h2, wd_108⟩
theorem coX6_ofSecret {M : Md} (h1 : mF mX6_ofSecret + 1 ≤ mF M) (h2 : 8 + (mL mX6_ofSecret + 11) + mW mX6_ofSecret ≤ mW M) : CLo M mX6_ofSecret 2 := ⟨by decide +kernel, wd_568, by decide +kernel, by decide +kernel, h1, h2, wd_108⟩
theorem coX6_old {M : Md} (h1 : mF mX6_old + 1 ≤ mF M) (h2 : 8 + (mL mX6_old + 11) + mW mX6_old ≤ mW M) : CLo M mX6_old 3 := ⟨by decide +kernel, wd_576, by decide +kernel, by decide +kernel, h1, h2, wd_108⟩
theorem coX6_otherwise {M : Md} (h1 : mF mX6_otherwise + 1 ≤ mF M) (h2 : 8 + (mL mX6_otherwise + 11) + mW mX6_otherwise ≤ mW M) : CLo M mX6_otherwise 3 := ⟨by decide +kernel, wd_601, by decide +kernel, by decide +kernel, h1, h2, wd_108⟩
theorem coX6_pass {M : Md} (h1 : mF mX6_pass + 1 ≤ mF M) (h2 : 8 + (mL mX6_pass + 11) + mW mX6_pass ≤ mW M) : CLo M mX6_pass 1 := ⟨by decide +kernel, wd_543, by decide +kernel, by decide +kernel, h1, h2, wd_108⟩
theorem coX6_passes {M : Md} (h1 : mF mX6_passes + 1 ≤ mF M) (h2 : 8 + (mL mX6_passes + 11) + mW mX6_passes ≤ mW M) : CLo M mX6_passes 3 := ⟨by decide +kernel, wd_622, by decide +kernel, by decide +kernel, h1, h2, wd_108⟩
theorem coX6_passing {M : Md} (h1 : mF mX6_passing + 1 ≤ mF M) (h2 : 8 + (mL mX6_passing + 11) + mW mX6_passing ≤ mW M) : CLo M mX6_passing 3 := ⟨by decide +kernel, wd_609, by decide +kernel, by decide +kernel, h1, h2, wd_108⟩
theorem coX6_put {M : Md} (h1 : mF mX6_put + 1 ≤ mF M) (h2 : 8 + (mL mX6_put + 11) + mW mX6_put ≤ mW M) : CLo M mX6_put 1 := ⟨by decide +kernel, wd_656, by decide +kernel, by decide +kernel, h1, h2, wd_108⟩
theorem coX6_recorded {M : Md} (h1 : mF mX6_recorded + 1 ≤ mF M) (h2 : 8 + (mL mX6_recorded + 11) + mW mX6_recorded ≤ mW M) : CLo M mX6_recorded 1 := ⟨by decide +kernel, wd_368, by decide +kernel, by decide +kernel, h1, h2, wd_108⟩
theorem coX6_refresh {M : Md} (h1 : mF mX6_refresh + 1 ≤ mF M) (h2 : 8 + (mL mX6_refresh + 11) + mW mX6_refresh ≤ mW M) : CLo M mX6_refresh 1 := ⟨by decide +kernel, wd_415, by decide +kernel, by decide +kernel, h1, h2, wd_108⟩
theorem coX6_restore {M : Md} (h1 : mF mX6_restore + 1 ≤ mF M) (h2 : 8 + (mL mX6_restore + 11) + mW mX6_restore ≤ mW M) : CLo M mX6_restore 1 := ⟨by decide +kernel, wd_764, by decide +kernel, by decide +kernel, h1, h2, wd_108⟩
theorem coX6_save {M : Md} (h1 : mF mX6_save + 1 ≤ mF M) (h2 : 8 + (mL mX6_save + 11) + mW mX6_save ≤ mW M) : CLo M mX6_save 1 := ⟨by decide +kernel, wd_756, by decide +kernel, by decide +kernel, h1, h2, wd_108⟩
theorem coX6_seed {M : Md} (h1 : mF mX6_seed + 1 ≤ mF M) (h2 : 8 + (mL mX6_seed + 11) + mW mX6_seed ≤ mW M) : CLo M mX6_seed 1 := ⟨by decide +kernel, wd_376, by decide +kernel, by decide +kernel, h1, h2, wd_108⟩
theorem coX6_set {M : Md} (h1 : mF mX6_set + 1 ≤ mF M) (h2 : 8 + (mL mX6_set + 11) + mW mX6_set ≤ mW M) : CLo M mX6_set 2 := ⟨by decide +kernel, wd_340, by decide +kernel, by decide +kernel, h1, h2, wd_108⟩
theorem coX6_sleep {M : Md} (h1 : mF mX6_sleep + 1 ≤ mF M) (h2 : 8 + (mL mX6_sleep + 11) + mW mX6_sleep ≤ mW M) : CLo M mX6_sleep 1 := ⟨by decide +kernel, wd_454, by decide +kernel, by decide +kernel, h1, h2, wd_108⟩
theorem coX6_steal {M : Md} (h1 : mF mX6_steal + 1 ≤ mF M) (h2 : 8 + (mL mX6_steal + 11) + mW mX6_steal ≤ mW M) : CLo M mX6_steal 3 := ⟨by decide +kernel, wd_526, by decide +kernel, by decide +kernel, h1, h2, wd_108⟩
theorem coX6_undo {M : Md} (h1 : mF mX6_undo + 1 ≤ mF M) (h2 : 8 + (mL mX6_undo + 11) + mW mX6_undo ≤ mW M) : CLo M mX6_undo 0 := ⟨by decide +kernel, wd_748, by decide +kernel, by decide +kernel, h1, h2, wd_108⟩
theorem coX6_versionOfOrder {M : Md} (h1 : mF mX6_versionOfOrder + 1 ≤ mF M) (h2 : 8 + (mL mX6_versionOfOrder + 11) + mW mX6_versionOfOrder ≤ mW M) : CLo M mX6_versionOfOrder 0 := ⟨by decide +kernel, wd_740, by decide +kernel, by decide +kernel, h1, h2, wd_108⟩
theorem coX6_wipe {M : Md} (h1 : mF mX6_wipe + 1 ≤ mF M) (h2 : 8 + (mL mX6_wipe + 11) + mW mX6_wipe ≤ mW M) : CLo M mX6_wipe 0 := ⟨by decide +kernel, wd_670, by decide +kernel, by decide +kernel, h1, h2, wd_108⟩
theorem coX7_areAwake {M : Md} (h1 : mF mX7_areAwake + 1 ≤ mF M) (h2 : 8 + (mL mX7_areAwake + 11) + mW mX7_areAwake ≤ mW M) : CLo M mX7_areAwake 0 := ⟨by decide +kernel, wd_847, by decide +kernel, by decide +kernel, h1, h2, wd_115⟩
theorem coX7_at {M : Md} (h1 : mF mX7_at + 1 ≤ mF M) (h2 : 8 + (mL mX7_at + 11) + mW mX7_at ≤ mW M) : CLo M mX7_at 3 := ⟨by decide +kernel, wd_859, by decide +kernel, by decide +kernel, h1, h2, wd_115⟩
theorem coX7_atRisk {M : Md} (h1 : mF mX7_atRisk + 1 ≤ mF M) (h2 : 8 + (mL mX7_atRisk + 11) + mW mX7_atRisk ≤ mW M) : CLo M mX7_atRisk 1 := ⟨by decide +kernel, wd_1017, by decide +kernel, by decide +kernel, h1, h2, wd_115⟩
theorem coX7_beat {M : Md} (h1 : mF mX7_beat + 1 ≤ mF M) (h2 : 8 + (mL mX7_beat + 11) + mW mX7_beat ≤ mW M) : CLo M mX7_beat 0 := ⟨by decide +kernel, wd_945, by decide +kernel, by decide +kernel, h1, h2, wd_115⟩
theorem coX7_burn {M : Md} (h1 : mF mX7_burn + 1 ≤ mF M) (h2 : 8 + (mL mX7_burn + 11) + mW mX7_burn ≤ mW M) : CLo M mX7_burn 1 := ⟨by decide +kernel, wd_953, by decide +kernel, by decide +kernel, h1, h2, wd_115⟩
theorem coX7_burns {M : Md} (h1 : mF mX7_burns + 1 ≤ mF M) (h2 : 8 + (mL mX7_burns + 11) + mW mX7_burns ≤ mW M) : CLo M mX7_burns 2 := ⟨by decide +kernel, wd_886, by decide +kernel, by decide +kernel, h1, h2, wd_115⟩
theorem coX7_burnt {M : Md} (h1 : mF mX7_burnt + 1 ≤ mF M) (h2 : 8 + (mL mX7_burnt + 11) + mW mX7_burnt ≤ mW M) : CLo M mX7_burnt 1 := ⟨by decide +kernel, wd_890, by decide +kernel, by decide +kernel, h1, h2, wd_115⟩
theorem coX7_canRefresh {M : Md} (h1 : mF mX7_canRefresh + 1 ≤ mF M) (h2 : 8 + (mL mX7_canRefresh + 11) + mW mX7_canRefresh ≤ mW M) : CLo M mX7_canRefresh 1 := ⟨by decide +kernel, wd_874, by decide +kernel, by decide +kernel, h1, h2, wd_115⟩
theorem coX7_carryOut {M : Md} (h1 : mF mX7_carryOut + 1 ≤ mF M) (h2 : 8 + (mL mX7_carryOut + 11) + mW mX7_carryOut ≤ mW M) : CLo M mX7_carryOut 0 := ⟨by decide +kernel, wd_1066, by decide +kernel, by decide +kernel, h1, h2, wd_115⟩
theorem coX7_cell {M : Md} (h1 : mF mX7_cell + 1 ≤ mF M) (h2 : 8 + (mL mX7_cell + 11) + mW mX7_cell ≤ mW M) : CLo M mX7_cell 2 := ⟨by decide +kernel, wd_862, by decide +kernel, by decide +kernel, h1, h2, wd_115⟩
theorem coX7_count {M : Md} (h1 : mF mX7_count + 1 ≤ mF M) (h2 : 8 + (mL mX7_count + 11) + mW mX7_count ≤ mW M) : CLo M mX7_count 1 := ⟨by decide +kernel, wd_989, by decide +kernel, by decide +kernel, h1, h2, wd_115⟩
theorem coX7_does {M : Md} (h1 : mF mX7_does + 1 ≤ mF M) (h2 : 8 + (mL mX7_does + 11) + mW mX7_does ≤ mW M) : CLo M mX7_does 5 := ⟨by decide +kernel, wd_839, by decide +kernel, by decide +kernel, h1, h2, wd_115⟩
theorem coX7_draw {M : Md} (h1 : mF mX7_draw + 1 ≤ mF M) (h2 : 8 + (mL mX7_draw + 11) + mW mX7_draw ≤ mW M) : CLo M mX7_draw 1 := ⟨by decide +kernel, wd_855, by decide +kernel, by decide +kernel, h1, h2, wd_115⟩
theorem coX7_fault {M : Md} (h1 : mF mX7_fault + 1 ≤ mF M) (h2 : 8 + (mL mX7_fault + 11) + mW mX7_fault ≤ mW M) : CLo M mX7_fault 0 := ⟨by decide +kernel, wd_1034, by decide +kernel, by decide +kernel, h1, h2, wd_115⟩
theorem coX7_goes {M : Md} (h1 : mF mX7_goes + 1 ≤ mF M) (h2 : 8 + (mL mX7_goes + 11) + mW mX7_goes ≤ mW M) : CLo M mX7_goes 1 := ⟨by decide +kernel, wd_1038, by decide +kernel, by decide +kernel, h1, h2, wd_115⟩
theorem coX7_ifMerged {M : Md} (h1 : mF mX7_ifMerged + 1 ≤ mF M) (h2 : 8 + (mL mX7_ifMerged + 11) + mW mX7_ifMerged ≤ mW M) : CLo M mX7_ifMerged 1 := ⟨by decide +kernel, wd_1021, by decide +kernel, by decide +kernel, h1, h2, wd_115⟩
theorem coX7_in {M : Md} (h1 : mF mX7_in + 1 ≤ mF M) (h2 : 8 + (mL mX7_in + 11) + mW mX7_in ≤ mW M) : CLo M mX7_in 3 := ⟨by decide +kernel, wd_811, by decide +kernel, by decide +kernel, h1, h2, wd_115⟩
theorem coX7_init {M : Md} (h1 : mF mX7_init + 1 ≤ mF M) (h2 : 8 + (mL mX7_init + 11) + mW mX7_init ≤ mW M) : CLo M mX7_init 0 := ⟨by decide +kernel, wd_769, by decide +kernel, by decide +kernel, h1, h2, wd_115⟩
theorem coX7_isDone {M : Md} (h1 : mF mX7_isDone + 1 ≤ mF M) (h2 : 8 + (mL mX7_isDone + 11) + mW mX7_isDone ≤ mW M) : CLo M mX7_isDone 0 := ⟨by decide +kernel, wd_1062, by decide +kernel, by decide +kernel, h1, h2, wd_115⟩
theorem coX7_isLiedAbout {M : Md} (h1 : mF mX7_isLiedAbout + 1 ≤ mF M) (h2 : 8 + (mL mX7_isLiedAbout + 11) + mW mX7_isLiedAbout ≤ mW M) : CLo M mX7_isLiedAbout 1 := ⟨by decide +kernel, wd_918, by decide +kernel, by decide +kernel, h1, h2, wd_115⟩
theorem coX7_isNext {M : Md} (h1 : mF mX7_isNext + 1 ≤ mF M) (h2 : 8 + (mL mX7_isNext + 11) + mW mX7_isNext ≤ mW M) : CLo M mX7_isNext 1 := ⟨by decide +kernel, wd_1058, by decide +kernel, by decide +kernel, h1, h2, wd_115⟩
theorem coX7_isPassed {M : Md} (h1 : mF mX7_isPassed + 1 ≤ mF M) (h2 : 8 + (mL mX7_isPassed + 11) + mW mX7_isPassed ≤ mW M) : CLo M mX7_isPassed 4 := ⟨by decide +kernel, wd_906, by decide +kernel, by decide +kernel, h1, h2, wd_115⟩
theorem coX7_isPassedNow {M : Md} (h1 : mF mX7_isPassedNow + 1 ≤ mF M) (h2 : 8 + (mL mX7_isPassedNow + 11) + mW mX7_isPassedNow ≤ mW M) : CLo M mX7_isPassedNow 2 := ⟨by decide +kernel, wd_902, by decide +kernel, by decide +kernel, h1, h2, wd_115⟩
theorem coX7_isSecret {M : Md} (h1 : mF mX7_isSecret + 1 ≤ mF M) (h2 : 8 + (mL mX7_isSecret + 11) + mW mX7_isSecret ≤ mW M) : CLo M mX7_isSecret 1 := ⟨by decide +kernel, wd_870, by decide +kernel, by decide +kernel, h1, h2, wd_115⟩
theorem coX7_isStore {M : Md} (h1 : mF mX7_isStore + 1 ≤ mF M) (h2 : 8 + (mL mX7_isStore + 11) + mW mX7_isStore ≤ mW M) : CLo M mX7_isStore 1 := ⟨by decide +kernel, wd_925, by decide +kernel, by decide +kernel, h1, h2, wd_115⟩
theorem coX7_keep {M : Md} (h1 : mF mX7_keep + 1 ≤ mF M) (h2 : 8 + (mL mX7_keep + 11) + mW mX7_keep ≤ mW M) : CLo M mX7_keep 1 := ⟨by decide +kernel, wd_831, by decide +kernel, by decide +kernel, h1, h2, wd_115⟩
theorem coX7_keeps {M : Md} (h1 : mF mX7_keeps + 1 ≤ mF M) (h2 : 8 + (mL mX7_keeps + 11) + mW mX7_keeps ≤ mW M) : CLo M mX7_keeps 1 := ⟨by decide +kernel, wd_843, by decide +kernel, by decide +kernel, h1, h2, wd_115⟩
theorem coX7_lie {M : Md} (h1 : mF mX7_lie + 1 ≤ mF M) (h2 : 8 + (mL mX7_lie + 11) + mW mX7_lie ≤ mW M) : CLo M mX7_lie 4 := ⟨by decide +kernel, wd_961, by decide +kernel, by decide +kernel, h1, h2, wd_115⟩
theorem coX7_lies {M : Md} (h1 : mF mX7_lies + 1 ≤ mF M) (h2 : 8 + (mL mX7_lies + 11) + mW mX7_lies ≤ mW M) : CLo M mX7_lies 4 := ⟨by decide +kernel, wd_929, by decide +kernel, by decide +kernel, h1, h2, wd_115⟩
theorem coX7_looks {M : Md} (h1 : mF mX7_looks + 1 ≤ mF M) (h2 : 8 + (mL mX7_looks + 11) + mW mX7_looks ≤ mW M) : CLo M mX7_looks 0 := ⟨by decide +kernel, wd_819, by decide +kernel, by decide +kernel, h1, h2, wd_115⟩
theorem coX7_makes {M : Md} (h1 : mF mX7_makes + 1 ≤ mF M) (h2 : 8 + (mL mX7_makes + 11) + mW mX7_makes ≤ mW M) : CLo M mX7_makes 3 := ⟨by decide +kernel, wd_851, by decide +kernel, by decide +kernel, h1, h2, wd_115⟩
theorem coX7_merge {M : Md} (h1 : mF mX7_merge + 1 ≤ mF M) (h2 : 8 + (mL mX7_merge + 11) + mW mX7_merge ≤ mW M) : CLo M mX7_merge 1 := ⟨by decide +kernel, wd_965, by decide +kernel, by decide +kernel, h1, h2, wd_115⟩
theorem coX7_merged {M : Md} (h1 : mF mX7_merged + 1 ≤ mF M) (h2 : 8 + (mL mX7_merged + 11) + mW mX7_merged ≤ mW M) : CLo M mX7_merged 1 := ⟨by decide +kernel, wd_898, by decide +kernel, by decide +kernel, h1, h2, wd_115⟩
theorem coX7_merges {M : Md} (h1 : mF mX7_merges + 1 ≤ mF M) (h2 : 8 + (mL mX7_merges + 11) + mW mX7_merges ≤ mW M) : CLo M mX7_merges 1 := ⟨by decide +kernel, wd_894, by decide +kernel, by decide +kernel, h1, h2, wd_115⟩
theorem coX7_needed {M : Md} (h1 : mF mX7_needed + 1 ≤ mF M) (h2 : 8 + (mL mX7_needed + 11) + mW mX7_needed ≤ mW M) : CLo M mX7_needed 1 := ⟨by decide +kernel, wd_1009, by decide +kernel, by decide +kernel, h1, h2, wd_115⟩
theorem coX7_of {M : Md} (h1 : mF mX7_of + 1 ≤ mF M) (h2 : 8 + (mL mX7_of + 11) + mW mX7_of ≤ mW M) : CLo M mX7_of 3 := ⟨by decide +kernel, wd_977, by decide +kernel, by decide +kernel, h1, h2, wd_115⟩
theorem coX7_ofSecret {M : Md} (h1 : mF mX7_ofSecret + 1 ≤ mF M) (h2 : 8 + (mL mX7_ofSecret + 11) + mW mX7_ofSecret ≤ mW M) : CLo M mX7_ofSecret 2 := ⟨by decide +kernel, wd_981, by decide +kernel, by decide +kernel, h1, h2, wd_115⟩
theorem coX7_old {M : Md} (h1 : mF mX7_old + 1 ≤ mF M) (h2 : 8 + (mL mX7_old + 11) + mW mX7_old ≤ mW M) : CLo M mX7_old 3 := ⟨by decide +kernel, wd_985, by decide +kernel, by decide +kernel, h1, h2, wd_115⟩
theorem coX7_otherwise {M : Md} (h1 : mF mX7_otherwise + 1 ≤ mF M) (h2 : 8 + (mL mX7_otherwise + 11) + mW mX7_otherwise ≤ mW M) : CLo M mX7_otherwise 3 := ⟨by decide +kernel, wd_997, by decide +kernel, by decide +kernel, h1, h2, wd_115⟩
theorem coX7_partOf {M : Md} (h1 : mF mX7_partOf + 1 ≤ mF M) (h2 : 8 + (mL mX7_partOf + 11) + mW mX7_partOf ≤ mW M) : CLo M mX7_partOf 2 := ⟨by decide +kernel, wd_882, by decide +kernel, by decide +kernel, h1, h2, wd_115⟩
theorem coX7_pass {M : Md} (h1 : mF mX7_pass + 1 ≤ mF M) (h2 : 8 + (mL mX7_pass + 11) + mW mX7_pass ≤ mW M) : CLo M mX7_pass 1 := ⟨by decide +kernel, wd_973, by decide +kernel, by decide +kernel, h1, h2, wd_115⟩
theorem coX7_passes {M : Md} (h1 : mF mX7_passes + 1 ≤ mF M) (h2 : 8 + (mL mX7_passes + 11) + mW mX7_passes ≤ mW M) : CLo M mX7_passes 1 := ⟨by decide +kernel, wd_941, by decide +kernel, by decide +kernel, h1, h2, wd_115⟩
theorem coX7_passes_ {M : Md} (h1 : mF mX7_passes_ + 1 ≤ mF M) (h2 : 8 + (mL mX7_passes_ + 11) + mW mX7_passes_ ≤ mW M) : CLo M mX7_passes_ 3 := ⟨by decide +kernel, wd_1005, by decide +kernel, by decide +kernel, h1, h2, wd_115⟩
theorem coX7_passing {M : Md} (h1 : mF mX7_passing + 1 ≤ mF M) (h2 : 8 + (mL mX7_passing + 11) + mW mX7_passing ≤ mW M) : CLo M mX7_passing 3 := ⟨by decide +kernel, wd_1001, by decide +kernel, by decide +kernel, h1, h2, wd_115⟩
theorem coX7_pushes {M : Md} (h1 : mF mX7_pushes + 1 ≤ mF M) (h2 : 8 + (mL mX7_pushes + 11) + mW mX7_pushes ≤ mW M) : CLo M mX7_pushes 0 := ⟨by decide +kernel, wd_823, by decide +kernel, by decide +kernel, h1, h2, wd_115⟩
theorem coX7_put {M : Md} (h1 : mF mX7_put + 1 ≤ mF M) (h2 : 8 + (mL mX7_put + 11) + mW mX7_put ≤ mW M) : CLo M mX7_put 1 := ⟨by decide +kernel, wd_1025, by decide +kernel, by decide +kernel, h1, h2, wd_115⟩
theorem coX7_rankOf {M : Md} (h1 : mF mX7_rankOf + 1 ≤ mF M) (h2 : 8 + (mL mX7_rankOf + 11) + mW mX7_rankOf ≤ mW M) : CLo M mX7_rankOf 2 := ⟨by decide +kernel, wd_937, by decide +kernel, by decide +kernel, h1, h2, wd_115⟩
theorem coX7_readOrder {M : Md} (h1 : mF mX7_readOrder + 1 ≤ mF M) (h2 : 8 + (mL mX7_readOrder + 11) + mW mX7_readOrder ≤ mW M) : CLo M mX7_readOrder 0 := ⟨by decide +kernel, wd_1042, by decide +kernel, by decide +kernel, h1, h2, wd_115⟩
theorem coX7_record {M : Md} (h1 : mF mX7_record + 1 ≤ mF M) (h2 : 8 + (mL mX7_record + 11) + mW mX7_record ≤ mW M) : CLo M mX7_record 0 := ⟨by decide +kernel, wd_815, by decide +kernel, by decide +kernel, h1, h2, wd_115⟩
theorem coX7_refresh {M : Md} (h1 : mF mX7_refresh + 1 ≤ mF M) (h2 : 8 + (mL mX7_refresh + 11) + mW mX7_refresh ≤ mW M) : CLo M mX7_refresh 1 := ⟨by decide +kernel, wd_949, by decide +kernel, by decide +kernel, h1, h2, wd_115⟩
theorem coX7_refreshed {M : Md} (h1 : mF mX7_refreshed + 1 ≤ mF M) (h2 : 8 + (mL mX7_refreshed + 11) + mW mX7_refreshed ≤ mW M) : CLo M mX7_refreshed 1 := ⟨by decide +kernel, wd_866, by decide +kernel, by decide +kernel, h1, h2, wd_115⟩
theorem coX7_refreshes {M : Md} (h1 : mF mX7_refreshes + 1 ≤ mF M) (h2 : 8 + (mL mX7_refreshes + 11) + mW mX7_refreshes ≤ mW M) : CLo M mX7_refreshes 1 := ⟨by decide +kernel, wd_878, by decide +kernel, by decide +kernel, h1, h2, wd_115⟩
theorem coX7_restore {M : Md} (h1 : mF mX7_restore + 1 ≤ mF M) (h2 : 8 + (mL mX7_restore + 11) + mW mX7_restore ≤ mW M) : CLo M mX7_restore 1 := ⟨by decide +kernel, wd_1078, by decide +kernel, by decide +kernel, h1, h2, wd_115⟩
theorem coX7_save {M : Md} (h1 : mF mX7_save + 1 ≤ mF M) (h2 : 8 + (mL mX7_save + 11) + mW mX7_save ≤ mW M) : CLo M mX7_save 1 := ⟨by decide +kernel, wd_1074, by decide +kernel, by decide +kernel, h1, h2, wd_115⟩
theorem coX7_seed {M : Md} (h1 : mF mX7_seed + 1 ≤ mF M) (h2 : 8 + (mL mX7_seed + 11) + mW mX7_seed ≤ mW M) : CLo M mX7_seed 1 := ⟨by decide +kernel, wd_827, by decide +kernel, by decide +kernel, h1, h2, wd_115⟩
theorem coX7_set {M : Md} (h1 : mF mX7_set + 1 ≤ mF M) (h2 : 8 + (mL mX7_set + 11) + mW mX7_set ≤ mW M) : CLo M mX7_set 2 := ⟨by decide +kernel, wd_808, by decide +kernel, by decide +kernel, h1, h2, wd_115⟩
theorem coX7_setOf {M : Md} (h1 : mF mX7_setOf + 1 ≤ mF M) (h2 : 8 + (mL mX7_setOf + 11) + mW mX7_setOf ≤ mW M) : CLo M mX7_setOf 1 := ⟨by decide +kernel, wd_993, by decide +kernel, by decide +kernel, h1, h2, wd_115⟩
theorem coX7_sleep {M : Md} (h1 : mF mX7_sleep + 1 ≤ mF M) (h2 : 8 + (mL mX7_sleep + 11) + mW mX7_sleep ≤ mW M) : CLo M mX7_sleep 1 := ⟨by decide +kernel, wd_957, by decide +kernel, by decide +kernel, h1, h2, wd_115⟩
theorem coX7_sleeps {M : Md} (h1 : mF mX7_sleeps + 1 ≤ mF M) (h2 : 8 + (mL mX7_sleeps + 11) + mW mX7_sleeps ≤ mW M) : CLo M mX7_sleeps 1 := ⟨by decide +kernel, wd_922, by decide +kernel, by decide +kernel, h1, h2, wd_115⟩
theorem coX7_steal {M : Md} (h1 : mF mX7_steal + 1 ≤ mF M) (h2 : 8 + (mL mX7_steal + 11) + mW mX7_steal ≤ mW M) : CLo M mX7_steal 3 := ⟨by decide +kernel, wd_969, by decide +kernel, by decide +kernel, h1, h2, wd_115⟩
theorem coX7_steals {M : Md} (h1 : mF mX7_steals + 1 ≤ mF M) (h2 : 8 + (mL mX7_steals + 11) + mW mX7_steals ≤ mW M) : CLo M mX7_steals 3 := ⟨by decide +kernel, wd_933, by decide +kernel, by decide +kernel, h1, h2, wd_115⟩
theorem coX7_tagOf {M : Md} (h1 : mF mX7_tagOf + 1 ≤ mF M) (h2 : 8 + (mL mX7_tagOf + 11) + mW mX7_tagOf ≤ mW M) : CLo M mX7_tagOf 2 := ⟨by decide +kernel, wd_914, by decide +kernel, by decide +kernel, h1, h2, wd_115⟩
theorem coX7_takes {M : Md} (h1 : mF mX7_takes + 1 ≤ mF M) (h2 : 8 + (mL mX7_takes + 11) + mW mX7_takes ≤ mW M) : CLo M mX7_takes 2 := ⟨by decide +kernel, wd_1046, by decide +kernel, by decide +kernel, h1, h2, wd_115⟩
theorem coX7_takesBehind {M : Md} (h1 : mF mX7_takesBehind + 1 ≤ mF M) (h2 : 8 + (mL mX7_takesBehind + 11) + mW mX7_takesBehind ≤ mW M) : CLo M mX7_takesBehind 2 := ⟨by decide +kernel, wd_1054, by decide +kernel, by decide +kernel, h1, h2, wd_115⟩
theorem coX7_takesNumber {M : Md} (h1 : mF mX7_takesNumber + 1 ≤ mF M) (h2 : 8 + (mL mX7_takesNumber + 11) + mW mX7_takesNumber ≤ mW M) : CLo M mX7_takesNumber 0 := ⟨by decide +kernel, wd_1050, by decide +kernel, by decide +kernel, h1, h2, wd_115⟩
theorem coX7_toldPart {M : Md} (h1 : mF mX7_toldPart + 1 ≤ mF M) (h2 : 8 + (mL mX7_toldPart + 11) + mW mX7_toldPart ≤ mW M) : CLo M mX7_toldPart 3 := ⟨by decide +kernel, wd_910, by decide +kernel, by decide +kernel, h1, h2, wd_115⟩
theorem coX7_tries {M : Md} (h1 : mF mX7_tries + 1 ≤ mF M) (h2 : 8 + (mL mX7_tries + 11) + mW mX7_tries ≤ mW M) : CLo M mX7_tries 5 := ⟨by decide +kernel, wd_835, by decide +kernel, by decide +kernel, h1, h2, wd_115⟩
theorem coX7_undo {M : Md} (h1 : mF mX7_undo + 1 ≤ mF M) (h2 : 8 + (mL mX7_undo + 11) + mW mX7_undo ≤ mW M) : CLo M mX7_undo 0 := ⟨by decide +kernel, wd_1070, by decide +kernel, by decide +kernel, h1, h2, wd_115⟩
theorem coX7_versionsAtRisk {M : Md} (h1 : mF mX7_versionsAtRisk + 1 ≤ mF M) (h2 : 8 + (mL mX7_versionsAtRisk + 11) + mW mX7_versionsAtRisk ≤ mW M) : CLo M mX7_versionsAtRisk 1 := ⟨by decide +kernel, wd_1013, by decide +kernel, by decide +kernel, h1, h2, wd_115⟩
theorem coX7_wipe {M : Md} (h1 : mF mX7_wipe + 1 ≤ mF M) (h2 : 8 + (mL mX7_wipe + 11) + mW mX7_wipe ≤ mW M) : CLo M mX7_wipe 0 := ⟨by decide +kernel, wd_1030, by decide +kernel, by decide +kernel, h1, h2, wd_115⟩
end
section
theorem dJ9_floorMod_7cf53_0 : decode cJ9_floorMod_7cf53 0 = .ok (.iload_n 0, 1) := by decide +kernel
theorem dJ9_floorMod_7cf53_1 : decode cJ9_floorMod_7cf53 1 = .ok (.iload_n 1, 1) := by decide +kernel
theorem dJ9_floorMod_7cf53_2 : decode cJ9_floorMod_7cf53 2 = .ok (.irem, 1) := by decide +kernel
theorem dJ9_floorMod_7cf53_3 : decode cJ9_floorMod_7cf53 3 = .ok (.istore_n 2, 1) := by decide +kernel
theorem dJ9_floorMod_7cf53_4 : decode cJ9_floorMod_7cf53 4 = .ok (.iload_n 0, 1) := by decide +kernel
theorem dJ9_floorMod_7cf53_5 : decode cJ9_floorMod_7cf53 5 = .ok (.iload_n 1, 1) := by decide +kernel
theorem dJ9_floorMod_7cf53_6 : decode cJ9_floorMod_7cf53 6 = .ok (.ixor, 1) := by decide +kernel
theorem dJ9_floorMod_7cf53_7 : decode cJ9_floorMod_7cf53 7 = .ok (.ifCond .ge 11, 3) := by decide +kernel
theorem dJ9_floorMod_7cf53_10 : decode cJ9_floorMod_7cf53 10 = .ok (.iload_n 2, 1) := by decide +kernel
theorem dJ9_floorMod_7cf53_11 : decode cJ9_floorMod_7cf53 11 = .ok (.ifCond .eq 7, 3) := by decide +kernel
theorem dJ9_floorMod_7cf53_14 : decode cJ9_floorMod_7cf53 14 = .ok (.iload_n 2, 1) := by decide +kernel
theorem dJ9_floorMod_7cf53_15 : decode cJ9_floorMod_7cf53 15 = .ok (.iload_n 1, 1) := by decide +kernel
theorem dJ9_floorMod_7cf53_16 : decode cJ9_floorMod_7cf53 16 = .ok (.iadd, 1) := by decide +kernel
theorem dJ9_floorMod_7cf53_17 : decode cJ9_floorMod_7cf53 17 = .ok (.ireturn, 1) := by decide +kernel
theorem dJ9_floorMod_7cf53_18 : decode cJ9_floorMod_7cf53 18 = .ok (.iload_n 2, 1) := by decide +kernel
theorem dJ9_floorMod_7cf53_19 : decode cJ9_floorMod_7cf53 19 = .ok (.ireturn, 1) := by decide +kernel
theorem dJ9_max_7cf53_0 : decode cJ9_max_7cf53 0 = .ok (.iload_n 0, 1) := by decide +kernel
theorem dJ9_max_7cf53_1 : decode cJ9_max_7cf53 1 = .ok (.iload_n 1, 1) := by decide +kernel
theorem dJ9_max_7cf53_2 : decode cJ9_max_7cf53 2 = .ok (.if_icmp .lt 7, 3) := by decide +kernel
theorem dJ9_max_7cf53_5 : decode cJ9_max_7cf53 5 = .ok (.iload_n 0, 1) := by decide +kernel
theorem dJ9_max_7cf53_6 : decode cJ9_max_7cf53 6 = .ok (.goto 4, 3) := by decide +kernel
theorem dJ9_max_7cf53_9 : decode cJ9_max_7cf53 9 = .ok (.iload_n 1, 1) := by decide +kernel
theorem dJ9_max_7cf53_10 : decode cJ9_max_7cf53 10 = .ok (.ireturn, 1) := by decide +kernel
theorem dJ9_min_7cf53_0 : decode cJ9_min_7cf53 0 = .ok (.iload_n 0, 1) := by decide +kernel
theorem dJ9_min_7cf53_1 : decode cJ9_min_7cf53 1 = .ok (.iload_n 1, 1) := by decide +kernel
theorem dJ9_min_7cf53_2 : decode cJ9_min_7cf53 2 = .ok (.if_icmp .gt 7, 3) := by decide +kernel
theorem dJ9_min_7cf53_5 : decode cJ9_min_7cf53 5 = .ok (.iload_n 0, 1) := by decide +kernel
theorem dJ9_min_7cf53_6 : decode cJ9_min_7cf53 6 = .ok (.goto 4, 3) := by decide +kernel
theorem dJ9_min_7cf53_9 : decode cJ9_min_7cf53 9 = .ok (.iload_n 1, 1) := by decide +kernel
theorem dJ9_min_7cf53_10 : decode cJ9_min_7cf53 10 = .ok (.ireturn, 1) := by decide +kernel
theorem dX0_catches_0 : decode cX0_catches 0 = .ok (.aload_n 0, 1) := by decide +kernel
theorem dX0_catches_1 : decode cX0_catches 1 = .ok (.aload_n 1, 1) := by decide +kernel
theorem dX0_catches_2 : decode cX0_catches 2 = .ok (.invokevirtual 39, 3) := by decide +kernel
theorem dX0_catches_5 : decode cX0_catches 5 = .ok (.invokevirtual 43, 3) := by decide +kernel
theorem dX0_catches_8 : decode cX0_catches 8 = .ok (.aload_n 1, 1) := by decide +kernel
theorem dX0_catches_9 : decode cX0_catches 9 = .ok (.invokevirtual 46, 3) := by decide +kernel
theorem dX0_catches_12 : decode cX0_catches 12 = .ok (.if_icmp .eq 7, 3) := by decide +kernel
theorem dX0_catches_15 : decode cX0_catches 15 = .ok (.iconst 1, 1) := by decide +kernel
theorem dX0_catches_16 : decode cX0_catches 16 = .ok (.goto 4, 3) := by decide +kernel
theorem dX0_catches_19 : decode cX0_catches 19 = .ok (.iconst 0, 1) := by decide +kernel
theorem dX0_catches_20 : decode cX0_catches 20 = .ok (.ireturn, 1) := by decide +kernel
theorem dX0_copyHalf_0 : decode cX0_copyHalf 0 = .ok (.iconst 0, 1) := by decide +kernel
theorem dX0_copyHalf_1 : decode cX0_copyHalf 1 = .ok (.istore_n 2, 1) := by decide +kernel
theorem dX0_copyHalf_2 : decode cX0_copyHalf 2 = .ok (.iload_n 2, 1) := by decide +kernel
theorem dX0_copyHalf_3 : decode cX0_copyHalf 3 = .ok (.iconst 5, 1) := by decide +kernel
theorem dX0_copyHalf_4 : decode cX0_copyHalf 4 = .ok (.if_icmp .ge 33, 3) := by decide +kernel
theorem dX0_copyHalf_7 : decode cX0_copyHalf 7 = .ok (.aload_n 0, 1) := by decide +kernel
theorem dX0_copyHalf_8 : decode cX0_copyHalf 8 = .ok (.getfield 9, 3) := by decide +kernel
theorem dX0_copyHalf_11 : decode cX0_copyHalf 11 = .ok (.iload_n 2, 1) := by decide +kernel
theorem dX0_copyHalf_12 : decode cX0_copyHalf 12 = .ok (.aload_n 1, 1) := by decide +kernel
theorem dX0_copyHalf_13 : decode cX0_copyHalf 13 = .ok (.getfield 9, 3) := by decide +kernel
theorem dX0_copyHalf_16 : decode cX0_copyHalf 16 = .ok (.iload_n 2, 1) := by decide +kernel
theorem dX0_copyHalf_17 : decode cX0_copyHalf 17 = .ok (.iaload, 1) := by decide +kernel
theorem dX0_copyHalf_18 : decode cX0_copyHalf 18 = .ok (.iastore, 1) := by decide +kernel
theorem dX0_copyHalf_19 : decode cX0_copyHalf 19 = .ok (.aload_n 0, 1) := by decide +kernel
theorem dX0_copyHalf_20 : decode cX0_copyHalf 20 = .ok (.getfield 15, 3) := by decide +kernel
theorem dX0_copyHalf_23 : decode cX0_copyHalf 23 = .ok (.iload_n 2, 1) := by decide +kernel
theorem dX0_copyHalf_24 : decode cX0_copyHalf 24 = .ok (.aload_n 1, 1) := by decide +kernel
theorem dX0_copyHalf_25 : decode cX0_copyHalf 25 = .ok (.getfield 15, 3) := by decide +kernel
theorem dX0_copyHalf_28 : decode cX0_copyHalf 28 = .ok (.iload_n 2, 1) := by decide +kernel
theorem dX0_copyHalf_29 : decode cX0_copyHalf 29 = .ok (.baload, 1) := by decide +kernel
theorem dX0_copyHalf_30 : decode cX0_copyHalf 30 = .ok (.bastore, 1) := by decide +kernel
theorem dX0_copyHalf_31 : decode cX0_copyHalf 31 = .ok (.iinc 2 1, 3) := by decide +kernel
theorem dX0_copyHalf_34 : decode cX0_copyHalf 34 = .ok (.goto (-32), 3) := by decide +kernel
theorem dX0_copyHalf_37 : decode cX0_copyHalf 37 = .ok (.aload_n 0, 1) := by decide +kernel
theorem dX0_copyHalf_38 : decode cX0_copyHalf 38 = .ok (.aload_n 1, 1) := by decide +kernel
theorem dX0_copyHalf_39 : decode cX0_copyHalf 39 = .ok (.getfield 19, 3) := by decide +kernel
theorem dX0_copyHalf_42 : decode cX0_copyHalf 42 = .ok (.putfield 19, 3) := by decide +kernel
theorem dX0_copyHalf_45 : decode cX0_copyHalf 45 = .ok (.aload_n 0, 1) := by decide +kernel
theorem dX0_copyHalf_46 : decode cX0_copyHalf 46 = .ok (.aload_n 1, 1) := by decide +kernel
theorem dX0_copyHalf_47 : decode cX0_copyHalf 47 = .ok (.getfield 23, 3) := by decide +kernel
theorem dX0_copyHalf_50 : decode cX0_copyHalf 50 = .ok (.putfield 23, 3) := by decide +kernel
theorem dX0_copyHalf_53 : decode cX0_copyHalf 53 = .ok (.aload_n 0, 1) := by decide +kernel
theorem dX0_copyHalf_54 : decode cX0_copyHalf 54 = .ok (.aload_n 1, 1) := by decide +kernel
theorem dX0_copyHalf_55 : decode cX0_copyHalf 55 = .ok (.getfield 26, 3) := by decide +kernel
theorem dX0_copyHalf_58 : decode cX0_copyHalf 58 = .ok (.putfield 26, 3) := by decide +kernel
theorem dX0_copyHalf_61 : decode cX0_copyHalf 61 = .ok (.aload_n 0, 1) := by decide +kernel
theorem dX0_copyHalf_62 : decode cX0_copyHalf 62 = .ok (.aload_n 1, 1) := by decide +kernel
theorem dX0_copyHalf_63 : decode cX0_copyHalf 63 = .ok (.getfield 29, 3) := by decide +kernel
theorem dX0_copyHalf_66 : decode cX0_copyHalf 66 = .ok (.putfield 29, 3) := by decide +kernel
theorem dX0_copyHalf_69 : decode cX0_copyHalf 69 = .ok (.aload_n 0, 1) := by decide +kernel
theorem dX0_copyHalf_70 : decode cX0_copyHalf 70 = .ok (.aload_n 1, 1) := by decide +kernel
theorem dX0_copyHalf_71 : decode cX0_copyHalf 71 = .ok (.getfield 32, 3) := by decide +kernel
theorem dX0_copyHalf_74 : decode cX0_copyHalf 74 = .ok (.putfield 32, 3) := by decide +kernel
theorem dX0_copyHalf_77 : decode cX0_copyHalf 77 = .ok (.return_, 1) := by decide +kernel
theorem dX0_freeRowOfNow_0 : decode cX0_freeRowOfNow 0 = .ok (.iconst 4, 1) := by decide +kernel
theorem dX0_freeRowOfNow_1 : decode cX0_freeRowOfNow 1 = .ok (.istore_n 1, 1) := by decide +kernel
theorem dX0_freeRowOfNow_2 : decode cX0_freeRowOfNow 2 = .ok (.iload_n 1, 1) := by decide +kernel
theorem dX0_freeRowOfNow_3 : decode cX0_freeRowOfNow 3 = .ok (.ifCond .le 37, 3) := by decide +kernel
theorem dX0_freeRowOfNow_6 : decode cX0_freeRowOfNow 6 = .ok (.aload_n 0, 1) := by decide +kernel
theorem dX0_freeRowOfNow_7 : decode cX0_freeRowOfNow 7 = .ok (.getfield 9, 3) := by decide +kernel
theorem dX0_freeRowOfNow_10 : decode cX0_freeRowOfNow 10 = .ok (.iload_n 1, 1) := by decide +kernel
theorem dX0_freeRowOfNow_11 : decode cX0_freeRowOfNow 11 = .ok (.aload_n 0, 1) := by decide +kernel
theorem dX0_freeRowOfNow_12 : decode cX0_freeRowOfNow 12 = .ok (.getfield 9, 3) := by decide +kernel
theorem dX0_freeRowOfNow_15 : decode cX0_freeRowOfNow 15 = .ok (.iload_n 1, 1) := by decide +kernel
theorem dX0_freeRowOfNow_16 : decode cX0_freeRowOfNow 16 = .ok (.iconst 1, 1) := by decide +kernel
theorem dX0_freeRowOfNow_17 : decode cX0_freeRowOfNow 17 = .ok (.isub, 1) := by decide +kernel
theorem dX0_freeRowOfNow_18 : decode cX0_freeRowOfNow 18 = .ok (.iaload, 1) := by decide +kernel
theorem dX0_freeRowOfNow_19 : decode cX0_freeRowOfNow 19 = .ok (.iastore, 1) := by decide +kernel
theorem dX0_freeRowOfNow_20 : decode cX0_freeRowOfNow 20 = .ok (.aload_n 0, 1) := by decide +kernel
theorem dX0_freeRowOfNow_21 : decode cX0_freeRowOfNow 21 = .ok (.getfield 15, 3) := by decide +kernel
theorem dX0_freeRowOfNow_24 : decode cX0_freeRowOfNow 24 = .ok (.iload_n 1, 1) := by decide +kernel
theorem dX0_freeRowOfNow_25 : decode cX0_freeRowOfNow 25 = .ok (.aload_n 0, 1) := by decide +kernel
theorem dX0_freeRowOfNow_26 : decode cX0_freeRowOfNow 26 = .ok (.getfield 15, 3) := by decide +kernel
theorem dX0_freeRowOfNow_29 : decode cX0_freeRowOfNow 29 = .ok (.iload_n 1, 1) := by decide +kernel
theorem dX0_freeRowOfNow_30 : decode cX0_freeRowOfNow 30 = .ok (.iconst 1, 1) := by decide +kernel
theorem dX0_freeRowOfNow_31 : decode cX0_freeRowOfNow 31 = .ok (.isub, 1) := by decide +kernel
theorem dX0_freeRowOfNow_32 : decode cX0_freeRowOfNow 32 = .ok (.baload, 1) := by decide +kernel
theorem dX0_freeRowOfNow_33 : decode cX0_freeRowOfNow 33 = .ok (.bastore, 1) := by decide +kernel
theorem dX0_freeRowOfNow_34 : decode cX0_freeRowOfNow 34 = .ok (.iinc 1 (-1), 3) := by decide +kernel
theorem dX0_freeRowOfNow_37 : decode cX0_freeRowOfNow 37 = .ok (.goto (-35), 3) := by decide +kernel
theorem dX0_freeRowOfNow_40 : decode cX0_freeRowOfNow 40 = .ok (.aload_n 0, 1) := by decide +kernel
theorem dX0_freeRowOfNow_41 : decode cX0_freeRowOfNow 41 = .ok (.getfield 15, 3) := by decide +kernel
theorem dX0_freeRowOfNow_44 : decode cX0_freeRowOfNow 44 = .ok (.iconst 0, 1) := by decide +kernel
theorem dX0_freeRowOfNow_45 : decode cX0_freeRowOfNow 45 = .ok (.iconst 0, 1) := by decide +kernel
theorem dX0_freeRowOfNow_46 : decode cX0_freeRowOfNow 46 = .ok (.bastore, 1) := by decide +kernel
theorem dX0_freeRowOfNow_47 : decode cX0_freeRowOfNow 47 = .ok (.return_, 1) := by decide +kernel
theorem dX0_init_0 : decode cX0_init 0 = .ok (.aload_n 0, 1) := by decide +kernel
theorem dX0_init_1 : decode cX0_init 1 = .ok (.invokespecial 3, 3) := by decide +kernel
theorem dX0_init_4 : decode cX0_init 4 = .ok (.aload_n 0, 1) := by decide +kernel
theorem dX0_init_5 : decode cX0_init 5 = .ok (.iconst 5, 1) := by decide +kernel
theorem dX0_init_6 : decode cX0_init 6 = .ok (.newarray .int, 2) := by decide +kernel
theorem dX0_init_8 : decode cX0_init 8 = .ok (.putfield 9, 3) := by decide +kernel
theorem dX0_init_11 : decode cX0_init 11 = .ok (.aload_n 0, 1) := by decide +kernel
theorem dX0_init_12 : decode cX0_init 12 = .ok (.iconst 5, 1) := by decide +kernel
theorem dX0_init_13 : decode cX0_init 13 = .ok (.newarray .boolean, 2) := by decide +kernel
theorem dX0_init_15 : decode cX0_init 15 = .ok (.putfield 15, 3) := by decide +kernel
theorem dX0_init_18 : decode cX0_init 18 = .ok (.return_, 1) := by decide +kernel
theorem dX0_lies_0 : decode cX0_lies 0 = .ok (.aload_n 0, 1) := by decide +kernel
theorem dX0_lies_1 : decode cX0_lies 1 = .ok (.getfield 29, 3) := by decide +kernel
theorem dX0_lies_4 : decode cX0_lies 4 = .ok (.ifCond .gt 10, 3) := by decide +kernel
theorem dX0_lies_7 : decode cX0_lies 7 = .ok (.aload_n 0, 1) := by decide +kernel
theorem dX0_lies_8 : decode cX0_lies 8 = .ok (.getfield 32, 3) := by decide +kernel
theorem dX0_lies_11 : decode cX0_lies 11 = .ok (.ifCond .le 7, 3) := by decide +kernel
theorem dX0_lies_14 : decode cX0_lies 14 = .ok (.iconst 1, 1) := by decide +kernel
theorem dX0_lies_15 : decode cX0_lies 15 = .ok (.goto 4, 3) := by decide +kernel
theorem dX0_lies_18 : decode cX0_lies 18 = .ok (.iconst 0, 1) := by decide +kernel
theorem dX0_lies_19 : decode cX0_lies 19 = .ok (.ireturn, 1) := by decide +kernel
theorem dX0_partWith_0 : decode cX0_partWith 0 = .ok (.aload_n 0, 1) := by decide +kernel
theorem dX0_partWith_1 : decode cX0_partWith 1 = .ok (.getfield 9, 3) := by decide +kernel
theorem dX0_partWith_4 : decode cX0_partWith 4 = .ok (.iconst 0, 1) := by decide +kernel
theorem dX0_partWith_5 : decode cX0_partWith 5 = .ok (.iaload, 1) := by decide +kernel
theorem dX0_partWith_6 : decode cX0_partWith 6 = .ok (.iload_n 1, 1) := by decide +kernel
theorem dX0_partWith_7 : decode cX0_partWith 7 = .ok (.iadd, 1) := by decide +kernel
theorem dX0_partWith_8 : decode cX0_partWith 8 = .ok (.sipush 256, 3) := by decide +kernel
theorem dX0_partWith_11 : decode cX0_partWith 11 = .ok (.irem, 1) := by decide +kernel
theorem dX0_partWith_12 : decode cX0_partWith 12 = .ok (.ireturn, 1) := by decide +kernel
theorem dX0_tagDueFor_0 : decode cX0_tagDueFor 0 = .ok (.aload_n 0, 1) := by decide +kernel
theorem dX0_tagDueFor_1 : decode cX0_tagDueFor 1 = .ok (.getfield 23, 3) := by decide +kernel
theorem dX0_tagDueFor_4 : decode cX0_tagDueFor 4 = .ok (.iload_n 1, 1) := by decide +kernel
theorem dX0_tagDueFor_5 : decode cX0_tagDueFor 5 = .ok (.imul, 1) := by decide +kernel
theorem dX0_tagDueFor_6 : decode cX0_tagDueFor 6 = .ok (.aload_n 0, 1) := by decide +kernel
theorem dX0_tagDueFor_7 : decode cX0_tagDueFor 7 = .ok (.getfield 26, 3) := by decide +kernel
theorem dX0_tagDueFor_10 : decode cX0_tagDueFor 10 = .ok (.iadd, 1) := by decide +kernel
theorem dX0_tagDueFor_11 : decode cX0_tagDueFor 11 = .ok (.sipush 257, 3) := by decide +kernel
theorem dX0_tagDueFor_14 : decode cX0_tagDueFor 14 = .ok (.irem, 1) := by decide +kernel
theorem dX0_tagDueFor_15 : decode cX0_tagDueFor 15 = .ok (.ireturn, 1) := by decide +kernel
theorem dX0_toldPart_0 : decode cX0_toldPart 0 = .ok (.aload_n 0, 1) := by decide +kernel
theorem dX0_toldPart_1 : decode cX0_toldPart 1 = .ok (.aload_n 0, 1) := by decide +kernel
theorem dX0_toldPart_2 : decode cX0_toldPart 2 = .ok (.getfield 29, 3) := by decide +kernel
theorem dX0_toldPart_5 : decode cX0_toldPart 5 = .ok (.invokevirtual 35, 3) := by decide +kernel
theorem dX0_toldPart_8 : decode cX0_toldPart 8 = .ok (.ireturn, 1) := by decide +kernel
theorem dX0_toldTag_0 : decode cX0_toldTag 0 = .ok (.aload_n 0, 1) := by decide +kernel
theorem dX0_toldTag_1 : decode cX0_toldTag 1 = .ok (.getfield 19, 3) := by decide +kernel
theorem dX0_toldTag_4 : decode cX0_toldTag 4 = .ok (.aload_n 0, 1) := by decide +kernel
theorem dX0_toldTag_5 : decode cX0_toldTag 5 = .ok (.getfield 32, 3) := by decide +kernel
theorem dX0_toldTag_8 : decode cX0_toldTag 8 = .ok (.iadd, 1) := by decide +kernel
theorem dX0_toldTag_9 : decode cX0_toldTag 9 = .ok (.sipush 257, 3) := by decide +kernel
theorem dX0_toldTag_12 : decode cX0_toldTag 12 = .ok (.irem, 1) := by decide +kernel
theorem dX0_toldTag_13 : decode cX0_toldTag 13 = .ok (.ireturn, 1) := by decide +kernel
theorem dX1_draft_0 : decode cX1_draft 0 = .ok (.aload_n 0, 1) := by decide +kernel
theorem dX1_draft_1 : decode cX1_draft 1 = .ok (.getfield 11, 3) := by decide +kernel
theorem dX1_draft_4 : decode cX1_draft 4 = .ok (.aload_n 0, 1) := by decide +kernel
theorem dX1_draft_5 : decode cX1_draft 5 = .ok (.getfield 18, 3) := by decide +kernel
theorem dX1_draft_8 : decode cX1_draft 8 = .ok (.aload_n 0, 1) := by decide +kernel
theorem dX1_draft_9 : decode cX1_draft 9 = .ok (.getfield 22, 3) := by decide +kernel
theorem dX1_draft_12 : decode cX1_draft 12 = .ok (.iadd, 1) := by decide +kernel
theorem dX1_draft_13 : decode cX1_draft 13 = .ok (.bipush 7, 2) := by decide +kernel
theorem dX1_draft_15 : decode cX1_draft 15 = .ok (.irem, 1) := by decide +kernel
theorem dX1_draft_16 : decode cX1_draft 16 = .ok (.aaload, 1) := by decide +kernel
theorem dX1_draft_17 : decode cX1_draft 17 = .ok (.aload_n 1, 1) := by decide +kernel
theorem dX1_draft_18 : decode cX1_draft 18 = .ok (.invokevirtual 25, 3) := by decide +kernel
theorem dX1_draft_21 : decode cX1_draft 21 = .ok (.return_, 1) := by decide +kernel
theorem dX1_init_0 : decode cX1_init 0 = .ok (.aload_n 0, 1) := by decide +kernel
theorem dX1_init_1 : decode cX1_init 1 = .ok (.invokespecial 3, 3) := by decide +kernel
theorem dX1_init_4 : decode cX1_init 4 = .ok (.aload_n 0, 1) := by decide +kernel
theorem dX1_init_5 : decode cX1_init 5 = .ok (.bipush 7, 2) := by decide +kernel
theorem dX1_init_7 : decode cX1_init 7 = .ok (.anewarray 9, 3) := by decide +kernel
theorem dX1_init_10 : decode cX1_init 10 = .ok (.putfield 11, 3) := by decide +kernel
theorem dX1_init_13 : decode cX1_init 13 = .ok (.iconst 0, 1) := by decide +kernel
theorem dX1_init_14 : decode cX1_init 14 = .ok (.istore_n 1, 1) := by decide +kernel
theorem dX1_init_15 : decode cX1_init 15 = .ok (.iload_n 1, 1) := by decide +kernel
theorem dX1_init_16 : decode cX1_init 16 = .ok (.bipush 7, 2) := by decide +kernel
theorem dX1_init_18 : decode cX1_init 18 = .ok (.if_icmp .ge 22, 3) := by decide +kernel
theorem dX1_init_21 : decode cX1_init 21 = .ok (.aload_n 0, 1) := by decide +kernel
theorem dX1_init_22 : decode cX1_init 22 = .ok (.getfield 11, 3) := by decide +kernel
theorem dX1_init_25 : decode cX1_init 25 = .ok (.iload_n 1, 1) := by decide +kernel
theorem dX1_init_26 : decode cX1_init 26 = .ok (.new 9, 3) := by decide +kernel
theorem dX1_init_29 : decode cX1_init 29 = .ok (.dup, 1) := by decide +kernel
theorem dX1_init_30 : decode cX1_init 30 = .ok (.invokespecial 17, 3) := by decide +kernel
theorem dX1_init_33 : decode cX1_init 33 = .ok (.aastore, 1) := by decide +kernel
theorem dX1_init_34 : decode cX1_init 34 = .ok (.iinc 1 1, 3) := by decide +kernel
theorem dX1_init_37 : decode cX1_init 37 = .ok (.goto (-22), 3) := by decide +kernel
theorem dX1_init_40 : decode cX1_init 40 = .ok (.return_, 1) := by decide +kernel
theorem dX1_recordDraft_0 : decode cX1_recordDraft 0 = .ok (.aload_n 0, 1) := by decide +kernel
theorem dX1_recordDraft_1 : decode cX1_recordDraft 1 = .ok (.getfield 22, 3) := by decide +kernel
theorem dX1_recordDraft_4 : decode cX1_recordDraft 4 = .ok (.bipush 6, 2) := by decide +kernel
theorem dX1_recordDraft_6 : decode cX1_recordDraft 6 = .ok (.if_icmp .ge 16, 3) := by decide +kernel
theorem dX1_recordDraft_9 : decode cX1_recordDraft 9 = .ok (.aload_n 0, 1) := by decide +kernel
theorem dX1_recordDraft_10 : decode cX1_recordDraft 10 = .ok (.dup, 1) := by decide +kernel
theorem dX1_recordDraft_11 : decode cX1_recordDraft 11 = .ok (.getfield 22, 3) := by decide +kernel
theorem dX1_recordDraft_14 : decode cX1_recordDraft 14 = .ok (.iconst 1, 1) := by decide +kernel
theorem dX1_recordDraft_15 : decode cX1_recordDraft 15 = .ok (.iadd, 1) := by decide +kernel
theorem dX1_recordDraft_16 : decode cX1_recordDraft 16 = .ok (.putfield 22, 3) := by decide +kernel
theorem dX1_recordDraft_19 : decode cX1_recordDraft 19 = .ok (.goto 16, 3) := by decide +kernel
theorem dX1_recordDraft_22 : decode cX1_recordDraft 22 = .ok (.aload_n 0, 1) := by decide +kernel
theorem dX1_recordDraft_23 : decode cX1_recordDraft 23 = .ok (.aload_n 0, 1) := by decide +kernel
theorem dX1_recordDraft_24 : decode cX1_recordDraft 24 = .ok (.getfield 18, 3) := by decide +kernel
theorem dX1_recordDraft_27 : decode cX1_recordDraft 27 = .ok (.iconst 1, 1) := by decide +kernel
theorem dX1_recordDraft_28 : decode cX1_recordDraft 28 = .ok (.iadd, 1) := by decide +kernel
theorem dX1_recordDraft_29 : decode cX1_recordDraft 29 = .ok (.bipush 7, 2) := by decide +kernel
theorem dX1_recordDraft_31 : decode cX1_recordDraft 31 = .ok (.irem, 1) := by decide +kernel
theorem dX1_recordDraft_32 : decode cX1_recordDraft 32 = .ok (.putfield 18, 3) := by decide +kernel
theorem dX1_recordDraft_35 : decode cX1_recordDraft 35 = .ok (.return_, 1) := by decide +kernel
theorem dX1_takesBack_0 : decode cX1_takesBack 0 = .ok (.aload_n 0, 1) := by decide +kernel
theorem dX1_takesBack_1 : decode cX1_takesBack 1 = .ok (.getfield 22, 3) := by decide +kernel
theorem dX1_takesBack_4 : decode cX1_takesBack 4 = .ok (.ifCond .ne 5, 3) := by decide +kernel
theorem dX1_takesBack_7 : decode cX1_takesBack 7 = .ok (.iconst 0, 1) := by decide +kernel
theorem dX1_takesBack_8 : decode cX1_takesBack 8 = .ok (.ireturn, 1) := by decide +kernel
theorem dX1_takesBack_9 : decode cX1_takesBack 9 = .ok (.aload_n 0, 1) := by decide +kernel
theorem dX1_takesBack_10 : decode cX1_takesBack 10 = .ok (.dup, 1) := by decide +kernel
theorem dX1_takesBack_11 : decode cX1_takesBack 11 = .ok (.getfield 22, 3) := by decide +kernel
theorem dX1_takesBack_14 : decode cX1_takesBack 14 = .ok (.iconst 1, 1) := by decide +kernel
theorem dX1_takesBack_15 : decode cX1_takesBack 15 = .ok (.isub, 1) := by decide +kernel
theorem dX1_takesBack_16 : decode cX1_takesBack 16 = .ok (.putfield 22, 3) := by decide +kernel
theorem dX1_takesBack_19 : decode cX1_takesBack 19 = .ok (.aload_n 1, 1) := by decide +kernel
theorem dX1_takesBack_20 : decode cX1_takesBack 20 = .ok (.aload_n 0, 1) := by decide +kernel
theorem dX1_takesBack_21 : decode cX1_takesBack 21 = .ok (.getfield 11, 3) := by decide +kernel
theorem dX1_takesBack_24 : decode cX1_takesBack 24 = .ok (.aload_n 0, 1) := by decide +kernel
theorem dX1_takesBack_25 : decode cX1_takesBack 25 = .ok (.getfield 18, 3) := by decide +kernel
theorem dX1_takesBack_28 : decode cX1_takesBack 28 = .ok (.aload_n 0, 1) := by decide +kernel
theorem dX1_takesBack_29 : decode cX1_takesBack 29 = .ok (.getfield 22, 3) := by decide +kernel
theorem dX1_takesBack_32 : decode cX1_takesBack 32 = .ok (.iadd, 1) := by decide +kernel
theorem dX1_takesBack_33 : decode cX1_takesBack 33 = .ok (.bipush 7, 2) := by decide +kernel
theorem dX1_takesBack_35 : decode cX1_takesBack 35 = .ok (.irem, 1) := by decide +kernel
theorem dX1_takesBack_36 : decode cX1_takesBack 36 = .ok (.aaload, 1) := by decide +kernel
theorem dX1_takesBack_37 : decode cX1_takesBack 37 = .ok (.invokevirtual 25, 3) := by decide +kernel
theorem dX1_takesBack_40 : decode cX1_takesBack 40 = .ok (.iconst 1, 1) := by decide +kernel
theorem dX1_takesBack_41 : decode cX1_takesBack 41 = .ok (.ireturn, 1) := by decide +kernel
theorem dX2_append_0 : decode cX2_append 0 = .ok (.lload_n 1, 1) := by decide +kernel
theorem dX2_append_1 : decode cX2_append 1 = .ok (.invokestatic 15, 3) := by decide +kernel
theorem dX2_append_4 : decode cX2_append 4 = .ok (.istore_n 3, 1) := by decide +kernel
theorem dX2_append_5 : decode cX2_append 5 = .ok (.iload_n 3, 1) := by decide +kernel
theorem dX2_append_6 : decode cX2_append 6 = .ok (.ifCond .ne 6, 3) := by decide +kernel
theorem dX2_append_9 : decode cX2_append 9 = .ok (.bipush (-2), 2) := by decide +kernel
theorem dX2_append_11 : decode cX2_append 11 = .ok (.ireturn, 1) := by decide +kernel
theorem dX2_append_12 : decode cX2_append 12 = .ok (.aload_n 0, 1) := by decide +kernel
theorem dX2_append_13 : decode cX2_append 13 = .ok (.getfield 19, 3) := by decide +kernel
theorem dX2_append_16 : decode cX2_append 16 = .ok (.iload_n 3, 1) := by decide +kernel
theorem dX2_append_17 : decode cX2_append 17 = .ok (.iadd, 1) := by decide +kernel
theorem dX2_append_18 : decode cX2_append 18 = .ok (.bipush 80, 2) := by decide +kernel
theorem dX2_append_20 : decode cX2_append 20 = .ok (.if_icmp .le 6, 3) := by decide +kernel
theorem dX2_append_23 : decode cX2_append 23 = .ok (.bipush (-4), 2) := by decide +kernel
theorem dX2_append_25 : decode cX2_append 25 = .ok (.ireturn, 1) := by decide +kernel
theorem dX2_append_26 : decode cX2_append 26 = .ok (.iconst 0, 1) := by decide +kernel
theorem dX2_append_27 : decode cX2_append 27 = .ok (.istore 4, 2) := by decide +kernel
theorem dX2_append_29 : decode cX2_append 29 = .ok (.iload 4, 2) := by decide +kernel
theorem dX2_append_31 : decode cX2_append 31 = .ok (.iload_n 3, 1) := by decide +kernel
theorem dX2_append_32 : decode cX2_append 32 = .ok (.if_icmp .ge 32, 3) := by decide +kernel
theorem dX2_append_35 : decode cX2_append 35 = .ok (.aload_n 0, 1) := by decide +kernel
theorem dX2_append_36 : decode cX2_append 36 = .ok (.getfield 9, 3) := by decide +kernel
theorem dX2_append_39 : decode cX2_append 39 = .ok (.aload_n 0, 1) := by decide +kernel
theorem dX2_append_40 : decode cX2_append 40 = .ok (.getfield 19, 3) := by decide +kernel
theorem dX2_append_43 : decode cX2_append 43 = .ok (.iload_n 3, 1) := by decide +kernel
theorem dX2_append_44 : decode cX2_append 44 = .ok (.iadd, 1) := by decide +kernel
theorem dX2_append_45 : decode cX2_append 45 = .ok (.iconst 1, 1) := by decide +kernel
theorem dX2_append_46 : decode cX2_append 46 = .ok (.isub, 1) := by decide +kernel
theorem dX2_append_47 : decode cX2_append 47 = .ok (.iload 4, 2) := by decide +kernel
theorem dX2_append_49 : decode cX2_append 49 = .ok (.isub, 1) := by decide +kernel
theorem dX2_append_50 : decode cX2_append 50 = .ok (.lload_n 1, 1) := by decide +kernel
theorem dX2_append_51 : decode cX2_append 51 = .ok (.iload 4, 2) := by decide +kernel
theorem dX2_append_53 : decode cX2_append 53 = .ok (.invokestatic 23, 3) := by decide +kernel
theorem dX2_append_56 : decode cX2_append 56 = .ok (.i2c, 1) := by decide +kernel
theorem dX2_append_57 : decode cX2_append 57 = .ok (.castore, 1) := by decide +kernel
theorem dX2_append_58 : decode cX2_append 58 = .ok (.iinc 4 1, 3) := by decide +kernel
theorem dX2_append_61 : decode cX2_append 61 = .ok (.goto (-32), 3) := by decide +kernel
theorem dX2_append_64 : decode cX2_append 64 = .ok (.aload_n 0, 1) := by decide +kernel
theorem dX2_append_65 : decode cX2_append 65 = .ok (.dup, 1) := by decide +kernel
theorem dX2_append_66 : decode cX2_append 66 = .ok (.getfield 19, 3) := by decide +kernel
theorem dX2_append_69 : decode cX2_append 69 = .ok (.iload_n 3, 1) := by decide +kernel
theorem dX2_append_70 : decode cX2_append 70 = .ok (.iadd, 1) := by decide +kernel
theorem dX2_append_71 : decode cX2_append 71 = .ok (.putfield 19, 3) := by decide +kernel
theorem dX2_append_74 : decode cX2_append 74 = .ok (.aload_n 0, 1) := by decide +kernel
theorem dX2_append_75 : decode cX2_append 75 = .ok (.getfield 19, 3) := by decide +kernel
theorem dX2_append_78 : decode cX2_append 78 = .ok (.ireturn, 1) := by decide +kernel
theorem dX2_clear_0 : decode cX2_clear 0 = .ok (.aload_n 0, 1) := by decide +kernel
theorem dX2_clear_1 : decode cX2_clear 1 = .ok (.getfield 19, 3) := by decide +kernel
theorem dX2_clear_4 : decode cX2_clear 4 = .ok (.istore_n 1, 1) := by decide +kernel
theorem dX2_clear_5 : decode cX2_clear 5 = .ok (.aload_n 0, 1) := by decide +kernel
theorem dX2_clear_6 : decode cX2_clear 6 = .ok (.iconst 0, 1) := by decide +kernel
theorem dX2_clear_7 : decode cX2_clear 7 = .ok (.putfield 19, 3) := by decide +kernel
theorem dX2_clear_10 : decode cX2_clear 10 = .ok (.iload_n 1, 1) := by decide +kernel
theorem dX2_clear_11 : decode cX2_clear 11 = .ok (.ireturn, 1) := by decide +kernel
theorem dX2_codeIn_0 : decode cX2_codeIn 0 = .ok (.lload_n 0, 1) := by decide +kernel
theorem dX2_codeIn_1 : decode cX2_codeIn 1 = .ok (.bipush 8, 2) := by decide +kernel
theorem dX2_codeIn_3 : decode cX2_codeIn 3 = .ok (.iload_n 2, 1) := by decide +kernel
theorem dX2_codeIn_4 : decode cX2_codeIn 4 = .ok (.imul, 1) := by decide +kernel
theorem dX2_codeIn_5 : decode cX2_codeIn 5 = .ok (.lushr, 1) := by decide +kernel
theorem dX2_codeIn_6 : decode cX2_codeIn 6 = .ok (.l2i, 1) := by decide +kernel
theorem dX2_codeIn_7 : decode cX2_codeIn 7 = .ok (.sipush 255, 3) := by decide +kernel
theorem dX2_codeIn_10 : decode cX2_codeIn 10 = .ok (.iand, 1) := by decide +kernel
theorem dX2_codeIn_11 : decode cX2_codeIn 11 = .ok (.ireturn, 1) := by decide +kernel
theorem dX2_init_0 : decode cX2_init 0 = .ok (.aload_n 0, 1) := by decide +kernel
theorem dX2_init_1 : decode cX2_init 1 = .ok (.invokespecial 3, 3) := by decide +kernel
theorem dX2_init_4 : decode cX2_init 4 = .ok (.aload_n 0, 1) := by decide +kernel
theorem dX2_init_5 : decode cX2_init 5 = .ok (.bipush 80, 2) := by decide +kernel
theorem dX2_init_7 : decode cX2_init 7 = .ok (.newarray .char, 2) := by decide +kernel
theorem dX2_init_9 : decode cX2_init 9 = .ok (.putfield 9, 3) := by decide +kernel
theorem dX2_init_12 : decode cX2_init 12 = .ok (.return_, 1) := by decide +kernel
theorem dX2_signAt_0 : decode cX2_signAt 0 = .ok (.iload_n 1, 1) := by decide +kernel
theorem dX2_signAt_1 : decode cX2_signAt 1 = .ok (.ifCond .lt 20, 3) := by decide +kernel
theorem dX2_signAt_4 : decode cX2_signAt 4 = .ok (.iload_n 1, 1) := by decide +kernel
theorem dX2_signAt_5 : decode cX2_signAt 5 = .ok (.aload_n 0, 1) := by decide +kernel
theorem dX2_signAt_6 : decode cX2_signAt 6 = .ok (.getfield 19, 3) := by decide +kernel
theorem dX2_signAt_9 : decode cX2_signAt 9 = .ok (.if_icmp .ge 12, 3) := by decide +kernel
theorem dX2_signAt_12 : decode cX2_signAt 12 = .ok (.aload_n 0, 1) := by decide +kernel
theorem dX2_signAt_13 : decode cX2_signAt 13 = .ok (.getfield 9, 3) := by decide +kernel
theorem dX2_signAt_16 : decode cX2_signAt 16 = .ok (.iload_n 1, 1) := by decide +kernel
theorem dX2_signAt_17 : decode cX2_signAt 17 = .ok (.caload, 1) := by decide +kernel
theorem dX2_signAt_18 : decode cX2_signAt 18 = .ok (.goto 4, 3) := by decide +kernel
theorem dX2_signAt_21 : decode cX2_signAt 21 = .ok (.iconst 0, 1) := by decide +kernel
theorem dX2_signAt_22 : decode cX2_signAt 22 = .ok (.ireturn, 1) := by decide +kernel
theorem dX2_signsIn_0 : decode cX2_signsIn 0 = .ok (.iconst 0, 1) := by decide +kernel
theorem dX2_signsIn_1 : decode cX2_signsIn 1 = .ok (.istore_n 2, 1) := by decide +kernel
theorem dX2_signsIn_2 : decode cX2_signsIn 2 = .ok (.iload_n 2, 1) := by decide +kernel
theorem dX2_signsIn_3 : decode cX2_signsIn 3 = .ok (.bipush 8, 2) := by decide +kernel
theorem dX2_signsIn_5 : decode cX2_signsIn 5 = .ok (.if_icmp .ge 50, 3) := by decide +kernel
theorem dX2_signsIn_8 : decode cX2_signsIn 8 = .ok (.lload_n 0, 1) := by decide +kernel
theorem dX2_signsIn_9 : decode cX2_signsIn 9 = .ok (.iload_n 2, 1) := by decide +kernel
theorem dX2_signsIn_10 : decode cX2_signsIn 10 = .ok (.invokestatic 23, 3) := by decide +kernel
theorem dX2_signsIn_13 : decode cX2_signsIn 13 = .ok (.istore_n 3, 1) := by decide +kernel
theorem dX2_signsIn_14 : decode cX2_signsIn 14 = .ok (.iload_n 3, 1) := by decide +kernel
theorem dX2_signsIn_15 : decode cX2_signsIn 15 = .ok (.ifCond .ne 20, 3) := by decide +kernel
theorem dX2_signsIn_18 : decode cX2_signsIn 18 = .ok (.lload_n 0, 1) := by decide +kernel
theorem dX2_signsIn_19 : decode cX2_signsIn 19 = .ok (.bipush 8, 2) := by decide +kernel
theorem dX2_signsIn_21 : decode cX2_signsIn 21 = .ok (.iload_n 2, 1) := by decide +kernel
theorem dX2_signsIn_22 : decode cX2_signsIn 22 = .ok (.imul, 1) := by decide +kernel
theorem dX2_signsIn_23 : decode cX2_signsIn 23 = .ok (.lushr, 1) := by decide +kernel
theorem dX2_signsIn_24 : decode cX2_signsIn 24 = .ok (.lconst 0, 1) := by decide +kernel
theorem dX2_signsIn_25 : decode cX2_signsIn 25 = .ok (.lcmp, 1) := by decide +kernel
theorem dX2_signsIn_26 : decode cX2_signsIn 26 = .ok (.ifCond .ne 7, 3) := by decide +kernel
theorem dX2_signsIn_29 : decode cX2_signsIn 29 = .ok (.iload_n 2, 1) := by decide +kernel
theorem dX2_signsIn_30 : decode cX2_signsIn 30 = .ok (.goto 4, 3) := by decide +kernel
theorem dX2_signsIn_33 : decode cX2_signsIn 33 = .ok (.iconst 0, 1) := by decide +kernel
theorem dX2_signsIn_34 : decode cX2_signsIn 34 = .ok (.ireturn, 1) := by decide +kernel
theorem dX2_signsIn_35 : decode cX2_signsIn 35 = .ok (.iload_n 3, 1) := by decide +kernel
theorem dX2_signsIn_36 : decode cX2_signsIn 36 = .ok (.bipush 33, 2) := by decide +kernel
theorem dX2_signsIn_38 : decode cX2_signsIn 38 = .ok (.if_icmp .lt 9, 3) := by decide +kernel
theorem dX2_signsIn_41 : decode cX2_signsIn 41 = .ok (.iload_n 3, 1) := by decide +kernel
theorem dX2_signsIn_42 : decode cX2_signsIn 42 = .ok (.bipush 126, 2) := by decide +kernel
theorem dX2_signsIn_44 : decode cX2_signsIn 44 = .ok (.if_icmp .le 5, 3) := by decide +kernel
theorem dX2_signsIn_47 : decode cX2_signsIn 47 = .ok (.iconst 0, 1) := by decide +kernel
theorem dX2_signsIn_48 : decode cX2_signsIn 48 = .ok (.ireturn, 1) := by decide +kernel
theorem dX2_signsIn_49 : decode cX2_signsIn 49 = .ok (.iinc 2 1, 3) := by decide +kernel
theorem dX2_signsIn_52 : decode cX2_signsIn 52 = .ok (.goto (-50), 3) := by decide +kernel
theorem dX2_signsIn_55 : decode cX2_signsIn 55 = .ok (.bipush 8, 2) := by decide +kernel
theorem dX2_signsIn_57 : decode cX2_signsIn 57 = .ok (.ireturn, 1) := by decide +kernel
theorem dX3_digitRead_0 : decode cX3_digitRead 0 = .ok (.aload_n 0, 1) := by decide +kernel
theorem dX3_digitRead_1 : decode cX3_digitRead 1 = .ok (.getfield 9, 3) := by decide +kernel
theorem dX3_digitRead_4 : decode cX3_digitRead 4 = .ok (.aload_n 0, 1) := by decide +kernel
theorem dX3_digitRead_5 : decode cX3_digitRead 5 = .ok (.getfield 15, 3) := by decide +kernel
theorem dX3_digitRead_8 : decode cX3_digitRead 8 = .ok (.invokevirtual 35, 3) := by decide +kernel
theorem dX3_digitRead_11 : decode cX3_digitRead 11 = .ok (.istore_n 1, 1) := by decide +kernel
theorem dX3_digitRead_12 : decode cX3_digitRead 12 = .ok (.iload_n 1, 1) := by decide +kernel
theorem dX3_digitRead_13 : decode cX3_digitRead 13 = .ok (.bipush 48, 2) := by decide +kernel
theorem dX3_digitRead_15 : decode cX3_digitRead 15 = .ok (.if_icmp .lt 9, 3) := by decide +kernel
theorem dX3_digitRead_18 : decode cX3_digitRead 18 = .ok (.iload_n 1, 1) := by decide +kernel
theorem dX3_digitRead_19 : decode cX3_digitRead 19 = .ok (.bipush 57, 2) := by decide +kernel
theorem dX3_digitRead_21 : decode cX3_digitRead 21 = .ok (.if_icmp .le 5, 3) := by decide +kernel
theorem dX3_digitRead_24 : decode cX3_digitRead 24 = .ok (.iconst (-1), 1) := by decide +kernel
theorem dX3_digitRead_25 : decode cX3_digitRead 25 = .ok (.ireturn, 1) := by decide +kernel
theorem dX3_digitRead_26 : decode cX3_digitRead 26 = .ok (.aload_n 0, 1) := by decide +kernel
theorem dX3_digitRead_27 : decode cX3_digitRead 27 = .ok (.dup, 1) := by decide +kernel
theorem dX3_digitRead_28 : decode cX3_digitRead 28 = .ok (.getfield 15, 3) := by decide +kernel
theorem dX3_digitRead_31 : decode cX3_digitRead 31 = .ok (.iconst 1, 1) := by decide +kernel
theorem dX3_digitRead_32 : decode cX3_digitRead 32 = .ok (.iadd, 1) := by decide +kernel
theorem dX3_digitRead_33 : decode cX3_digitRead 33 = .ok (.putfield 15, 3) := by decide +kernel
theorem dX3_digitRead_36 : decode cX3_digitRead 36 = .ok (.iload_n 1, 1) := by decide +kernel
theorem dX3_digitRead_37 : decode cX3_digitRead 37 = .ok (.bipush 48, 2) := by decide +kernel
theorem dX3_digitRead_39 : decode cX3_digitRead 39 = .ok (.isub, 1) := by decide +kernel
theorem dX3_digitRead_40 : decode cX3_digitRead 40 = .ok (.ireturn, 1) := by decide +kernel
theorem dX3_firstFault_0 : decode cX3_firstFault 0 = .ok (.aload_n 0, 1) := by decide +kernel
theorem dX3_firstFault_1 : decode cX3_firstFault 1 = .ok (.invokevirtual 19, 3) := by decide +kernel
theorem dX3_firstFault_4 : decode cX3_firstFault 4 = .ok (.iconst 0, 1) := by decide +kernel
theorem dX3_firstFault_5 : decode cX3_firstFault 5 = .ok (.istore_n 1, 1) := by decide +kernel
theorem dX3_firstFault_6 : decode cX3_firstFault 6 = .ok (.iload_n 1, 1) := by decide +kernel
theorem dX3_firstFault_7 : decode cX3_firstFault 7 = .ok (.bipush 80, 2) := by decide +kernel
theorem dX3_firstFault_9 : decode cX3_firstFault 9 = .ok (.if_icmp .ge 38, 3) := by decide +kernel
theorem dX3_firstFault_12 : decode cX3_firstFault 12 = .ok (.aload_n 0, 1) := by decide +kernel
theorem dX3_firstFault_13 : decode cX3_firstFault 13 = .ok (.invokevirtual 22, 3) := by decide +kernel
theorem dX3_firstFault_16 : decode cX3_firstFault 16 = .ok (.ifCond .ne 8, 3) := by decide +kernel
theorem dX3_firstFault_19 : decode cX3_firstFault 19 = .ok (.aload_n 0, 1) := by decide +kernel
theorem dX3_firstFault_20 : decode cX3_firstFault 20 = .ok (.getfield 15, 3) := by decide +kernel
theorem dX3_firstFault_23 : decode cX3_firstFault 23 = .ok (.ireturn, 1) := by decide +kernel
theorem dX3_firstFault_24 : decode cX3_firstFault 24 = .ok (.aload_n 0, 1) := by decide +kernel
theorem dX3_firstFault_25 : decode cX3_firstFault 25 = .ok (.getfield 15, 3) := by decide +kernel
theorem dX3_firstFault_28 : decode cX3_firstFault 28 = .ok (.aload_n 0, 1) := by decide +kernel
theorem dX3_firstFault_29 : decode cX3_firstFault 29 = .ok (.getfield 9, 3) := by decide +kernel
theorem dX3_firstFault_32 : decode cX3_firstFault 32 = .ok (.getfield 26, 3) := by decide +kernel
theorem dX3_firstFault_35 : decode cX3_firstFault 35 = .ok (.if_icmp .ne 6, 3) := by decide +kernel
theorem dX3_firstFault_38 : decode cX3_firstFault 38 = .ok (.bipush (-6), 2) := by decide +kernel
theorem dX3_firstFault_40 : decode cX3_firstFault 40 = .ok (.ireturn, 1) := by decide +kernel
theorem dX3_firstFault_41 : decode cX3_firstFault 41 = .ok (.iinc 1 1, 3) := by decide +kernel
theorem dX3_firstFault_44 : decode cX3_firstFault 44 = .ok (.goto (-38), 3) := by decide +kernel
theorem dX3_firstFault_47 : decode cX3_firstFault 47 = .ok (.aload_n 0, 1) := by decide +kernel
theorem dX3_firstFault_48 : decode cX3_firstFault 48 = .ok (.getfield 15, 3) := by decide +kernel
theorem dX3_firstFault_51 : decode cX3_firstFault 51 = .ok (.ireturn, 1) := by decide +kernel
theorem dX3_goToStart_0 : decode cX3_goToStart 0 = .ok (.aload_n 0, 1) := by decide +kernel
theorem dX3_goToStart_1 : decode cX3_goToStart 1 = .ok (.iconst 0, 1) := by decide +kernel
theorem dX3_goToStart_2 : decode cX3_goToStart 2 = .ok (.putfield 15, 3) := by decide +kernel
theorem dX3_goToStart_5 : decode cX3_goToStart 5 = .ok (.return_, 1) := by decide +kernel
theorem dX3_init_0 : decode cX3_init 0 = .ok (.aload_n 0, 1) := by decide +kernel
theorem dX3_init_1 : decode cX3_init 1 = .ok (.invokespecial 3, 3) := by decide +kernel
theorem dX3_init_4 : decode cX3_init 4 = .ok (.aload_n 0, 1) := by decide +kernel
theorem dX3_init_5 : decode cX3_init 5 = .ok (.aload_n 1, 1) := by decide +kernel
theorem dX3_init_6 : decode cX3_init 6 = .ok (.putfield 9, 3) := by decide +kernel
theorem dX3_init_9 : decode cX3_init 9 = .ok (.return_, 1) := by decide +kernel
theorem dX3_numberRead_0 : decode cX3_numberRead 0 = .ok (.aload_n 0, 1) := by decide +kernel
theorem dX3_numberRead_1 : decode cX3_numberRead 1 = .ok (.invokevirtual 61, 3) := by decide +kernel
theorem dX3_numberRead_4 : decode cX3_numberRead 4 = .ok (.istore_n 1, 1) := by decide +kernel
theorem dX3_numberRead_5 : decode cX3_numberRead 5 = .ok (.iconst 1, 1) := by decide +kernel
theorem dX3_numberRead_6 : decode cX3_numberRead 6 = .ok (.istore_n 2, 1) := by decide +kernel
theorem dX3_numberRead_7 : decode cX3_numberRead 7 = .ok (.iload_n 2, 1) := by decide +kernel
theorem dX3_numberRead_8 : decode cX3_numberRead 8 = .ok (.iconst 3, 1) := by decide +kernel
theorem dX3_numberRead_9 : decode cX3_numberRead 9 = .ok (.if_icmp .ge 32, 3) := by decide +kernel
theorem dX3_numberRead_12 : decode cX3_numberRead 12 = .ok (.iload_n 1, 1) := by decide +kernel
theorem dX3_numberRead_13 : decode cX3_numberRead 13 = .ok (.ifCond .le 28, 3) := by decide +kernel
theorem dX3_numberRead_16 : decode cX3_numberRead 16 = .ok (.aload_n 0, 1) := by decide +kernel
theorem dX3_numberRead_17 : decode cX3_numberRead 17 = .ok (.invokevirtual 61, 3) := by decide +kernel
theorem dX3_numberRead_20 : decode cX3_numberRead 20 = .ok (.istore_n 3, 1) := by decide +kernel
theorem dX3_numberRead_21 : decode cX3_numberRead 21 = .ok (.iload_n 3, 1) := by decide +kernel
theorem dX3_numberRead_22 : decode cX3_numberRead 22 = .ok (.iconst (-1), 1) := by decide +kernel
theorem dX3_numberRead_23 : decode cX3_numberRead 23 = .ok (.if_icmp .ne 5, 3) := by decide +kernel
theorem dX3_numberRead_26 : decode cX3_numberRead 26 = .ok (.iload_n 1, 1) := by decide +kernel
theorem dX3_numberRead_27 : decode cX3_numberRead 27 = .ok (.ireturn, 1) := by decide +kernel
theorem dX3_numberRead_28 : decode cX3_numberRead 28 = .ok (.bipush 10, 2) := by decide +kernel
theorem dX3_numberRead_30 : decode cX3_numberRead 30 = .ok (.iload_n 1, 1) := by decide +kernel
theorem dX3_numberRead_31 : decode cX3_numberRead 31 = .ok (.imul, 1) := by decide +kernel
theorem dX3_numberRead_32 : decode cX3_numberRead 32 = .ok (.iload_n 3, 1) := by decide +kernel
theorem dX3_numberRead_33 : decode cX3_numberRead 33 = .ok (.iadd, 1) := by decide +kernel
theorem dX3_numberRead_34 : decode cX3_numberRead 34 = .ok (.istore_n 1, 1) := by decide +kernel
theorem dX3_numberRead_35 : decode cX3_numberRead 35 = .ok (.iinc 2 1, 3) := by decide +kernel
theorem dX3_numberRead_38 : decode cX3_numberRead 38 = .ok (.goto (-31), 3) := by decide +kernel
theorem dX3_numberRead_41 : decode cX3_numberRead 41 = .ok (.iload_n 1, 1) := by decide +kernel
theorem dX3_numberRead_42 : decode cX3_numberRead 42 = .ok (.ireturn, 1) := by decide +kernel
theorem dX3_reads_0 : decode cX3_reads 0 = .ok (.aload_n 0, 1) := by decide +kernel
theorem dX3_reads_1 : decode cX3_reads 1 = .ok (.getfield 9, 3) := by decide +kernel
theorem dX3_reads_4 : decode cX3_reads 4 = .ok (.aload_n 0, 1) := by decide +kernel
theorem dX3_reads_5 : decode cX3_reads 5 = .ok (.getfield 15, 3) := by decide +kernel
theorem dX3_reads_8 : decode cX3_reads 8 = .ok (.invokevirtual 35, 3) := by decide +kernel
theorem dX3_reads_11 : decode cX3_reads 11 = .ok (.iload_n 1, 1) := by decide +kernel
theorem dX3_reads_12 : decode cX3_reads 12 = .ok (.if_icmp .eq 5, 3) := by decide +kernel
theorem dX3_reads_15 : decode cX3_reads 15 = .ok (.iconst 0, 1) := by decide +kernel
theorem dX3_reads_16 : decode cX3_reads 16 = .ok (.ireturn, 1) := by decide +kernel
theorem dX3_reads_17 : decode cX3_reads 17 = .ok (.aload_n 0, 1) := by decide +kernel
theorem dX3_reads_18 : decode cX3_reads 18 = .ok (.dup, 1) := by decide +kernel
theorem dX3_reads_19 : decode cX3_reads 19 = .ok (.getfield 15, 3) := by decide +kernel
theorem dX3_reads_22 : decode cX3_reads 22 = .ok (.iconst 1, 1) := by decide +kernel
theorem dX3_reads_23 : decode cX3_reads 23 = .ok (.iadd, 1) := by decide +kernel
theorem dX3_reads_24 : decode cX3_reads 24 = .ok (.putfield 15, 3) := by decide +kernel
theorem dX3_reads_27 : decode cX3_reads 27 = .ok (.iconst 1, 1) := by decide +kernel
theorem dX3_reads_28 : decode cX3_reads 28 = .ok (.ireturn, 1) := by decide +kernel
theorem dX3_readsNextOrder_0 : decode cX3_readsNextOrder 0 = .ok (.aload_n 0, 1) := by decide +kernel
theorem dX3_readsNextOrder_1 : decode cX3_readsNextOrder 1 = .ok (.getfield 15, 3) := by decide +kernel
theorem dX3_readsNextOrder_4 : decode cX3_readsNextOrder 4 = .ok (.ifCond .le 14, 3) := by decide +kernel
theorem dX3_readsNextOrder_7 : decode cX3_readsNextOrder 7 = .ok (.aload_n 0, 1) := by decide +kernel
theorem dX3_readsNextOrder_8 : decode cX3_readsNextOrder 8 = .ok (.bipush 59, 2) := by decide +kernel
theorem dX3_readsNextOrder_10 : decode cX3_readsNextOrder 10 = .ok (.invokevirtual 31, 3) := by decide +kernel
theorem dX3_readsNextOrder_13 : decode cX3_readsNextOrder 13 = .ok (.ifCond .ne 5, 3) := by decide +kernel
theorem dX3_readsNextOrder_16 : decode cX3_readsNextOrder 16 = .ok (.iconst 0, 1) := by decide +kernel
theorem dX3_readsNextOrder_17 : decode cX3_readsNextOrder 17 = .ok (.ireturn, 1) := by decide +kernel
theorem dX3_readsNextOrder_18 : decode cX3_readsNextOrder 18 = .ok (.aload_n 0, 1) := by decide +kernel
theorem dX3_readsNextOrder_19 : decode cX3_readsNextOrder 19 = .ok (.aload_n 0, 1) := by decide +kernel
theorem dX3_readsNextOrder_20 : decode cX3_readsNextOrder 20 = .ok (.getfield 9, 3) := by decide +kernel
theorem dX3_readsNextOrder_23 : decode cX3_readsNextOrder 23 = .ok (.aload_n 0, 1) := by decide +kernel
theorem dX3_readsNextOrder_24 : decode cX3_readsNextOrder 24 = .ok (.getfield 15, 3) := by decide +kernel
theorem dX3_readsNextOrder_27 : decode cX3_readsNextOrder 27 = .ok (.invokevirtual 35, 3) := by decide +kernel
theorem dX3_readsNextOrder_30 : decode cX3_readsNextOrder 30 = .ok (.putfield 39, 3) := by decide +kernel
theorem dX3_readsNextOrder_33 : decode cX3_readsNextOrder 33 = .ok (.aload_n 0, 1) := by decide +kernel
theorem dX3_readsNextOrder_34 : decode cX3_readsNextOrder 34 = .ok (.getfield 39, 3) := by decide +kernel
theorem dX3_readsNextOrder_37 : decode cX3_readsNextOrder 37 = .ok (.tableswitch 234 98 122 #[115, 234, 234, 234, 234, 234, 234, 234, 234, 115, 160, 130, 234, 234, 234, 234, 130, 234, 197, 130, 234, 234, 234, 234, 145], 115) := by decide +kernel
theorem dX3_readsNextOrder_152 : decode cX3_readsNextOrder 152 = .ok (.aload_n 0, 1) := by decide +kernel
theorem dX3_readsNextOrder_153 : decode cX3_readsNextOrder 153 = .ok (.dup, 1) := by decide +kernel
theorem dX3_readsNextOrder_154 : decode cX3_readsNextOrder 154 = .ok (.getfield 15, 3) := by decide +kernel
theorem dX3_readsNextOrder_157 : decode cX3_readsNextOrder 157 = .ok (.iconst 1, 1) := by decide +kernel
theorem dX3_readsNextOrder_158 : decode cX3_readsNextOrder 158 = .ok (.iadd, 1) := by decide +kernel
theorem dX3_readsNextOrder_159 : decode cX3_readsNextOrder 159 = .ok (.putfield 15, 3) := by decide +kernel
theorem dX3_readsNextOrder_162 : decode cX3_readsNextOrder 162 = .ok (.aload_n 0, 1) := by decide +kernel
theorem dX3_readsNextOrder_163 : decode cX3_readsNextOrder 163 = .ok (.invokevirtual 43, 3) := by decide +kernel
theorem dX3_readsNextOrder_166 : decode cX3_readsNextOrder 166 = .ok (.ireturn, 1) := by decide +kernel
theorem dX3_readsNextOrder_167 : decode cX3_readsNextOrder 167 = .ok (.aload_n 0, 1) := by decide +kernel
theorem dX3_readsNextOrder_168 : decode cX3_readsNextOrder 168 = .ok (.dup, 1) := by decide +kernel
theorem dX3_readsNextOrder_169 : decode cX3_readsNextOrder 169 = .ok (.getfield 15, 3) := by decide +kernel
theorem dX3_readsNextOrder_172 : decode cX3_readsNextOrder 172 = .ok (.iconst 1, 1) := by decide +kernel
theorem dX3_readsNextOrder_173 : decode cX3_readsNextOrder 173 = .ok (.iadd, 1) := by decide +kernel
theorem dX3_readsNextOrder_174 : decode cX3_readsNextOrder 174 = .ok (.putfield 15, 3) := by decide +kernel
theorem dX3_readsNextOrder_177 : decode cX3_readsNextOrder 177 = .ok (.aload_n 0, 1) := by decide +kernel
theorem dX3_readsNextOrder_178 : decode cX3_readsNextOrder 178 = .ok (.invokevirtual 46, 3) := by decide +kernel
theorem dX3_readsNextOrder_181 : decode cX3_readsNextOrder 181 = .ok (.ireturn, 1) := by decide +kernel
theorem dX3_readsNextOrder_182 : decode cX3_readsNextOrder 182 = .ok (.aload_n 0, 1) := by decide +kernel
theorem dX3_readsNextOrder_183 : decode cX3_readsNextOrder 183 = .ok (.dup, 1) := by decide +kernel
theorem dX3_readsNextOrder_184 : decode cX3_readsNextOrder 184 = .ok (.getfield 15, 3) := by decide +kernel
theorem dX3_readsNextOrder_187 : decode cX3_readsNextOrder 187 = .ok (.iconst 1, 1) := by decide +kernel
theorem dX3_readsNextOrder_188 : decode cX3_readsNextOrder 188 = .ok (.iadd, 1) := by decide +kernel
theorem dX3_readsNextOrder_189 : decode cX3_readsNextOrder 189 = .ok (.putfield 15, 3) := by decide +kernel
theorem dX3_readsNextOrder_192 : decode cX3_readsNextOrder 192 = .ok (.aload_n 0, 1) := by decide +kernel
theorem dX3_readsNextOrder_193 : decode cX3_readsNextOrder 193 = .ok (.invokevirtual 49, 3) := by decide +kernel
theorem dX3_readsNextOrder_196 : decode cX3_readsNextOrder 196 = .ok (.ireturn, 1) := by decide +kernel
theorem dX3_readsNextOrder_197 : decode cX3_readsNextOrder 197 = .ok (.aload_n 0, 1) := by decide +kernel
theorem dX3_readsNextOrder_198 : decode cX3_readsNextOrder 198 = .ok (.dup, 1) := by decide +kernel
theorem dX3_readsNextOrder_199 : decode cX3_readsNextOrder 199 = .ok (.getfield 15, 3) := by decide +kernel
theorem dX3_readsNextOrder_202 : decode cX3_readsNextOrder 202 = .ok (.iconst 1, 1) := by decide +kernel
theorem dX3_readsNextOrder_203 : decode cX3_readsNextOrder 203 = .ok (.iadd, 1) := by decide +kernel
theorem dX3_readsNextOrder_204 : decode cX3_readsNextOrder 204 = .ok (.putfield 15, 3) := by decide +kernel
theorem dX3_readsNextOrder_207 : decode cX3_readsNextOrder 207 = .ok (.aload_n 0, 1) := by decide +kernel
theorem dX3_readsNextOrder_208 : decode cX3_readsNextOrder 208 = .ok (.invokevirtual 49, 3) := by decide +kernel
theorem dX3_readsNextOrder_211 : decode cX3_readsNextOrder 211 = .ok (.ifCond .eq 21, 3) := by decide +kernel
theorem dX3_readsNextOrder_214 : decode cX3_readsNextOrder 214 = .ok (.aload_n 0, 1) := by decide +kernel
theorem dX3_readsNextOrder_215 : decode cX3_readsNextOrder 215 = .ok (.invokevirtual 46, 3) := by decide +kernel
theorem dX3_readsNextOrder_218 : decode cX3_readsNextOrder 218 = .ok (.ifCond .eq 14, 3) := by decide +kernel
theorem dX3_readsNextOrder_221 : decode cX3_readsNextOrder 221 = .ok (.aload_n 0, 1) := by decide +kernel
theorem dX3_readsNextOrder_222 : decode cX3_readsNextOrder 222 = .ok (.invokevirtual 52, 3) := by decide +kernel
theorem dX3_readsNextOrder_225 : decode cX3_readsNextOrder 225 = .ok (.ifCond .eq 7, 3) := by decide +kernel
theorem dX3_readsNextOrder_228 : decode cX3_readsNextOrder 228 = .ok (.iconst 1, 1) := by decide +kernel
theorem dX3_readsNextOrder_229 : decode cX3_readsNextOrder 229 = .ok (.goto 4, 3) := by decide +kernel
theorem dX3_readsNextOrder_232 : decode cX3_readsNextOrder 232 = .ok (.iconst 0, 1) := by decide +kernel
theorem dX3_readsNextOrder_233 : decode cX3_readsNextOrder 233 = .ok (.ireturn, 1) := by decide +kernel
theorem dX3_readsNextOrder_234 : decode cX3_readsNextOrder 234 = .ok (.aload_n 0, 1) := by decide +kernel
theorem dX3_readsNextOrder_235 : decode cX3_readsNextOrder 235 = .ok (.dup, 1) := by decide +kernel
theorem dX3_readsNextOrder_236 : decode cX3_readsNextOrder 236 = .ok (.getfield 15, 3) := by decide +kernel
theorem dX3_readsNextOrder_239 : decode cX3_readsNextOrder 239 = .ok (.iconst 1, 1) := by decide +kernel
theorem dX3_readsNextOrder_240 : decode cX3_readsNextOrder 240 = .ok (.iadd, 1) := by decide +kernel
theorem dX3_readsNextOrder_241 : decode cX3_readsNextOrder 241 = .ok (.putfield 15, 3) := by decide +kernel
theorem dX3_readsNextOrder_244 : decode cX3_readsNextOrder 244 = .ok (.aload_n 0, 1) := by decide +kernel
theorem dX3_readsNextOrder_245 : decode cX3_readsNextOrder 245 = .ok (.invokevirtual 49, 3) := by decide +kernel
theorem dX3_readsNextOrder_248 : decode cX3_readsNextOrder 248 = .ok (.ifCond .eq 21, 3) := by decide +kernel
theorem dX3_readsNextOrder_251 : decode cX3_readsNextOrder 251 = .ok (.aload_n 0, 1) := by decide +kernel
theorem dX3_readsNextOrder_252 : decode cX3_readsNextOrder 252 = .ok (.invokevirtual 46, 3) := by decide +kernel
theorem dX3_readsNextOrder_255 : decode cX3_readsNextOrder 255 = .ok (.ifCond .eq 14, 3) := by decide +kernel
theorem dX3_readsNextOrder_258 : decode cX3_readsNextOrder 258 = .ok (.aload_n 0, 1) := by decide +kernel
theorem dX3_readsNextOrder_259 : decode cX3_readsNextOrder 259 = .ok (.invokevirtual 55, 3) := by decide +kernel
theorem dX3_readsNextOrder_262 : decode cX3_readsNextOrder 262 = .ok (.ifCond .eq 7, 3) := by decide +kernel
theorem dX3_readsNextOrder_265 : decode cX3_readsNextOrder 265 = .ok (.iconst 1, 1) := by decide +kernel
theorem dX3_readsNextOrder_266 : decode cX3_readsNextOrder 266 = .ok (.goto 4, 3) := by decide +kernel
theorem dX3_readsNextOrder_269 : decode cX3_readsNextOrder 269 = .ok (.iconst 0, 1) := by decide +kernel
theorem dX3_readsNextOrder_270 : decode cX3_readsNextOrder 270 = .ok (.ireturn, 1) := by decide +kernel
theorem dX3_readsNextOrder_271 : decode cX3_readsNextOrder 271 = .ok (.iconst 0, 1) := by decide +kernel
theorem dX3_readsNextOrder_272 : decode cX3_readsNextOrder 272 = .ok (.ireturn, 1) := by decide +kernel
theorem dX3_readsNumber_0 : decode cX3_readsNumber 0 = .ok (.aload_n 0, 1) := by decide +kernel
theorem dX3_readsNumber_1 : decode cX3_readsNumber 1 = .ok (.aload_n 0, 1) := by decide +kernel
theorem dX3_readsNumber_2 : decode cX3_readsNumber 2 = .ok (.invokevirtual 68, 3) := by decide +kernel
theorem dX3_readsNumber_5 : decode cX3_readsNumber 5 = .ok (.putfield 71, 3) := by decide +kernel
theorem dX3_readsNumber_8 : decode cX3_readsNumber 8 = .ok (.aload_n 0, 1) := by decide +kernel
theorem dX3_readsNumber_9 : decode cX3_readsNumber 9 = .ok (.getfield 71, 3) := by decide +kernel
theorem dX3_readsNumber_12 : decode cX3_readsNumber 12 = .ok (.iconst (-1), 1) := by decide +kernel
theorem dX3_readsNumber_13 : decode cX3_readsNumber 13 = .ok (.if_icmp .eq 7, 3) := by decide +kernel
theorem dX3_readsNumber_16 : decode cX3_readsNumber 16 = .ok (.iconst 1, 1) := by decide +kernel
theorem dX3_readsNumber_17 : decode cX3_readsNumber 17 = .ok (.goto 4, 3) := by decide +kernel
theorem dX3_readsNumber_20 : decode cX3_readsNumber 20 = .ok (.iconst 0, 1) := by decide +kernel
theorem dX3_readsNumber_21 : decode cX3_readsNumber 21 = .ok (.ireturn, 1) := by decide +kernel
theorem dX3_readsOffsets_0 : decode cX3_readsOffsets 0 = .ok (.aload_n 0, 1) := by decide +kernel
theorem dX3_readsOffsets_1 : decode cX3_readsOffsets 1 = .ok (.bipush 43, 2) := by decide +kernel
theorem dX3_readsOffsets_3 : decode cX3_readsOffsets 3 = .ok (.invokevirtual 31, 3) := by decide +kernel
theorem dX3_readsOffsets_6 : decode cX3_readsOffsets 6 = .ok (.ifCond .eq 10, 3) := by decide +kernel
theorem dX3_readsOffsets_9 : decode cX3_readsOffsets 9 = .ok (.aload_n 0, 1) := by decide +kernel
theorem dX3_readsOffsets_10 : decode cX3_readsOffsets 10 = .ok (.invokevirtual 43, 3) := by decide +kernel
theorem dX3_readsOffsets_13 : decode cX3_readsOffsets 13 = .ok (.ifCond .ne 5, 3) := by decide +kernel
theorem dX3_readsOffsets_16 : decode cX3_readsOffsets 16 = .ok (.iconst 0, 1) := by decide +kernel
theorem dX3_readsOffsets_17 : decode cX3_readsOffsets 17 = .ok (.ireturn, 1) := by decide +kernel
theorem dX3_readsOffsets_18 : decode cX3_readsOffsets 18 = .ok (.aload_n 0, 1) := by decide +kernel
theorem dX3_readsOffsets_19 : decode cX3_readsOffsets 19 = .ok (.iconst 0, 1) := by decide +kernel
theorem dX3_readsOffsets_20 : decode cX3_readsOffsets 20 = .ok (.putfield 74, 3) := by decide +kernel
theorem dX3_readsOffsets_23 : decode cX3_readsOffsets 23 = .ok (.aload_n 0, 1) := by decide +kernel
theorem dX3_readsOffsets_24 : decode cX3_readsOffsets 24 = .ok (.bipush 44, 2) := by decide +kernel
theorem dX3_readsOffsets_26 : decode cX3_readsOffsets 26 = .ok (.invokevirtual 31, 3) := by decide +kernel
theorem dX3_readsOffsets_29 : decode cX3_readsOffsets 29 = .ok (.ifCond .ne 5, 3) := by decide +kernel
theorem dX3_readsOffsets_32 : decode cX3_readsOffsets 32 = .ok (.iconst 1, 1) := by decide +kernel
theorem dX3_readsOffsets_33 : decode cX3_readsOffsets 33 = .ok (.ireturn, 1) := by decide +kernel
theorem dX3_readsOffsets_34 : decode cX3_readsOffsets 34 = .ok (.aload_n 0, 1) := by decide +kernel
theorem dX3_readsOffsets_35 : decode cX3_readsOffsets 35 = .ok (.aload_n 0, 1) := by decide +kernel
theorem dX3_readsOffsets_36 : decode cX3_readsOffsets 36 = .ok (.invokevirtual 68, 3) := by decide +kernel
theorem dX3_readsOffsets_39 : decode cX3_readsOffsets 39 = .ok (.putfield 74, 3) := by decide +kernel
theorem dX3_readsOffsets_42 : decode cX3_readsOffsets 42 = .ok (.aload_n 0, 1) := by decide +kernel
theorem dX3_readsOffsets_43 : decode cX3_readsOffsets 43 = .ok (.getfield 74, 3) := by decide +kernel
theorem dX3_readsOffsets_46 : decode cX3_readsOffsets 46 = .ok (.iconst (-1), 1) := by decide +kernel
theorem dX3_readsOffsets_47 : decode cX3_readsOffsets 47 = .ok (.if_icmp .eq 7, 3) := by decide +kernel
theorem dX3_readsOffsets_50 : decode cX3_readsOffsets 50 = .ok (.iconst 1, 1) := by decide +kernel
theorem dX3_readsOffsets_51 : decode cX3_readsOffsets 51 = .ok (.goto 4, 3) := by decide +kernel
theorem dX3_readsOffsets_54 : decode cX3_readsOffsets 54 = .ok (.iconst 0, 1) := by decide +kernel
theorem dX3_readsOffsets_55 : decode cX3_readsOffsets 55 = .ok (.ireturn, 1) := by decide +kernel
theorem dX3_readsSecret_0 : decode cX3_readsSecret 0 = .ok (.aload_n 0, 1) := by decide +kernel
theorem dX3_readsSecret_1 : decode cX3_readsSecret 1 = .ok (.aload_n 0, 1) := by decide +kernel
theorem dX3_readsSecret_2 : decode cX3_readsSecret 2 = .ok (.invokevirtual 61, 3) := by decide +kernel
theorem dX3_readsSecret_5 : decode cX3_readsSecret 5 = .ok (.putfield 65, 3) := by decide +kernel
theorem dX3_readsSecret_8 : decode cX3_readsSecret 8 = .ok (.aload_n 0, 1) := by decide +kernel
theorem dX3_readsSecret_9 : decode cX3_readsSecret 9 = .ok (.getfield 65, 3) := by decide +kernel
theorem dX3_readsSecret_12 : decode cX3_readsSecret 12 = .ok (.iconst (-1), 1) := by decide +kernel
theorem dX3_readsSecret_13 : decode cX3_readsSecret 13 = .ok (.if_icmp .eq 7, 3) := by decide +kernel
theorem dX3_readsSecret_16 : decode cX3_readsSecret 16 = .ok (.iconst 1, 1) := by decide +kernel
theorem dX3_readsSecret_17 : decode cX3_readsSecret 17 = .ok (.goto 4, 3) := by decide +kernel
theorem dX3_readsSecret_20 : decode cX3_readsSecret 20 = .ok (.iconst 0, 1) := by decide +kernel
theorem dX3_readsSecret_21 : decode cX3_readsSecret 21 = .ok (.ireturn, 1) := by decide +kernel
theorem dX3_readsStore_0 : decode cX3_readsStore 0 = .ok (.aload_n 0, 1) := by decide +kernel
theorem dX3_readsStore_1 : decode cX3_readsStore 1 = .ok (.getfield 9, 3) := by decide +kernel
theorem dX3_readsStore_4 : decode cX3_readsStore 4 = .ok (.aload_n 0, 1) := by decide +kernel
theorem dX3_readsStore_5 : decode cX3_readsStore 5 = .ok (.getfield 15, 3) := by decide +kernel
theorem dX3_readsStore_8 : decode cX3_readsStore 8 = .ok (.invokevirtual 35, 3) := by decide +kernel
theorem dX3_readsStore_11 : decode cX3_readsStore 11 = .ok (.istore_n 1, 1) := by decide +kernel
theorem dX3_readsStore_12 : decode cX3_readsStore 12 = .ok (.iload_n 1, 1) := by decide +kernel
theorem dX3_readsStore_13 : decode cX3_readsStore 13 = .ok (.bipush 97, 2) := by decide +kernel
theorem dX3_readsStore_15 : decode cX3_readsStore 15 = .ok (.if_icmp .eq 11, 3) := by decide +kernel
theorem dX3_readsStore_18 : decode cX3_readsStore 18 = .ok (.iload_n 1, 1) := by decide +kernel
theorem dX3_readsStore_19 : decode cX3_readsStore 19 = .ok (.bipush 98, 2) := by decide +kernel
theorem dX3_readsStore_21 : decode cX3_readsStore 21 = .ok (.if_icmp .eq 5, 3) := by decide +kernel
theorem dX3_readsStore_24 : decode cX3_readsStore 24 = .ok (.iconst 0, 1) := by decide +kernel
theorem dX3_readsStore_25 : decode cX3_readsStore 25 = .ok (.ireturn, 1) := by decide +kernel
theorem dX3_readsStore_26 : decode cX3_readsStore 26 = .ok (.aload_n 0, 1) := by decide +kernel
theorem dX3_readsStore_27 : decode cX3_readsStore 27 = .ok (.dup, 1) := by decide +kernel
theorem dX3_readsStore_28 : decode cX3_readsStore 28 = .ok (.getfield 15, 3) := by decide +kernel
theorem dX3_readsStore_31 : decode cX3_readsStore 31 = .ok (.iconst 1, 1) := by decide +kernel
theorem dX3_readsStore_32 : decode cX3_readsStore 32 = .ok (.iadd, 1) := by decide +kernel
theorem dX3_readsStore_33 : decode cX3_readsStore 33 = .ok (.putfield 15, 3) := by decide +kernel
theorem dX3_readsStore_36 : decode cX3_readsStore 36 = .ok (.aload_n 0, 1) := by decide +kernel
theorem dX3_readsStore_37 : decode cX3_readsStore 37 = .ok (.iload_n 1, 1) := by decide +kernel
theorem dX3_readsStore_38 : decode cX3_readsStore 38 = .ok (.bipush 97, 2) := by decide +kernel
theorem dX3_readsStore_40 : decode cX3_readsStore 40 = .ok (.isub, 1) := by decide +kernel
theorem dX3_readsStore_41 : decode cX3_readsStore 41 = .ok (.putfield 58, 3) := by decide +kernel
theorem dX3_readsStore_44 : decode cX3_readsStore 44 = .ok (.iconst 1, 1) := by decide +kernel
theorem dX3_readsStore_45 : decode cX3_readsStore 45 = .ok (.ireturn, 1) := by decide +kernel
theorem dX3_readsVersion_0 : decode cX3_readsVersion 0 = .ok (.aload_n 0, 1) := by decide +kernel
theorem dX3_readsVersion_1 : decode cX3_readsVersion 1 = .ok (.iconst (-1), 1) := by decide +kernel
theorem dX3_readsVersion_2 : decode cX3_readsVersion 2 = .ok (.putfield 71, 3) := by decide +kernel
theorem dX3_readsVersion_5 : decode cX3_readsVersion 5 = .ok (.aload_n 0, 1) := by decide +kernel
theorem dX3_readsVersion_6 : decode cX3_readsVersion 6 = .ok (.bipush 46, 2) := by decide +kernel
theorem dX3_readsVersion_8 : decode cX3_readsVersion 8 = .ok (.invokevirtual 31, 3) := by decide +kernel
theorem dX3_readsVersion_11 : decode cX3_readsVersion 11 = .ok (.ifCond .eq 10, 3) := by decide +kernel
theorem dX3_readsVersion_14 : decode cX3_readsVersion 14 = .ok (.aload_n 0, 1) := by decide +kernel
theorem dX3_readsVersion_15 : decode cX3_readsVersion 15 = .ok (.invokevirtual 43, 3) := by decide +kernel
theorem dX3_readsVersion_18 : decode cX3_readsVersion 18 = .ok (.ifCond .eq 7, 3) := by decide +kernel
theorem dX3_readsVersion_21 : decode cX3_readsVersion 21 = .ok (.iconst 1, 1) := by decide +kernel
theorem dX3_readsVersion_22 : decode cX3_readsVersion 22 = .ok (.goto 4, 3) := by decide +kernel
theorem dX3_readsVersion_25 : decode cX3_readsVersion 25 = .ok (.iconst 0, 1) := by decide +kernel
theorem dX3_readsVersion_26 : decode cX3_readsVersion 26 = .ok (.ireturn, 1) := by decide +kernel
theorem dX4_ageKeeping_0 : decode cX4_ageKeeping 0 = .ok (.aload_n 0, 1) := by decide +kernel
theorem dX4_ageKeeping_1 : decode cX4_ageKeeping 1 = .ok (.getfield 12, 3) := by decide +kernel
theorem dX4_ageKeeping_4 : decode cX4_ageKeeping 4 = .ok (.invokevirtual 55, 3) := by decide +kernel
theorem dX4_ageKeeping_7 : decode cX4_ageKeeping 7 = .ok (.aload_n 0, 1) := by decide +kernel
theorem dX4_ageKeeping_8 : decode cX4_ageKeeping 8 = .ok (.getfield 18, 3) := by decide +kernel
theorem dX4_ageKeeping_11 : decode cX4_ageKeeping 11 = .ok (.invokevirtual 55, 3) := by decide +kernel
theorem dX4_ageKeeping_14 : decode cX4_ageKeeping 14 = .ok (.aload_n 0, 1) := by decide +kernel
theorem dX4_ageKeeping_15 : decode cX4_ageKeeping 15 = .ok (.getfield 29, 3) := by decide +kernel
theorem dX4_ageKeeping_18 : decode cX4_ageKeeping 18 = .ok (.iconst 1, 1) := by decide +kernel
theorem dX4_ageKeeping_19 : decode cX4_ageKeeping 19 = .ok (.iadd, 1) := by decide +kernel
theorem dX4_ageKeeping_20 : decode cX4_ageKeeping 20 = .ok (.istore_n 2, 1) := by decide +kernel
theorem dX4_ageKeeping_21 : decode cX4_ageKeeping 21 = .ok (.aload_n 0, 1) := by decide +kernel
theorem dX4_ageKeeping_22 : decode cX4_ageKeeping 22 = .ok (.iload_n 2, 1) := by decide +kernel
theorem dX4_ageKeeping_23 : decode cX4_ageKeeping 23 = .ok (.iload_n 1, 1) := by decide +kernel
theorem dX4_ageKeeping_24 : decode cX4_ageKeeping 24 = .ok (.invokestatic 58, 3) := by decide +kernel
theorem dX4_ageKeeping_27 : decode cX4_ageKeeping 27 = .ok (.putfield 29, 3) := by decide +kernel
theorem dX4_ageKeeping_30 : decode cX4_ageKeeping 30 = .ok (.iload_n 2, 1) := by decide +kernel
theorem dX4_ageKeeping_31 : decode cX4_ageKeeping 31 = .ok (.aload_n 0, 1) := by decide +kernel
theorem dX4_ageKeeping_32 : decode cX4_ageKeeping 32 = .ok (.getfield 29, 3) := by decide +kernel
theorem dX4_ageKeeping_35 : decode cX4_ageKeeping 35 = .ok (.isub, 1) := by decide +kernel
theorem dX4_ageKeeping_36 : decode cX4_ageKeeping 36 = .ok (.ireturn, 1) := by decide +kernel
theorem dX4_answerIfMerged_0 : decode cX4_answerIfMerged 0 = .ok (.aload_n 0, 1) := by decide +kernel
theorem dX4_answerIfMerged_1 : decode cX4_answerIfMerged 1 = .ok (.getfield 12, 3) := by decide +kernel
theorem dX4_answerIfMerged_4 : decode cX4_answerIfMerged 4 = .ok (.aload_n 0, 1) := by decide +kernel
theorem dX4_answerIfMerged_5 : decode cX4_answerIfMerged 5 = .ok (.getfield 18, 3) := by decide +kernel
theorem dX4_answerIfMerged_8 : decode cX4_answerIfMerged 8 = .ok (.invokevirtual 64, 3) := by decide +kernel
theorem dX4_answerIfMerged_11 : decode cX4_answerIfMerged 11 = .ok (.ifCond .eq 7, 3) := by decide +kernel
theorem dX4_answerIfMerged_14 : decode cX4_answerIfMerged 14 = .ok (.sipush 1000, 3) := by decide +kernel
theorem dX4_answerIfMerged_17 : decode cX4_answerIfMerged 17 = .ok (.ireturn, 1) := by decide +kernel
theorem dX4_answerIfMerged_18 : decode cX4_answerIfMerged 18 = .ok (.aload_n 0, 1) := by decide +kernel
theorem dX4_answerIfMerged_19 : decode cX4_answerIfMerged 19 = .ok (.getfield 18, 3) := by decide +kernel
theorem dX4_answerIfMerged_22 : decode cX4_answerIfMerged 22 = .ok (.aload_n 0, 1) := by decide +kernel
theorem dX4_answerIfMerged_23 : decode cX4_answerIfMerged 23 = .ok (.getfield 12, 3) := by decide +kernel
theorem dX4_answerIfMerged_26 : decode cX4_answerIfMerged 26 = .ok (.invokevirtual 64, 3) := by decide +kernel
theorem dX4_answerIfMerged_29 : decode cX4_answerIfMerged 29 = .ok (.ifCond .eq 7, 3) := by decide +kernel
theorem dX4_answerIfMerged_32 : decode cX4_answerIfMerged 32 = .ok (.sipush 1001, 3) := by decide +kernel
theorem dX4_answerIfMerged_35 : decode cX4_answerIfMerged 35 = .ok (.ireturn, 1) := by decide +kernel
theorem dX4_answerIfMerged_36 : decode cX4_answerIfMerged 36 = .ok (.aload_n 0, 1) := by decide +kernel
theorem dX4_answerIfMerged_37 : decode cX4_answerIfMerged 37 = .ok (.getfield 12, 3) := by decide +kernel
theorem dX4_answerIfMerged_40 : decode cX4_answerIfMerged 40 = .ok (.invokevirtual 68, 3) := by decide +kernel
theorem dX4_answerIfMerged_43 : decode cX4_answerIfMerged 43 = .ok (.aload_n 0, 1) := by decide +kernel
theorem dX4_answerIfMerged_44 : decode cX4_answerIfMerged 44 = .ok (.getfield 18, 3) := by decide +kernel
theorem dX4_answerIfMerged_47 : decode cX4_answerIfMerged 47 = .ok (.invokevirtual 68, 3) := by decide +kernel
theorem dX4_answerIfMerged_50 : decode cX4_answerIfMerged 50 = .ok (.iadd, 1) := by decide +kernel
theorem dX4_answerIfMerged_51 : decode cX4_answerIfMerged 51 = .ok (.sipush 256, 3) := by decide +kernel
theorem dX4_answerIfMerged_54 : decode cX4_answerIfMerged 54 = .ok (.irem, 1) := by decide +kernel
theorem dX4_answerIfMerged_55 : decode cX4_answerIfMerged 55 = .ok (.ireturn, 1) := by decide +kernel
theorem dX4_copySecret_0 : decode cX4_copySecret 0 = .ok (.aload_n 0, 1) := by decide +kernel
theorem dX4_copySecret_1 : decode cX4_copySecret 1 = .ok (.getfield 12, 3) := by decide +kernel
theorem dX4_copySecret_4 : decode cX4_copySecret 4 = .ok (.aload_n 1, 1) := by decide +kernel
theorem dX4_copySecret_5 : decode cX4_copySecret 5 = .ok (.getfield 12, 3) := by decide +kernel
theorem dX4_copySecret_8 : decode cX4_copySecret 8 = .ok (.invokevirtual 21, 3) := by decide +kernel
theorem dX4_copySecret_11 : decode cX4_copySecret 11 = .ok (.aload_n 0, 1) := by decide +kernel
theorem dX4_copySecret_12 : decode cX4_copySecret 12 = .ok (.getfield 18, 3) := by decide +kernel
theorem dX4_copySecret_15 : decode cX4_copySecret 15 = .ok (.aload_n 1, 1) := by decide +kernel
theorem dX4_copySecret_16 : decode cX4_copySecret 16 = .ok (.getfield 18, 3) := by decide +kernel
theorem dX4_copySecret_19 : decode cX4_copySecret 19 = .ok (.invokevirtual 21, 3) := by decide +kernel
theorem dX4_copySecret_22 : decode cX4_copySecret 22 = .ok (.aload_n 0, 1) := by decide +kernel
theorem dX4_copySecret_23 : decode cX4_copySecret 23 = .ok (.aload_n 1, 1) := by decide +kernel
theorem dX4_copySecret_24 : decode cX4_copySecret 24 = .ok (.getfield 25, 3) := by decide +kernel
theorem dX4_copySecret_27 : decode cX4_copySecret 27 = .ok (.putfield 25, 3) := by decide +kernel
theorem dX4_copySecret_30 : decode cX4_copySecret 30 = .ok (.aload_n 0, 1) := by decide +kernel
theorem dX4_copySecret_31 : decode cX4_copySecret 31 = .ok (.aload_n 1, 1) := by decide +kernel
theorem dX4_copySecret_32 : decode cX4_copySecret 32 = .ok (.getfield 29, 3) := by decide +kernel
theorem dX4_copySecret_35 : decode cX4_copySecret 35 = .ok (.putfield 29, 3) := by decide +kernel
theorem dX4_copySecret_38 : decode cX4_copySecret 38 = .ok (.aload_n 0, 1) := by decide +kernel
theorem dX4_copySecret_39 : decode cX4_copySecret 39 = .ok (.aload_n 1, 1) := by decide +kernel
theorem dX4_copySecret_40 : decode cX4_copySecret 40 = .ok (.getfield 32, 3) := by decide +kernel
theorem dX4_copySecret_43 : decode cX4_copySecret 43 = .ok (.putfield 32, 3) := by decide +kernel
theorem dX4_copySecret_46 : decode cX4_copySecret 46 = .ok (.aload_n 0, 1) := by decide +kernel
theorem dX4_copySecret_47 : decode cX4_copySecret 47 = .ok (.aload_n 1, 1) := by decide +kernel
theorem dX4_copySecret_48 : decode cX4_copySecret 48 = .ok (.getfield 35, 3) := by decide +kernel
theorem dX4_copySecret_51 : decode cX4_copySecret 51 = .ok (.putfield 35, 3) := by decide +kernel
theorem dX4_copySecret_54 : decode cX4_copySecret 54 = .ok (.aload_n 0, 1) := by decide +kernel
theorem dX4_copySecret_55 : decode cX4_copySecret 55 = .ok (.aload_n 1, 1) := by decide +kernel
theorem dX4_copySecret_56 : decode cX4_copySecret 56 = .ok (.getfield 38, 3) := by decide +kernel
theorem dX4_copySecret_59 : decode cX4_copySecret 59 = .ok (.putfield 38, 3) := by decide +kernel
theorem dX4_copySecret_62 : decode cX4_copySecret 62 = .ok (.aload_n 0, 1) := by decide +kernel
theorem dX4_copySecret_63 : decode cX4_copySecret 63 = .ok (.aload_n 1, 1) := by decide +kernel
theorem dX4_copySecret_64 : decode cX4_copySecret 64 = .ok (.getfield 41, 3) := by decide +kernel
theorem dX4_copySecret_67 : decode cX4_copySecret 67 = .ok (.putfield 41, 3) := by decide +kernel
theorem dX4_copySecret_70 : decode cX4_copySecret 70 = .ok (.aload_n 0, 1) := by decide +kernel
theorem dX4_copySecret_71 : decode cX4_copySecret 71 = .ok (.aload_n 1, 1) := by decide +kernel
theorem dX4_copySecret_72 : decode cX4_copySecret 72 = .ok (.getfield 44, 3) := by decide +kernel
theorem dX4_copySecret_75 : decode cX4_copySecret 75 = .ok (.putfield 44, 3) := by decide +kernel
theorem dX4_copySecret_78 : decode cX4_copySecret 78 = .ok (.aload_n 0, 1) := by decide +kernel
theorem dX4_copySecret_79 : decode cX4_copySecret 79 = .ok (.aload_n 1, 1) := by decide +kernel
theorem dX4_copySecret_80 : decode cX4_copySecret 80 = .ok (.getfield 47, 3) := by decide +kernel
theorem dX4_copySecret_83 : decode cX4_copySecret 83 = .ok (.putfield 47, 3) := by decide +kernel
theorem dX4_copySecret_86 : decode cX4_copySecret 86 = .ok (.return_, 1) := by decide +kernel
theorem dX4_halfBeside_0 : decode cX4_halfBeside 0 = .ok (.iload_n 1, 1) := by decide +kernel
theorem dX4_halfBeside_1 : decode cX4_halfBeside 1 = .ok (.ifCond .ne 10, 3) := by decide +kernel
theorem dX4_halfBeside_4 : decode cX4_halfBeside 4 = .ok (.aload_n 0, 1) := by decide +kernel
theorem dX4_halfBeside_5 : decode cX4_halfBeside 5 = .ok (.getfield 18, 3) := by decide +kernel
theorem dX4_halfBeside_8 : decode cX4_halfBeside 8 = .ok (.goto 7, 3) := by decide +kernel
theorem dX4_halfBeside_11 : decode cX4_halfBeside 11 = .ok (.aload_n 0, 1) := by decide +kernel
theorem dX4_halfBeside_12 : decode cX4_halfBeside 12 = .ok (.getfield 12, 3) := by decide +kernel
theorem dX4_halfBeside_15 : decode cX4_halfBeside 15 = .ok (.areturn, 1) := by decide +kernel
theorem dX4_halfIn_0 : decode cX4_halfIn 0 = .ok (.iload_n 1, 1) := by decide +kernel
theorem dX4_halfIn_1 : decode cX4_halfIn 1 = .ok (.ifCond .ne 10, 3) := by decide +kernel
theorem dX4_halfIn_4 : decode cX4_halfIn 4 = .ok (.aload_n 0, 1) := by decide +kernel
theorem dX4_halfIn_5 : decode cX4_halfIn 5 = .ok (.getfield 12, 3) := by decide +kernel
theorem dX4_halfIn_8 : decode cX4_halfIn 8 = .ok (.goto 7, 3) := by decide +kernel
theorem dX4_halfIn_11 : decode cX4_halfIn 11 = .ok (.aload_n 0, 1) := by decide +kernel
theorem dX4_halfIn_12 : decode cX4_halfIn 12 = .ok (.getfield 18, 3) := by decide +kernel
theorem dX4_halfIn_15 : decode cX4_halfIn 15 = .ok (.areturn, 1) := by decide +kernel
theorem dX4_init_0 : decode cX4_init 0 = .ok (.aload_n 0, 1) := by decide +kernel
theorem dX4_init_1 : decode cX4_init 1 = .ok (.invokespecial 3, 3) := by decide +kernel
theorem dX4_init_4 : decode cX4_init 4 = .ok (.aload_n 0, 1) := by decide +kernel
theorem dX4_init_5 : decode cX4_init 5 = .ok (.new 9, 3) := by decide +kernel
theorem dX4_init_8 : decode cX4_init 8 = .ok (.dup, 1) := by decide +kernel
theorem dX4_init_9 : decode cX4_init 9 = .ok (.invokespecial 11, 3) := by decide +kernel
theorem dX4_init_12 : decode cX4_init 12 = .ok (.putfield 12, 3) := by decide +kernel
theorem dX4_init_15 : decode cX4_init 15 = .ok (.aload_n 0, 1) := by decide +kernel
theorem dX4_init_16 : decode cX4_init 16 = .ok (.new 9, 3) := by decide +kernel
theorem dX4_init_19 : decode cX4_init 19 = .ok (.dup, 1) := by decide +kernel
theorem dX4_init_20 : decode cX4_init 20 = .ok (.invokespecial 11, 3) := by decide +kernel
theorem dX4_init_23 : decode cX4_init 23 = .ok (.putfield 18, 3) := by decide +kernel
theorem dX4_init_26 : decode cX4_init 26 = .ok (.return_, 1) := by decide +kernel
theorem dX4_open_0 : decode cX4_open 0 = .ok (.aload_n 0, 1) := by decide +kernel
theorem dX4_open_1 : decode cX4_open 1 = .ok (.iload_n 1, 1) := by decide +kernel
theorem dX4_open_2 : decode cX4_open 2 = .ok (.putfield 32, 3) := by decide +kernel
theorem dX4_open_5 : decode cX4_open 5 = .ok (.aload_n 0, 1) := by decide +kernel
theorem dX4_open_6 : decode cX4_open 6 = .ok (.iload_n 2, 1) := by decide +kernel
theorem dX4_open_7 : decode cX4_open 7 = .ok (.putfield 35, 3) := by decide +kernel
theorem dX4_open_10 : decode cX4_open 10 = .ok (.aload_n 0, 1) := by decide +kernel
theorem dX4_open_11 : decode cX4_open 11 = .ok (.dup, 1) := by decide +kernel
theorem dX4_open_12 : decode cX4_open 12 = .ok (.getfield 41, 3) := by decide +kernel
theorem dX4_open_15 : decode cX4_open 15 = .ok (.iconst 1, 1) := by decide +kernel
theorem dX4_open_16 : decode cX4_open 16 = .ok (.iadd, 1) := by decide +kernel
theorem dX4_open_17 : decode cX4_open 17 = .ok (.putfield 41, 3) := by decide +kernel
theorem dX4_open_20 : decode cX4_open 20 = .ok (.return_, 1) := by decide +kernel
theorem dX4_partForThief_0 : decode cX4_partForThief 0 = .ok (.aload_n 0, 1) := by decide +kernel
theorem dX4_partForThief_1 : decode cX4_partForThief 1 = .ok (.iload_n 1, 1) := by decide +kernel
theorem dX4_partForThief_2 : decode cX4_partForThief 2 = .ok (.invokevirtual 72, 3) := by decide +kernel
theorem dX4_partForThief_5 : decode cX4_partForThief 5 = .ok (.astore_n 3, 1) := by decide +kernel
theorem dX4_partForThief_6 : decode cX4_partForThief 6 = .ok (.aload_n 3, 1) := by decide +kernel
theorem dX4_partForThief_7 : decode cX4_partForThief 7 = .ok (.getfield 76, 3) := by decide +kernel
theorem dX4_partForThief_10 : decode cX4_partForThief 10 = .ok (.iload_n 2, 1) := by decide +kernel
theorem dX4_partForThief_11 : decode cX4_partForThief 11 = .ok (.baload, 1) := by decide +kernel
theorem dX4_partForThief_12 : decode cX4_partForThief 12 = .ok (.ifCond .ne 20, 3) := by decide +kernel
theorem dX4_partForThief_15 : decode cX4_partForThief 15 = .ok (.aload_n 3, 1) := by decide +kernel
theorem dX4_partForThief_16 : decode cX4_partForThief 16 = .ok (.getfield 76, 3) := by decide +kernel
theorem dX4_partForThief_19 : decode cX4_partForThief 19 = .ok (.iload_n 2, 1) := by decide +kernel
theorem dX4_partForThief_20 : decode cX4_partForThief 20 = .ok (.iconst 1, 1) := by decide +kernel
theorem dX4_partForThief_21 : decode cX4_partForThief 21 = .ok (.bastore, 1) := by decide +kernel
theorem dX4_partForThief_22 : decode cX4_partForThief 22 = .ok (.aload_n 0, 1) := by decide +kernel
theorem dX4_partForThief_23 : decode cX4_partForThief 23 = .ok (.dup, 1) := by decide +kernel
theorem dX4_partForThief_24 : decode cX4_partForThief 24 = .ok (.getfield 44, 3) := by decide +kernel
theorem dX4_partForThief_27 : decode cX4_partForThief 27 = .ok (.iconst 1, 1) := by decide +kernel
theorem dX4_partForThief_28 : decode cX4_partForThief 28 = .ok (.iadd, 1) := by decide +kernel
theorem dX4_partForThief_29 : decode cX4_partForThief 29 = .ok (.putfield 44, 3) := by decide +kernel
theorem dX4_partForThief_32 : decode cX4_partForThief 32 = .ok (.aload_n 0, 1) := by decide +kernel
theorem dX4_partForThief_33 : decode cX4_partForThief 33 = .ok (.aload_n 0, 1) := by decide +kernel
theorem dX4_partForThief_34 : decode cX4_partForThief 34 = .ok (.getfield 47, 3) := by decide +kernel
theorem dX4_partForThief_37 : decode cX4_partForThief 37 = .ok (.ifCond .ne 12, 3) := by decide +kernel
theorem dX4_partForThief_40 : decode cX4_partForThief 40 = .ok (.aload_n 0, 1) := by decide +kernel
theorem dX4_partForThief_41 : decode cX4_partForThief 41 = .ok (.iload_n 2, 1) := by decide +kernel
theorem dX4_partForThief_42 : decode cX4_partForThief 42 = .ok (.invokevirtual 80, 3) := by decide +kernel
theorem dX4_partForThief_45 : decode cX4_partForThief 45 = .ok (.iconst 3, 1) := by decide +kernel
theorem dX4_partForThief_46 : decode cX4_partForThief 46 = .ok (.if_icmp .ne 7, 3) := by decide +kernel
theorem dX4_partForThief_49 : decode cX4_partForThief 49 = .ok (.iconst 1, 1) := by decide +kernel
theorem dX4_partForThief_50 : decode cX4_partForThief 50 = .ok (.goto 4, 3) := by decide +kernel
theorem dX4_partForThief_53 : decode cX4_partForThief 53 = .ok (.iconst 0, 1) := by decide +kernel
theorem dX4_partForThief_54 : decode cX4_partForThief 54 = .ok (.putfield 47, 3) := by decide +kernel
theorem dX4_partForThief_57 : decode cX4_partForThief 57 = .ok (.aload_n 3, 1) := by decide +kernel
theorem dX4_partForThief_58 : decode cX4_partForThief 58 = .ok (.getfield 51, 3) := by decide +kernel
theorem dX4_partForThief_61 : decode cX4_partForThief 61 = .ok (.iload_n 2, 1) := by decide +kernel
theorem dX4_partForThief_62 : decode cX4_partForThief 62 = .ok (.iaload, 1) := by decide +kernel
theorem dX4_partForThief_63 : decode cX4_partForThief 63 = .ok (.ireturn, 1) := by decide +kernel
theorem dX4_rowsAtRisk_0 : decode cX4_rowsAtRisk 0 = .ok (.iconst 0, 1) := by decide +kernel
theorem dX4_rowsAtRisk_1 : decode cX4_rowsAtRisk 1 = .ok (.istore_n 1, 1) := by decide +kernel
theorem dX4_rowsAtRisk_2 : decode cX4_rowsAtRisk 2 = .ok (.iconst 0, 1) := by decide +kernel
theorem dX4_rowsAtRisk_3 : decode cX4_rowsAtRisk 3 = .ok (.istore_n 2, 1) := by decide +kernel
theorem dX4_rowsAtRisk_4 : decode cX4_rowsAtRisk 4 = .ok (.iload_n 2, 1) := by decide +kernel
theorem dX4_rowsAtRisk_5 : decode cX4_rowsAtRisk 5 = .ok (.aload_n 0, 1) := by decide +kernel
theorem dX4_rowsAtRisk_6 : decode cX4_rowsAtRisk 6 = .ok (.getfield 29, 3) := by decide +kernel
theorem dX4_rowsAtRisk_9 : decode cX4_rowsAtRisk 9 = .ok (.if_icmp .gt 38, 3) := by decide +kernel
theorem dX4_rowsAtRisk_12 : decode cX4_rowsAtRisk 12 = .ok (.iload_n 2, 1) := by decide +kernel
theorem dX4_rowsAtRisk_13 : decode cX4_rowsAtRisk 13 = .ok (.iconst 5, 1) := by decide +kernel
theorem dX4_rowsAtRisk_14 : decode cX4_rowsAtRisk 14 = .ok (.if_icmp .ge 33, 3) := by decide +kernel
theorem dX4_rowsAtRisk_17 : decode cX4_rowsAtRisk 17 = .ok (.aload_n 0, 1) := by decide +kernel
theorem dX4_rowsAtRisk_18 : decode cX4_rowsAtRisk 18 = .ok (.getfield 12, 3) := by decide +kernel
theorem dX4_rowsAtRisk_21 : decode cX4_rowsAtRisk 21 = .ok (.getfield 76, 3) := by decide +kernel
theorem dX4_rowsAtRisk_24 : decode cX4_rowsAtRisk 24 = .ok (.iload_n 2, 1) := by decide +kernel
theorem dX4_rowsAtRisk_25 : decode cX4_rowsAtRisk 25 = .ok (.baload, 1) := by decide +kernel
theorem dX4_rowsAtRisk_26 : decode cX4_rowsAtRisk 26 = .ok (.aload_n 0, 1) := by decide +kernel
theorem dX4_rowsAtRisk_27 : decode cX4_rowsAtRisk 27 = .ok (.getfield 18, 3) := by decide +kernel
theorem dX4_rowsAtRisk_30 : decode cX4_rowsAtRisk 30 = .ok (.getfield 76, 3) := by decide +kernel
theorem dX4_rowsAtRisk_33 : decode cX4_rowsAtRisk 33 = .ok (.iload_n 2, 1) := by decide +kernel
theorem dX4_rowsAtRisk_34 : decode cX4_rowsAtRisk 34 = .ok (.baload, 1) := by decide +kernel
theorem dX4_rowsAtRisk_35 : decode cX4_rowsAtRisk 35 = .ok (.if_icmp .eq 6, 3) := by decide +kernel
theorem dX4_rowsAtRisk_38 : decode cX4_rowsAtRisk 38 = .ok (.iinc 1 1, 3) := by decide +kernel
theorem dX4_rowsAtRisk_41 : decode cX4_rowsAtRisk 41 = .ok (.iinc 2 1, 3) := by decide +kernel
theorem dX4_rowsAtRisk_44 : decode cX4_rowsAtRisk 44 = .ok (.goto (-40), 3) := by decide +kernel
theorem dX4_rowsAtRisk_47 : decode cX4_rowsAtRisk 47 = .ok (.iload_n 1, 1) := by decide +kernel
theorem dX4_rowsAtRisk_48 : decode cX4_rowsAtRisk 48 = .ok (.ireturn, 1) := by decide +kernel
theorem dX4_takenSet_0 : decode cX4_takenSet 0 = .ok (.aload_n 0, 1) := by decide +kernel
theorem dX4_takenSet_1 : decode cX4_takenSet 1 = .ok (.getfield 12, 3) := by decide +kernel
theorem dX4_takenSet_4 : decode cX4_takenSet 4 = .ok (.getfield 76, 3) := by decide +kernel
theorem dX4_takenSet_7 : decode cX4_takenSet 7 = .ok (.iload_n 1, 1) := by decide +kernel
theorem dX4_takenSet_8 : decode cX4_takenSet 8 = .ok (.baload, 1) := by decide +kernel
theorem dX4_takenSet_9 : decode cX4_takenSet 9 = .ok (.ifCond .eq 7, 3) := by decide +kernel
theorem dX4_takenSet_12 : decode cX4_takenSet 12 = .ok (.iconst 1, 1) := by decide +kernel
theorem dX4_takenSet_13 : decode cX4_takenSet 13 = .ok (.goto 4, 3) := by decide +kernel
theorem dX4_takenSet_16 : decode cX4_takenSet 16 = .ok (.iconst 0, 1) := by decide +kernel
theorem dX4_takenSet_17 : decode cX4_takenSet 17 = .ok (.aload_n 0, 1) := by decide +kernel
theorem dX4_takenSet_18 : decode cX4_takenSet 18 = .ok (.getfield 18, 3) := by decide +kernel
theorem dX4_takenSet_21 : decode cX4_takenSet 21 = .ok (.getfield 76, 3) := by decide +kernel
theorem dX4_takenSet_24 : decode cX4_takenSet 24 = .ok (.iload_n 1, 1) := by decide +kernel
theorem dX4_takenSet_25 : decode cX4_takenSet 25 = .ok (.baload, 1) := by decide +kernel
theorem dX4_takenSet_26 : decode cX4_takenSet 26 = .ok (.ifCond .eq 7, 3) := by decide +kernel
theorem dX4_takenSet_29 : decode cX4_takenSet 29 = .ok (.iconst 2, 1) := by decide +kernel
theorem dX4_takenSet_30 : decode cX4_takenSet 30 = .ok (.goto 4, 3) := by decide +kernel
theorem dX4_takenSet_33 : decode cX4_takenSet 33 = .ok (.iconst 0, 1) := by decide +kernel
theorem dX4_takenSet_34 : decode cX4_takenSet 34 = .ok (.iadd, 1) := by decide +kernel
theorem dX4_takenSet_35 : decode cX4_takenSet 35 = .ok (.ireturn, 1) := by decide +kernel
theorem dX4_value_0 : decode cX4_value 0 = .ok (.aload_n 0, 1) := by decide +kernel
theorem dX4_value_1 : decode cX4_value 1 = .ok (.getfield 12, 3) := by decide +kernel
theorem dX4_value_4 : decode cX4_value 4 = .ok (.getfield 51, 3) := by decide +kernel
theorem dX4_value_7 : decode cX4_value 7 = .ok (.iconst 0, 1) := by decide +kernel
theorem dX4_value_8 : decode cX4_value 8 = .ok (.iaload, 1) := by decide +kernel
theorem dX4_value_9 : decode cX4_value 9 = .ok (.aload_n 0, 1) := by decide +kernel
theorem dX4_value_10 : decode cX4_value 10 = .ok (.getfield 18, 3) := by decide +kernel
theorem dX4_value_13 : decode cX4_value 13 = .ok (.getfield 51, 3) := by decide +kernel
theorem dX4_value_16 : decode cX4_value 16 = .ok (.iconst 0, 1) := by decide +kernel
theorem dX4_value_17 : decode cX4_value 17 = .ok (.iaload, 1) := by decide +kernel
theorem dX4_value_18 : decode cX4_value 18 = .ok (.iadd, 1) := by decide +kernel
theorem dX4_value_19 : decode cX4_value 19 = .ok (.sipush 256, 3) := by decide +kernel
theorem dX4_value_22 : decode cX4_value 22 = .ok (.irem, 1) := by decide +kernel
theorem dX4_value_23 : decode cX4_value 23 = .ok (.ireturn, 1) := by decide +kernel
theorem dX5_admit_0 : decode cX5_admit 0 = .ok (.iload_n 1, 1) := by decide +kernel
theorem dX5_admit_1 : decode cX5_admit 1 = .ok (.invokestatic 69, 3) := by decide +kernel
theorem dX5_admit_4 : decode cX5_admit 4 = .ok (.ifCond .ne 6, 3) := by decide +kernel
theorem dX5_admit_7 : decode cX5_admit 7 = .ok (.bipush (-2), 2) := by decide +kernel
theorem dX5_admit_9 : decode cX5_admit 9 = .ok (.ireturn, 1) := by decide +kernel
theorem dX5_admit_10 : decode cX5_admit 10 = .ok (.aload_n 0, 1) := by decide +kernel
theorem dX5_admit_11 : decode cX5_admit 11 = .ok (.getfield 34, 3) := by decide +kernel
theorem dX5_admit_14 : decode cX5_admit 14 = .ok (.bipush 8, 2) := by decide +kernel
theorem dX5_admit_16 : decode cX5_admit 16 = .ok (.if_icmp .lt 6, 3) := by decide +kernel
theorem dX5_admit_19 : decode cX5_admit 19 = .ok (.bipush (-4), 2) := by decide +kernel
theorem dX5_admit_21 : decode cX5_admit 21 = .ok (.ireturn, 1) := by decide +kernel
theorem dX5_admit_22 : decode cX5_admit 22 = .ok (.aload_n 0, 1) := by decide +kernel
theorem dX5_admit_23 : decode cX5_admit 23 = .ok (.invokevirtual 72, 3) := by decide +kernel
theorem dX5_admit_26 : decode cX5_admit 26 = .ok (.ifCond .eq 6, 3) := by decide +kernel
theorem dX5_admit_29 : decode cX5_admit 29 = .ok (.bipush (-5), 2) := by decide +kernel
theorem dX5_admit_31 : decode cX5_admit 31 = .ok (.ireturn, 1) := by decide +kernel
theorem dX5_admit_32 : decode cX5_admit 32 = .ok (.aload_n 0, 1) := by decide +kernel
theorem dX5_admit_33 : decode cX5_admit 33 = .ok (.aload_n 0, 1) := by decide +kernel
theorem dX5_admit_34 : decode cX5_admit 34 = .ok (.getfield 11, 3) := by decide +kernel
theorem dX5_admit_37 : decode cX5_admit 37 = .ok (.aload_n 0, 1) := by decide +kernel
theorem dX5_admit_38 : decode cX5_admit 38 = .ok (.getfield 34, 3) := by decide +kernel
theorem dX5_admit_41 : decode cX5_admit 41 = .ok (.aaload, 1) := by decide +kernel
theorem dX5_admit_42 : decode cX5_admit 42 = .ok (.iload_n 1, 1) := by decide +kernel
theorem dX5_admit_43 : decode cX5_admit 43 = .ok (.invokevirtual 76, 3) := by decide +kernel
theorem dX5_admit_46 : decode cX5_admit 46 = .ok (.aload_n 0, 1) := by decide +kernel
theorem dX5_admit_47 : decode cX5_admit 47 = .ok (.dup, 1) := by decide +kernel
theorem dX5_admit_48 : decode cX5_admit 48 = .ok (.getfield 34, 3) := by decide +kernel
theorem dX5_admit_51 : decode cX5_admit 51 = .ok (.iconst 1, 1) := by decide +kernel
theorem dX5_admit_52 : decode cX5_admit 52 = .ok (.iadd, 1) := by decide +kernel
theorem dX5_admit_53 : decode cX5_admit 53 = .ok (.putfield 34, 3) := by decide +kernel
theorem dX5_admit_56 : decode cX5_admit 56 = .ok (.aload_n 0, 1) := by decide +kernel
theorem dX5_admit_57 : decode cX5_admit 57 = .ok (.getfield 34, 3) := by decide +kernel
theorem dX5_admit_60 : decode cX5_admit 60 = .ok (.iconst 1, 1) := by decide +kernel
theorem dX5_admit_61 : decode cX5_admit 61 = .ok (.isub, 1) := by decide +kernel
theorem dX5_admit_62 : decode cX5_admit 62 = .ok (.ireturn, 1) := by decide +kernel
theorem dX5_answerOfMerger_0 : decode cX5_answerOfMerger 0 = .ok (.aload_n 0, 1) := by decide +kernel
theorem dX5_answerOfMerger_1 : decode cX5_answerOfMerger 1 = .ok (.iload_n 1, 1) := by decide +kernel
theorem dX5_answerOfMerger_2 : decode cX5_answerOfMerger 2 = .ok (.invokevirtual 56, 3) := by decide +kernel
theorem dX5_answerOfMerger_5 : decode cX5_answerOfMerger 5 = .ok (.ifCond .ne 5, 3) := by decide +kernel
theorem dX5_answerOfMerger_8 : decode cX5_answerOfMerger 8 = .ok (.iconst (-1), 1) := by decide +kernel
theorem dX5_answerOfMerger_9 : decode cX5_answerOfMerger 9 = .ok (.ireturn, 1) := by decide +kernel
theorem dX5_answerOfMerger_10 : decode cX5_answerOfMerger 10 = .ok (.aload_n 0, 1) := by decide +kernel
theorem dX5_answerOfMerger_11 : decode cX5_answerOfMerger 11 = .ok (.invokevirtual 72, 3) := by decide +kernel
theorem dX5_answerOfMerger_14 : decode cX5_answerOfMerger 14 = .ok (.ifCond .eq 6, 3) := by decide +kernel
theorem dX5_answerOfMerger_17 : decode cX5_answerOfMerger 17 = .ok (.bipush (-5), 2) := by decide +kernel
theorem dX5_answerOfMerger_19 : decode cX5_answerOfMerger 19 = .ok (.ireturn, 1) := by decide +kernel
theorem dX5_answerOfMerger_20 : decode cX5_answerOfMerger 20 = .ok (.aload_n 0, 1) := by decide +kernel
theorem dX5_answerOfMerger_21 : decode cX5_answerOfMerger 21 = .ok (.getfield 11, 3) := by decide +kernel
theorem dX5_answerOfMerger_24 : decode cX5_answerOfMerger 24 = .ok (.iload_n 1, 1) := by decide +kernel
theorem dX5_answerOfMerger_25 : decode cX5_answerOfMerger 25 = .ok (.aaload, 1) := by decide +kernel
theorem dX5_answerOfMerger_26 : decode cX5_answerOfMerger 26 = .ok (.invokevirtual 144, 3) := by decide +kernel
theorem dX5_answerOfMerger_29 : decode cX5_answerOfMerger 29 = .ok (.ireturn, 1) := by decide +kernel
theorem dX5_burnOldVersions_0 : decode cX5_burnOldVersions 0 = .ok (.aload_n 0, 1) := by decide +kernel
theorem dX5_burnOldVersions_1 : decode cX5_burnOldVersions 1 = .ok (.iload_n 1, 1) := by decide +kernel
theorem dX5_burnOldVersions_2 : decode cX5_burnOldVersions 2 = .ok (.invokevirtual 56, 3) := by decide +kernel
theorem dX5_burnOldVersions_5 : decode cX5_burnOldVersions 5 = .ok (.ifCond .ne 5, 3) := by decide +kernel
theorem dX5_burnOldVersions_8 : decode cX5_burnOldVersions 8 = .ok (.iconst (-1), 1) := by decide +kernel
theorem dX5_burnOldVersions_9 : decode cX5_burnOldVersions 9 = .ok (.ireturn, 1) := by decide +kernel
theorem dX5_burnOldVersions_10 : decode cX5_burnOldVersions 10 = .ok (.aload_n 0, 1) := by decide +kernel
theorem dX5_burnOldVersions_11 : decode cX5_burnOldVersions 11 = .ok (.invokevirtual 72, 3) := by decide +kernel
theorem dX5_burnOldVersions_14 : decode cX5_burnOldVersions 14 = .ok (.ifCond .eq 6, 3) := by decide +kernel
theorem dX5_burnOldVersions_17 : decode cX5_burnOldVersions 17 = .ok (.bipush (-5), 2) := by decide +kernel
theorem dX5_burnOldVersions_19 : decode cX5_burnOldVersions 19 = .ok (.ireturn, 1) := by decide +kernel
theorem dX5_burnOldVersions_20 : decode cX5_burnOldVersions 20 = .ok (.aload_n 0, 1) := by decide +kernel
theorem dX5_burnOldVersions_21 : decode cX5_burnOldVersions 21 = .ok (.getfield 11, 3) := by decide +kernel
theorem dX5_burnOldVersions_24 : decode cX5_burnOldVersions 24 = .ok (.iload_n 1, 1) := by decide +kernel
theorem dX5_burnOldVersions_25 : decode cX5_burnOldVersions 25 = .ok (.aaload, 1) := by decide +kernel
theorem dX5_burnOldVersions_26 : decode cX5_burnOldVersions 26 = .ok (.getfield 124, 3) := by decide +kernel
theorem dX5_burnOldVersions_29 : decode cX5_burnOldVersions 29 = .ok (.istore_n 2, 1) := by decide +kernel
theorem dX5_burnOldVersions_30 : decode cX5_burnOldVersions 30 = .ok (.aload_n 0, 1) := by decide +kernel
theorem dX5_burnOldVersions_31 : decode cX5_burnOldVersions 31 = .ok (.getfield 11, 3) := by decide +kernel
theorem dX5_burnOldVersions_34 : decode cX5_burnOldVersions 34 = .ok (.iload_n 1, 1) := by decide +kernel
theorem dX5_burnOldVersions_35 : decode cX5_burnOldVersions 35 = .ok (.aaload, 1) := by decide +kernel
theorem dX5_burnOldVersions_36 : decode cX5_burnOldVersions 36 = .ok (.iconst 0, 1) := by decide +kernel
theorem dX5_burnOldVersions_37 : decode cX5_burnOldVersions 37 = .ok (.putfield 124, 3) := by decide +kernel
theorem dX5_burnOldVersions_40 : decode cX5_burnOldVersions 40 = .ok (.aload_n 0, 1) := by decide +kernel
theorem dX5_burnOldVersions_41 : decode cX5_burnOldVersions 41 = .ok (.dup, 1) := by decide +kernel
theorem dX5_burnOldVersions_42 : decode cX5_burnOldVersions 42 = .ok (.getfield 43, 3) := by decide +kernel
theorem dX5_burnOldVersions_45 : decode cX5_burnOldVersions 45 = .ok (.iload_n 2, 1) := by decide +kernel
theorem dX5_burnOldVersions_46 : decode cX5_burnOldVersions 46 = .ok (.iadd, 1) := by decide +kernel
theorem dX5_burnOldVersions_47 : decode cX5_burnOldVersions 47 = .ok (.putfield 43, 3) := by decide +kernel
theorem dX5_burnOldVersions_50 : decode cX5_burnOldVersions 50 = .ok (.iload_n 2, 1) := by decide +kernel
theorem dX5_burnOldVersions_51 : decode cX5_burnOldVersions 51 = .ok (.ireturn, 1) := by decide +kernel
theorem dX5_changeSetting_0 : decode cX5_changeSetting 0 = .ok (.iload_n 1, 1) := by decide +kernel
theorem dX5_changeSetting_1 : decode cX5_changeSetting 1 = .ok (.ifCond .lt 8, 3) := by decide +kernel
theorem dX5_changeSetting_4 : decode cX5_changeSetting 4 = .ok (.iload_n 1, 1) := by decide +kernel
theorem dX5_changeSetting_5 : decode cX5_changeSetting 5 = .ok (.iconst 3, 1) := by decide +kernel
theorem dX5_changeSetting_6 : decode cX5_changeSetting 6 = .ok (.if_icmp .lt 6, 3) := by decide +kernel
theorem dX5_changeSetting_9 : decode cX5_changeSetting 9 = .ok (.bipush (-2), 2) := by decide +kernel
theorem dX5_changeSetting_11 : decode cX5_changeSetting 11 = .ok (.ireturn, 1) := by decide +kernel
theorem dX5_changeSetting_12 : decode cX5_changeSetting 12 = .ok (.iload_n 2, 1) := by decide +kernel
theorem dX5_changeSetting_13 : decode cX5_changeSetting 13 = .ok (.getstatic 62, 3) := by decide +kernel
theorem dX5_changeSetting_16 : decode cX5_changeSetting 16 = .ok (.iload_n 1, 1) := by decide +kernel
theorem dX5_changeSetting_17 : decode cX5_changeSetting 17 = .ok (.iaload, 1) := by decide +kernel
theorem dX5_changeSetting_18 : decode cX5_changeSetting 18 = .ok (.if_icmp .lt 12, 3) := by decide +kernel
theorem dX5_changeSetting_21 : decode cX5_changeSetting 21 = .ok (.iload_n 2, 1) := by decide +kernel
theorem dX5_changeSetting_22 : decode cX5_changeSetting 22 = .ok (.getstatic 65, 3) := by decide +kernel
theorem dX5_changeSetting_25 : decode cX5_changeSetting 25 = .ok (.iload_n 1, 1) := by decide +kernel
theorem dX5_changeSetting_26 : decode cX5_changeSetting 26 = .ok (.iaload, 1) := by decide +kernel
theorem dX5_changeSetting_27 : decode cX5_changeSetting 27 = .ok (.if_icmp .le 6, 3) := by decide +kernel
theorem dX5_changeSetting_30 : decode cX5_changeSetting 30 = .ok (.bipush (-2), 2) := by decide +kernel
theorem dX5_changeSetting_32 : decode cX5_changeSetting 32 = .ok (.ireturn, 1) := by decide +kernel
theorem dX5_changeSetting_33 : decode cX5_changeSetting 33 = .ok (.aload_n 0, 1) := by decide +kernel
theorem dX5_changeSetting_34 : decode cX5_changeSetting 34 = .ok (.getfield 17, 3) := by decide +kernel
theorem dX5_changeSetting_37 : decode cX5_changeSetting 37 = .ok (.iload_n 1, 1) := by decide +kernel
theorem dX5_changeSetting_38 : decode cX5_changeSetting 38 = .ok (.iaload, 1) := by decide +kernel
theorem dX5_changeSetting_39 : decode cX5_changeSetting 39 = .ok (.istore_n 3, 1) := by decide +kernel
theorem dX5_changeSetting_40 : decode cX5_changeSetting 40 = .ok (.aload_n 0, 1) := by decide +kernel
theorem dX5_changeSetting_41 : decode cX5_changeSetting 41 = .ok (.getfield 17, 3) := by decide +kernel
theorem dX5_changeSetting_44 : decode cX5_changeSetting 44 = .ok (.iload_n 1, 1) := by decide +kernel
theorem dX5_changeSetting_45 : decode cX5_changeSetting 45 = .ok (.iload_n 2, 1) := by decide +kernel
theorem dX5_changeSetting_46 : decode cX5_changeSetting 46 = .ok (.iastore, 1) := by decide +kernel
theorem dX5_changeSetting_47 : decode cX5_changeSetting 47 = .ok (.iload_n 3, 1) := by decide +kernel
theorem dX5_changeSetting_48 : decode cX5_changeSetting 48 = .ok (.ireturn, 1) := by decide +kernel
theorem dX5_changeX_0 : decode cX5_changeX 0 = .ok (.iload_n 1, 1) := by decide +kernel
theorem dX5_changeX_1 : decode cX5_changeX 1 = .ok (.ifCond .lt 10, 3) := by decide +kernel
theorem dX5_changeX_4 : decode cX5_changeX 4 = .ok (.iload_n 1, 1) := by decide +kernel
theorem dX5_changeX_5 : decode cX5_changeX 5 = .ok (.sipush 9999, 3) := by decide +kernel
theorem dX5_changeX_8 : decode cX5_changeX 8 = .ok (.if_icmp .le 6, 3) := by decide +kernel
theorem dX5_changeX_11 : decode cX5_changeX 11 = .ok (.bipush (-2), 2) := by decide +kernel
theorem dX5_changeX_13 : decode cX5_changeX 13 = .ok (.ireturn, 1) := by decide +kernel
theorem dX5_changeX_14 : decode cX5_changeX 14 = .ok (.aload_n 0, 1) := by decide +kernel
theorem dX5_changeX_15 : decode cX5_changeX 15 = .ok (.getfield 25, 3) := by decide +kernel
theorem dX5_changeX_18 : decode cX5_changeX 18 = .ok (.istore_n 2, 1) := by decide +kernel
theorem dX5_changeX_19 : decode cX5_changeX 19 = .ok (.aload_n 0, 1) := by decide +kernel
theorem dX5_changeX_20 : decode cX5_changeX 20 = .ok (.iload_n 1, 1) := by decide +kernel
theorem dX5_changeX_21 : decode cX5_changeX 21 = .ok (.putfield 25, 3) := by decide +kernel
theorem dX5_changeX_24 : decode cX5_changeX 24 = .ok (.iload_n 2, 1) := by decide +kernel
theorem dX5_changeX_25 : decode cX5_changeX 25 = .ok (.ireturn, 1) := by decide +kernel
theorem dX5_copyState_0 : decode cX5_copyState 0 = .ok (.iconst 0, 1) := by decide +kernel
theorem dX5_copyState_1 : decode cX5_copyState 1 = .ok (.istore_n 2, 1) := by decide +kernel
theorem dX5_copyState_2 : decode cX5_copyState 2 = .ok (.iload_n 2, 1) := by decide +kernel
theorem dX5_copyState_3 : decode cX5_copyState 3 = .ok (.bipush 8, 2) := by decide +kernel
theorem dX5_copyState_5 : decode cX5_copyState 5 = .ok (.if_icmp .ge 24, 3) := by decide +kernel
theorem dX5_copyState_8 : decode cX5_copyState 8 = .ok (.aload_n 0, 1) := by decide +kernel
theorem dX5_copyState_9 : decode cX5_copyState 9 = .ok (.getfield 11, 3) := by decide +kernel
theorem dX5_copyState_12 : decode cX5_copyState 12 = .ok (.iload_n 2, 1) := by decide +kernel
theorem dX5_copyState_13 : decode cX5_copyState 13 = .ok (.aaload, 1) := by decide +kernel
theorem dX5_copyState_14 : decode cX5_copyState 14 = .ok (.aload_n 1, 1) := by decide +kernel
theorem dX5_copyState_15 : decode cX5_copyState 15 = .ok (.getfield 11, 3) := by decide +kernel
theorem dX5_copyState_18 : decode cX5_copyState 18 = .ok (.iload_n 2, 1) := by decide +kernel
theorem dX5_copyState_19 : decode cX5_copyState 19 = .ok (.aaload, 1) := by decide +kernel
theorem dX5_copyState_20 : decode cX5_copyState 20 = .ok (.invokevirtual 30, 3) := by decide +kernel
theorem dX5_copyState_23 : decode cX5_copyState 23 = .ok (.iinc 2 1, 3) := by decide +kernel
theorem dX5_copyState_26 : decode cX5_copyState 26 = .ok (.goto (-24), 3) := by decide +kernel
theorem dX5_copyState_29 : decode cX5_copyState 29 = .ok (.iconst 0, 1) := by decide +kernel
theorem dX5_copyState_30 : decode cX5_copyState 30 = .ok (.istore_n 2, 1) := by decide +kernel
theorem dX5_copyState_31 : decode cX5_copyState 31 = .ok (.iload_n 2, 1) := by decide +kernel
theorem dX5_copyState_32 : decode cX5_copyState 32 = .ok (.iconst 3, 1) := by decide +kernel
theorem dX5_copyState_33 : decode cX5_copyState 33 = .ok (.if_icmp .ge 21, 3) := by decide +kernel
theorem dX5_copyState_36 : decode cX5_copyState 36 = .ok (.aload_n 0, 1) := by decide +kernel
theorem dX5_copyState_37 : decode cX5_copyState 37 = .ok (.getfield 17, 3) := by decide +kernel
theorem dX5_copyState_40 : decode cX5_copyState 40 = .ok (.iload_n 2, 1) := by decide +kernel
theorem dX5_copyState_41 : decode cX5_copyState 41 = .ok (.aload_n 1, 1) := by decide +kernel
theorem dX5_copyState_42 : decode cX5_copyState 42 = .ok (.getfield 17, 3) := by decide +kernel
theorem dX5_copyState_45 : decode cX5_copyState 45 = .ok (.iload_n 2, 1) := by decide +kernel
theorem dX5_copyState_46 : decode cX5_copyState 46 = .ok (.iaload, 1) := by decide +kernel
theorem dX5_copyState_47 : decode cX5_copyState 47 = .ok (.iastore, 1) := by decide +kernel
theorem dX5_copyState_48 : decode cX5_copyState 48 = .ok (.iinc 2 1, 3) := by decide +kernel
theorem dX5_copyState_51 : decode cX5_copyState 51 = .ok (.goto (-20), 3) := by decide +kernel
theorem dX5_copyState_54 : decode cX5_copyState 54 = .ok (.iconst 0, 1) := by decide +kernel
theorem dX5_copyState_55 : decode cX5_copyState 55 = .ok (.istore_n 2, 1) := by decide +kernel
theorem dX5_copyState_56 : decode cX5_copyState 56 = .ok (.iload_n 2, 1) := by decide +kernel
theorem dX5_copyState_57 : decode cX5_copyState 57 = .ok (.iconst 2, 1) := by decide +kernel
theorem dX5_copyState_58 : decode cX5_copyState 58 = .ok (.if_icmp .ge 21, 3) := by decide +kernel
theorem dX5_copyState_61 : decode cX5_copyState 61 = .ok (.aload_n 0, 1) := by decide +kernel
theorem dX5_copyState_62 : decode cX5_copyState 62 = .ok (.getfield 21, 3) := by decide +kernel
theorem dX5_copyState_65 : decode cX5_copyState 65 = .ok (.iload_n 2, 1) := by decide +kernel
theorem dX5_copyState_66 : decode cX5_copyState 66 = .ok (.aload_n 1, 1) := by decide +kernel
theorem dX5_copyState_67 : decode cX5_copyState 67 = .ok (.getfield 21, 3) := by decide +kernel
theorem dX5_copyState_70 : decode cX5_copyState 70 = .ok (.iload_n 2, 1) := by decide +kernel
theorem dX5_copyState_71 : decode cX5_copyState 71 = .ok (.baload, 1) := by decide +kernel
theorem dX5_copyState_72 : decode cX5_copyState 72 = .ok (.bastore, 1) := by decide +kernel
theorem dX5_copyState_73 : decode cX5_copyState 73 = .ok (.iinc 2 1, 3) := by decide +kernel
theorem dX5_copyState_76 : decode cX5_copyState 76 = .ok (.goto (-20), 3) := by decide +kernel
theorem dX5_copyState_79 : decode cX5_copyState 79 = .ok (.aload_n 0, 1) := by decide +kernel
theorem dX5_copyState_80 : decode cX5_copyState 80 = .ok (.aload_n 1, 1) := by decide +kernel
theorem dX5_copyState_81 : decode cX5_copyState 81 = .ok (.getfield 34, 3) := by decide +kernel
theorem dX5_copyState_84 : decode cX5_copyState 84 = .ok (.putfield 34, 3) := by decide +kernel
theorem dX5_copyState_87 : decode cX5_copyState 87 = .ok (.aload_n 0, 1) := by decide +kernel
theorem dX5_copyState_88 : decode cX5_copyState 88 = .ok (.aload_n 1, 1) := by decide +kernel
theorem dX5_copyState_89 : decode cX5_copyState 89 = .ok (.getfield 25, 3) := by decide +kernel
theorem dX5_copyState_92 : decode cX5_copyState 92 = .ok (.putfield 25, 3) := by decide +kernel
theorem dX5_copyState_95 : decode cX5_copyState 95 = .ok (.aload_n 0, 1) := by decide +kernel
theorem dX5_copyState_96 : decode cX5_copyState 96 = .ok (.aload_n 1, 1) := by decide +kernel
theorem dX5_copyState_97 : decode cX5_copyState 97 = .ok (.getfield 37, 3) := by decide +kernel
theorem dX5_copyState_100 : decode cX5_copyState 100 = .ok (.putfield 37, 3) := by decide +kernel
theorem dX5_copyState_103 : decode cX5_copyState 103 = .ok (.aload_n 0, 1) := by decide +kernel
theorem dX5_copyState_104 : decode cX5_copyState 104 = .ok (.aload_n 1, 1) := by decide +kernel
theorem dX5_copyState_105 : decode cX5_copyState 105 = .ok (.getfield 40, 3) := by decide +kernel
theorem dX5_copyState_108 : decode cX5_copyState 108 = .ok (.putfield 40, 3) := by decide +kernel
theorem dX5_copyState_111 : decode cX5_copyState 111 = .ok (.aload_n 0, 1) := by decide +kernel
theorem dX5_copyState_112 : decode cX5_copyState 112 = .ok (.aload_n 1, 1) := by decide +kernel
theorem dX5_copyState_113 : decode cX5_copyState 113 = .ok (.getfield 43, 3) := by decide +kernel
theorem dX5_copyState_116 : decode cX5_copyState 116 = .ok (.putfield 43, 3) := by decide +kernel
theorem dX5_copyState_119 : decode cX5_copyState 119 = .ok (.aload_n 0, 1) := by decide +kernel
theorem dX5_copyState_120 : decode cX5_copyState 120 = .ok (.aload_n 1, 1) := by decide +kernel
theorem dX5_copyState_121 : decode cX5_copyState 121 = .ok (.getfield 46, 3) := by decide +kernel
theorem dX5_copyState_124 : decode cX5_copyState 124 = .ok (.putfield 46, 3) := by decide +kernel
theorem dX5_copyState_127 : decode cX5_copyState 127 = .ok (.aload_n 0, 1) := by decide +kernel
theorem dX5_copyState_128 : decode cX5_copyState 128 = .ok (.aload_n 1, 1) := by decide +kernel
theorem dX5_copyState_129 : decode cX5_copyState 129 = .ok (.getfield 49, 3) := by decide +kernel
theorem dX5_copyState_132 : decode cX5_copyState 132 = .ok (.putfield 49, 3) := by decide +kernel
theorem dX5_copyState_135 : decode cX5_copyState 135 = .ok (.return_, 1) := by decide +kernel
theorem dX5_drawn_0 : decode cX5_drawn 0 = .ok (.aload_n 0, 1) := by decide +kernel
theorem dX5_drawn_1 : decode cX5_drawn 1 = .ok (.bipush 75, 2) := by decide +kernel
theorem dX5_drawn_3 : decode cX5_drawn 3 = .ok (.aload_n 0, 1) := by decide +kernel
theorem dX5_drawn_4 : decode cX5_drawn 4 = .ok (.getfield 25, 3) := by decide +kernel
theorem dX5_drawn_7 : decode cX5_drawn 7 = .ok (.imul, 1) := by decide +kernel
theorem dX5_drawn_8 : decode cX5_drawn 8 = .ok (.bipush 74, 2) := by decide +kernel
theorem dX5_drawn_10 : decode cX5_drawn 10 = .ok (.iadd, 1) := by decide +kernel
theorem dX5_drawn_11 : decode cX5_drawn 11 = .ok (.ldc 68, 2) := by decide +kernel
theorem dX5_drawn_13 : decode cX5_drawn 13 = .ok (.irem, 1) := by decide +kernel
theorem dX5_drawn_14 : decode cX5_drawn 14 = .ok (.putfield 25, 3) := by decide +kernel
theorem dX5_drawn_17 : decode cX5_drawn 17 = .ok (.aload_n 0, 1) := by decide +kernel
theorem dX5_drawn_18 : decode cX5_drawn 18 = .ok (.getfield 25, 3) := by decide +kernel
theorem dX5_drawn_21 : decode cX5_drawn 21 = .ok (.bipush 16, 2) := by decide +kernel
theorem dX5_drawn_23 : decode cX5_drawn 23 = .ok (.idiv, 1) := by decide +kernel
theorem dX5_drawn_24 : decode cX5_drawn 24 = .ok (.ireturn, 1) := by decide +kernel
theorem dX5_figure_0 : decode cX5_figure 0 = .ok (.iload_n 1, 1) := by decide +kernel
theorem dX5_figure_1 : decode cX5_figure 1 = .ok (.tableswitch 167 0 13 #[71, 76, 81, 86, 91, 106, 121, 126, 131, 136, 141, 146, 153, 160], 71) := by decide +kernel
theorem dX5_figure_72 : decode cX5_figure 72 = .ok (.aload_n 0, 1) := by decide +kernel
theorem dX5_figure_73 : decode cX5_figure 73 = .ok (.getfield 37, 3) := by decide +kernel
theorem dX5_figure_76 : decode cX5_figure 76 = .ok (.ireturn, 1) := by decide +kernel
theorem dX5_figure_77 : decode cX5_figure 77 = .ok (.aload_n 0, 1) := by decide +kernel
theorem dX5_figure_78 : decode cX5_figure 78 = .ok (.getfield 34, 3) := by decide +kernel
theorem dX5_figure_81 : decode cX5_figure 81 = .ok (.ireturn, 1) := by decide +kernel
theorem dX5_figure_82 : decode cX5_figure 82 = .ok (.aload_n 0, 1) := by decide +kernel
theorem dX5_figure_83 : decode cX5_figure 83 = .ok (.invokevirtual 192, 3) := by decide +kernel
theorem dX5_figure_86 : decode cX5_figure 86 = .ok (.ireturn, 1) := by decide +kernel
theorem dX5_figure_87 : decode cX5_figure 87 = .ok (.aload_n 0, 1) := by decide +kernel
theorem dX5_figure_88 : decode cX5_figure 88 = .ok (.invokevirtual 195, 3) := by decide +kernel
theorem dX5_figure_91 : decode cX5_figure 91 = .ok (.ireturn, 1) := by decide +kernel
theorem dX5_figure_92 : decode cX5_figure 92 = .ok (.aload_n 0, 1) := by decide +kernel
theorem dX5_figure_93 : decode cX5_figure 93 = .ok (.getfield 21, 3) := by decide +kernel
theorem dX5_figure_96 : decode cX5_figure 96 = .ok (.iconst 0, 1) := by decide +kernel
theorem dX5_figure_97 : decode cX5_figure 97 = .ok (.baload, 1) := by decide +kernel
theorem dX5_figure_98 : decode cX5_figure 98 = .ok (.ifCond .eq 7, 3) := by decide +kernel
theorem dX5_figure_101 : decode cX5_figure 101 = .ok (.iconst 1, 1) := by decide +kernel
theorem dX5_figure_102 : decode cX5_figure 102 = .ok (.goto 4, 3) := by decide +kernel
theorem dX5_figure_105 : decode cX5_figure 105 = .ok (.iconst 0, 1) := by decide +kernel
theorem dX5_figure_106 : decode cX5_figure 106 = .ok (.ireturn, 1) := by decide +kernel
theorem dX5_figure_107 : decode cX5_figure 107 = .ok (.aload_n 0, 1) := by decide +kernel
theorem dX5_figure_108 : decode cX5_figure 108 = .ok (.getfield 21, 3) := by decide +kernel
theorem dX5_figure_111 : decode cX5_figure 111 = .ok (.iconst 1, 1) := by decide +kernel
theorem dX5_figure_112 : decode cX5_figure 112 = .ok (.baload, 1) := by decide +kernel
theorem dX5_figure_113 : decode cX5_figure 113 = .ok (.ifCond .eq 7, 3) := by decide +kernel
theorem dX5_figure_116 : decode cX5_figure 116 = .ok (.iconst 1, 1) := by decide +kernel
theorem dX5_figure_117 : decode cX5_figure 117 = .ok (.goto 4, 3) := by decide +kernel
theorem dX5_figure_120 : decode cX5_figure 120 = .ok (.iconst 0, 1) := by decide +kernel
theorem dX5_figure_121 : decode cX5_figure 121 = .ok (.ireturn, 1) := by decide +kernel
theorem dX5_figure_122 : decode cX5_figure 122 = .ok (.aload_n 0, 1) := by decide +kernel
theorem dX5_figure_123 : decode cX5_figure 123 = .ok (.getfield 40, 3) := by decide +kernel
theorem dX5_figure_126 : decode cX5_figure 126 = .ok (.ireturn, 1) := by decide +kernel
theorem dX5_figure_127 : decode cX5_figure 127 = .ok (.aload_n 0, 1) := by decide +kernel
theorem dX5_figure_128 : decode cX5_figure 128 = .ok (.getfield 43, 3) := by decide +kernel
theorem dX5_figure_131 : decode cX5_figure 131 = .ok (.ireturn, 1) := by decide +kernel
theorem dX5_figure_132 : decode cX5_figure 132 = .ok (.aload_n 0, 1) := by decide +kernel
theorem dX5_figure_133 : decode cX5_figure 133 = .ok (.getfield 46, 3) := by decide +kernel
theorem dX5_figure_136 : decode cX5_figure 136 = .ok (.ireturn, 1) := by decide +kernel
theorem dX5_figure_137 : decode cX5_figure 137 = .ok (.aload_n 0, 1) := by decide +kernel
theorem dX5_figure_138 : decode cX5_figure 138 = .ok (.getfield 49, 3) := by decide +kernel
theorem dX5_figure_141 : decode cX5_figure 141 = .ok (.ireturn, 1) := by decide +kernel
theorem dX5_figure_142 : decode cX5_figure 142 = .ok (.aload_n 0, 1) := by decide +kernel
theorem dX5_figure_143 : decode cX5_figure 143 = .ok (.getfield 25, 3) := by decide +kernel
theorem dX5_figure_146 : decode cX5_figure 146 = .ok (.ireturn, 1) := by decide +kernel
theorem dX5_figure_147 : decode cX5_figure 147 = .ok (.aload_n 0, 1) := by decide +kernel
theorem dX5_figure_148 : decode cX5_figure 148 = .ok (.getfield 17, 3) := by decide +kernel
theorem dX5_figure_151 : decode cX5_figure 151 = .ok (.iconst 0, 1) := by decide +kernel
theorem dX5_figure_152 : decode cX5_figure 152 = .ok (.iaload, 1) := by decide +kernel
theorem dX5_figure_153 : decode cX5_figure 153 = .ok (.ireturn, 1) := by decide +kernel
theorem dX5_figure_154 : decode cX5_figure 154 = .ok (.aload_n 0, 1) := by decide +kernel
theorem dX5_figure_155 : decode cX5_figure 155 = .ok (.getfield 17, 3) := by decide +kernel
theorem dX5_figure_158 : decode cX5_figure 158 = .ok (.iconst 1, 1) := by decide +kernel
theorem dX5_figure_159 : decode cX5_figure 159 = .ok (.iaload, 1) := by decide +kernel
theorem dX5_figure_160 : decode cX5_figure 160 = .ok (.ireturn, 1) := by decide +kernel
theorem dX5_figure_161 : decode cX5_figure 161 = .ok (.aload_n 0, 1) := by decide +kernel
theorem dX5_figure_162 : decode cX5_figure 162 = .ok (.getfield 17, 3) := by decide +kernel
theorem dX5_figure_165 : decode cX5_figure 165 = .ok (.iconst 2, 1) := by decide +kernel
theorem dX5_figure_166 : decode cX5_figure 166 = .ok (.iaload, 1) := by decide +kernel
theorem dX5_figure_167 : decode cX5_figure 167 = .ok (.ireturn, 1) := by decide +kernel
theorem dX5_figure_168 : decode cX5_figure 168 = .ok (.bipush (-2), 2) := by decide +kernel
theorem dX5_figure_170 : decode cX5_figure 170 = .ok (.ireturn, 1) := by decide +kernel
theorem dX5_figureOfHalf_0 : decode cX5_figureOfHalf 0 = .ok (.aload_n 0, 1) := by decide +kernel
theorem dX5_figureOfHalf_1 : decode cX5_figureOfHalf 1 = .ok (.iload_n 1, 1) := by decide +kernel
theorem dX5_figureOfHalf_2 : decode cX5_figureOfHalf 2 = .ok (.iload_n 2, 1) := by decide +kernel
theorem dX5_figureOfHalf_3 : decode cX5_figureOfHalf 3 = .ok (.invokevirtual 127, 3) := by decide +kernel
theorem dX5_figureOfHalf_6 : decode cX5_figureOfHalf 6 = .ok (.ifCond .ne 5, 3) := by decide +kernel
theorem dX5_figureOfHalf_9 : decode cX5_figureOfHalf 9 = .ok (.iconst (-1), 1) := by decide +kernel
theorem dX5_figureOfHalf_10 : decode cX5_figureOfHalf 10 = .ok (.ireturn, 1) := by decide +kernel
theorem dX5_figureOfHalf_11 : decode cX5_figureOfHalf 11 = .ok (.aload_n 0, 1) := by decide +kernel
theorem dX5_figureOfHalf_12 : decode cX5_figureOfHalf 12 = .ok (.getfield 11, 3) := by decide +kernel
theorem dX5_figureOfHalf_15 : decode cX5_figureOfHalf 15 = .ok (.iload_n 2, 1) := by decide +kernel
theorem dX5_figureOfHalf_16 : decode cX5_figureOfHalf 16 = .ok (.aaload, 1) := by decide +kernel
theorem dX5_figureOfHalf_17 : decode cX5_figureOfHalf 17 = .ok (.iload_n 1, 1) := by decide +kernel
theorem dX5_figureOfHalf_18 : decode cX5_figureOfHalf 18 = .ok (.invokevirtual 134, 3) := by decide +kernel
theorem dX5_figureOfHalf_21 : decode cX5_figureOfHalf 21 = .ok (.astore 4, 2) := by decide +kernel
theorem dX5_figureOfHalf_23 : decode cX5_figureOfHalf 23 = .ok (.iload_n 3, 1) := by decide +kernel
theorem dX5_figureOfHalf_24 : decode cX5_figureOfHalf 24 = .ok (.tableswitch 98 0 7 #[48, 56, 62, 68, 74, 80, 86, 92], 48) := by decide +kernel
theorem dX5_figureOfHalf_72 : decode cX5_figureOfHalf 72 = .ok (.aload 4, 2) := by decide +kernel
theorem dX5_figureOfHalf_74 : decode cX5_figureOfHalf 74 = .ok (.getfield 87, 3) := by decide +kernel
theorem dX5_figureOfHalf_77 : decode cX5_figureOfHalf 77 = .ok (.iconst 0, 1) := by decide +kernel
theorem dX5_figureOfHalf_78 : decode cX5_figureOfHalf 78 = .ok (.iaload, 1) := by decide +kernel
theorem dX5_figureOfHalf_79 : decode cX5_figureOfHalf 79 = .ok (.ireturn, 1) := by decide +kernel
theorem dX5_figureOfHalf_80 : decode cX5_figureOfHalf 80 = .ok (.aload 4, 2) := by decide +kernel
theorem dX5_figureOfHalf_82 : decode cX5_figureOfHalf 82 = .ok (.getfield 112, 3) := by decide +kernel
theorem dX5_figureOfHalf_85 : decode cX5_figureOfHalf 85 = .ok (.ireturn, 1) := by decide +kernel
theorem dX5_figureOfHalf_86 : decode cX5_figureOfHalf 86 = .ok (.aload 4, 2) := by decide +kernel
theorem dX5_figureOfHalf_88 : decode cX5_figureOfHalf 88 = .ok (.getfield 102, 3) := by decide +kernel
theorem dX5_figureOfHalf_91 : decode cX5_figureOfHalf 91 = .ok (.ireturn, 1) := by decide +kernel
theorem dX5_figureOfHalf_92 : decode cX5_figureOfHalf 92 = .ok (.aload 4, 2) := by decide +kernel
theorem dX5_figureOfHalf_94 : decode cX5_figureOfHalf 94 = .ok (.getfield 105, 3) := by decide +kernel
theorem dX5_figureOfHalf_97 : decode cX5_figureOfHalf 97 = .ok (.ireturn, 1) := by decide +kernel
theorem dX5_figureOfHalf_98 : decode cX5_figureOfHalf 98 = .ok (.aload 4, 2) := by decide +kernel
theorem dX5_figureOfHalf_100 : decode cX5_figureOfHalf 100 = .ok (.getfield 138, 3) := by decide +kernel
theorem dX5_figureOfHalf_103 : decode cX5_figureOfHalf 103 = .ok (.ireturn, 1) := by decide +kernel
theorem dX5_figureOfHalf_104 : decode cX5_figureOfHalf 104 = .ok (.aload 4, 2) := by decide +kernel
theorem dX5_figureOfHalf_106 : decode cX5_figureOfHalf 106 = .ok (.getfield 141, 3) := by decide +kernel
theorem dX5_figureOfHalf_109 : decode cX5_figureOfHalf 109 = .ok (.ireturn, 1) := by decide +kernel
theorem dX5_figureOfHalf_110 : decode cX5_figureOfHalf 110 = .ok (.aload 4, 2) := by decide +kernel
theorem dX5_figureOfHalf_112 : decode cX5_figureOfHalf 112 = .ok (.invokevirtual 170, 3) := by decide +kernel
theorem dX5_figureOfHalf_115 : decode cX5_figureOfHalf 115 = .ok (.ireturn, 1) := by decide +kernel
theorem dX5_figureOfHalf_116 : decode cX5_figureOfHalf 116 = .ok (.aload 4, 2) := by decide +kernel
theorem dX5_figureOfHalf_118 : decode cX5_figureOfHalf 118 = .ok (.invokevirtual 173, 3) := by decide +kernel
theorem dX5_figureOfHalf_121 : decode cX5_figureOfHalf 121 = .ok (.ireturn, 1) := by decide +kernel
theorem dX5_figureOfHalf_122 : decode cX5_figureOfHalf 122 = .ok (.bipush (-2), 2) := by decide +kernel
theorem dX5_figureOfHalf_124 : decode cX5_figureOfHalf 124 = .ok (.ireturn, 1) := by decide +kernel
theorem dX5_figureOfOldVersion_0 : decode cX5_figureOfOldVersion 0 = .ok (.aload_n 0, 1) := by decide +kernel
theorem dX5_figureOfOldVersion_1 : decode cX5_figureOfOldVersion 1 = .ok (.iload_n 1, 1) := by decide +kernel
theorem dX5_figureOfOldVersion_2 : decode cX5_figureOfOldVersion 2 = .ok (.invokevirtual 56, 3) := by decide +kernel
theorem dX5_figureOfOldVersion_5 : decode cX5_figureOfOldVersion 5 = .ok (.ifCond .ne 5, 3) := by decide +kernel
theorem dX5_figureOfOldVersion_8 : decode cX5_figureOfOldVersion 8 = .ok (.iconst (-1), 1) := by decide +kernel
theorem dX5_figureOfOldVersion_9 : decode cX5_figureOfOldVersion 9 = .ok (.ireturn, 1) := by decide +kernel
theorem dX5_figureOfOldVersion_10 : decode cX5_figureOfOldVersion 10 = .ok (.aload_n 0, 1) := by decide +kernel
theorem dX5_figureOfOldVersion_11 : decode cX5_figureOfOldVersion 11 = .ok (.getfield 11, 3) := by decide +kernel
theorem dX5_figureOfOldVersion_14 : decode cX5_figureOfOldVersion 14 = .ok (.iload_n 1, 1) := by decide +kernel
theorem dX5_figureOfOldVersion_15 : decode cX5_figureOfOldVersion 15 = .ok (.aaload, 1) := by decide +kernel
theorem dX5_figureOfOldVersion_16 : decode cX5_figureOfOldVersion 16 = .ok (.astore 4, 2) := by decide +kernel
theorem dX5_figureOfOldVersion_18 : decode cX5_figureOfOldVersion 18 = .ok (.iload_n 2, 1) := by decide +kernel
theorem dX5_figureOfOldVersion_19 : decode cX5_figureOfOldVersion 19 = .ok (.ifCond .lt 12, 3) := by decide +kernel
theorem dX5_figureOfOldVersion_22 : decode cX5_figureOfOldVersion 22 = .ok (.iload_n 2, 1) := by decide +kernel
theorem dX5_figureOfOldVersion_23 : decode cX5_figureOfOldVersion 23 = .ok (.aload 4, 2) := by decide +kernel
theorem dX5_figureOfOldVersion_25 : decode cX5_figureOfOldVersion 25 = .ok (.getfield 124, 3) := by decide +kernel
theorem dX5_figureOfOldVersion_28 : decode cX5_figureOfOldVersion 28 = .ok (.if_icmp .lt 5, 3) := by decide +kernel
theorem dX5_figureOfOldVersion_31 : decode cX5_figureOfOldVersion 31 = .ok (.iconst (-1), 1) := by decide +kernel
theorem dX5_figureOfOldVersion_32 : decode cX5_figureOfOldVersion 32 = .ok (.ireturn, 1) := by decide +kernel
theorem dX5_figureOfOldVersion_33 : decode cX5_figureOfOldVersion 33 = .ok (.iload_n 2, 1) := by decide +kernel
theorem dX5_figureOfOldVersion_34 : decode cX5_figureOfOldVersion 34 = .ok (.iconst 1, 1) := by decide +kernel
theorem dX5_figureOfOldVersion_35 : decode cX5_figureOfOldVersion 35 = .ok (.iadd, 1) := by decide +kernel
theorem dX5_figureOfOldVersion_36 : decode cX5_figureOfOldVersion 36 = .ok (.istore 5, 2) := by decide +kernel
theorem dX5_figureOfOldVersion_38 : decode cX5_figureOfOldVersion 38 = .ok (.iload_n 3, 1) := by decide +kernel
theorem dX5_figureOfOldVersion_39 : decode cX5_figureOfOldVersion 39 = .ok (.tableswitch 70 0 3 #[29, 38, 50, 62], 29) := by decide +kernel
theorem dX5_figureOfOldVersion_68 : decode cX5_figureOfOldVersion 68 = .ok (.aload 4, 2) := by decide +kernel
theorem dX5_figureOfOldVersion_70 : decode cX5_figureOfOldVersion 70 = .ok (.getfield 59, 3) := by decide +kernel
theorem dX5_figureOfOldVersion_73 : decode cX5_figureOfOldVersion 73 = .ok (.iload 5, 2) := by decide +kernel
theorem dX5_figureOfOldVersion_75 : decode cX5_figureOfOldVersion 75 = .ok (.isub, 1) := by decide +kernel
theorem dX5_figureOfOldVersion_76 : decode cX5_figureOfOldVersion 76 = .ok (.ireturn, 1) := by decide +kernel
theorem dX5_figureOfOldVersion_77 : decode cX5_figureOfOldVersion 77 = .ok (.aload 4, 2) := by decide +kernel
theorem dX5_figureOfOldVersion_79 : decode cX5_figureOfOldVersion 79 = .ok (.getfield 80, 3) := by decide +kernel
theorem dX5_figureOfOldVersion_82 : decode cX5_figureOfOldVersion 82 = .ok (.getfield 87, 3) := by decide +kernel
theorem dX5_figureOfOldVersion_85 : decode cX5_figureOfOldVersion 85 = .ok (.iload 5, 2) := by decide +kernel
theorem dX5_figureOfOldVersion_87 : decode cX5_figureOfOldVersion 87 = .ok (.iaload, 1) := by decide +kernel
theorem dX5_figureOfOldVersion_88 : decode cX5_figureOfOldVersion 88 = .ok (.ireturn, 1) := by decide +kernel
theorem dX5_figureOfOldVersion_89 : decode cX5_figureOfOldVersion 89 = .ok (.aload 4, 2) := by decide +kernel
theorem dX5_figureOfOldVersion_91 : decode cX5_figureOfOldVersion 91 = .ok (.getfield 84, 3) := by decide +kernel
theorem dX5_figureOfOldVersion_94 : decode cX5_figureOfOldVersion 94 = .ok (.getfield 87, 3) := by decide +kernel
theorem dX5_figureOfOldVersion_97 : decode cX5_figureOfOldVersion 97 = .ok (.iload 5, 2) := by decide +kernel
theorem dX5_figureOfOldVersion_99 : decode cX5_figureOfOldVersion 99 = .ok (.iaload, 1) := by decide +kernel
theorem dX5_figureOfOldVersion_100 : decode cX5_figureOfOldVersion 100 = .ok (.ireturn, 1) := by decide +kernel
theorem dX5_figureOfOldVersion_101 : decode cX5_figureOfOldVersion 101 = .ok (.aload 4, 2) := by decide +kernel
theorem dX5_figureOfOldVersion_103 : decode cX5_figureOfOldVersion 103 = .ok (.iload 5, 2) := by decide +kernel
theorem dX5_figureOfOldVersion_105 : decode cX5_figureOfOldVersion 105 = .ok (.invokevirtual 189, 3) := by decide +kernel
theorem dX5_figureOfOldVersion_108 : decode cX5_figureOfOldVersion 108 = .ok (.ireturn, 1) := by decide +kernel
theorem dX5_figureOfOldVersion_109 : decode cX5_figureOfOldVersion 109 = .ok (.bipush (-2), 2) := by decide +kernel
theorem dX5_figureOfOldVersion_111 : decode cX5_figureOfOldVersion 111 = .ok (.ireturn, 1) := by decide +kernel
theorem dX5_figureOfSecret_0 : decode cX5_figureOfSecret 0 = .ok (.aload_n 0, 1) := by decide +kernel
theorem dX5_figureOfSecret_1 : decode cX5_figureOfSecret 1 = .ok (.iload_n 1, 1) := by decide +kernel
theorem dX5_figureOfSecret_2 : decode cX5_figureOfSecret 2 = .ok (.invokevirtual 56, 3) := by decide +kernel
theorem dX5_figureOfSecret_5 : decode cX5_figureOfSecret 5 = .ok (.ifCond .ne 5, 3) := by decide +kernel
theorem dX5_figureOfSecret_8 : decode cX5_figureOfSecret 8 = .ok (.iconst (-1), 1) := by decide +kernel
theorem dX5_figureOfSecret_9 : decode cX5_figureOfSecret 9 = .ok (.ireturn, 1) := by decide +kernel
theorem dX5_figureOfSecret_10 : decode cX5_figureOfSecret 10 = .ok (.aload_n 0, 1) := by decide +kernel
theorem dX5_figureOfSecret_11 : decode cX5_figureOfSecret 11 = .ok (.getfield 11, 3) := by decide +kernel
theorem dX5_figureOfSecret_14 : decode cX5_figureOfSecret 14 = .ok (.iload_n 1, 1) := by decide +kernel
theorem dX5_figureOfSecret_15 : decode cX5_figureOfSecret 15 = .ok (.aaload, 1) := by decide +kernel
theorem dX5_figureOfSecret_16 : decode cX5_figureOfSecret 16 = .ok (.astore_n 3, 1) := by decide +kernel
theorem dX5_figureOfSecret_17 : decode cX5_figureOfSecret 17 = .ok (.iload_n 2, 1) := by decide +kernel
theorem dX5_figureOfSecret_18 : decode cX5_figureOfSecret 18 = .ok (.tableswitch 106 0 7 #[46, 51, 56, 73, 78, 83, 96, 101], 46) := by decide +kernel
theorem dX5_figureOfSecret_64 : decode cX5_figureOfSecret 64 = .ok (.aload_n 3, 1) := by decide +kernel
theorem dX5_figureOfSecret_65 : decode cX5_figureOfSecret 65 = .ok (.getfield 59, 3) := by decide +kernel
theorem dX5_figureOfSecret_68 : decode cX5_figureOfSecret 68 = .ok (.ireturn, 1) := by decide +kernel
theorem dX5_figureOfSecret_69 : decode cX5_figureOfSecret 69 = .ok (.aload_n 3, 1) := by decide +kernel
theorem dX5_figureOfSecret_70 : decode cX5_figureOfSecret 70 = .ok (.getfield 124, 3) := by decide +kernel
theorem dX5_figureOfSecret_73 : decode cX5_figureOfSecret 73 = .ok (.ireturn, 1) := by decide +kernel
theorem dX5_figureOfSecret_74 : decode cX5_figureOfSecret 74 = .ok (.aload_n 3, 1) := by decide +kernel
theorem dX5_figureOfSecret_75 : decode cX5_figureOfSecret 75 = .ok (.getfield 164, 3) := by decide +kernel
theorem dX5_figureOfSecret_78 : decode cX5_figureOfSecret 78 = .ok (.ifCond .le 10, 3) := by decide +kernel
theorem dX5_figureOfSecret_81 : decode cX5_figureOfSecret 81 = .ok (.aload_n 3, 1) := by decide +kernel
theorem dX5_figureOfSecret_82 : decode cX5_figureOfSecret 82 = .ok (.getfield 176, 3) := by decide +kernel
theorem dX5_figureOfSecret_85 : decode cX5_figureOfSecret 85 = .ok (.goto 5, 3) := by decide +kernel
theorem dX5_figureOfSecret_88 : decode cX5_figureOfSecret 88 = .ok (.bipush (-6), 2) := by decide +kernel
theorem dX5_figureOfSecret_90 : decode cX5_figureOfSecret 90 = .ok (.ireturn, 1) := by decide +kernel
theorem dX5_figureOfSecret_91 : decode cX5_figureOfSecret 91 = .ok (.aload_n 3, 1) := by decide +kernel
theorem dX5_figureOfSecret_92 : decode cX5_figureOfSecret 92 = .ok (.getfield 164, 3) := by decide +kernel
theorem dX5_figureOfSecret_95 : decode cX5_figureOfSecret 95 = .ok (.ireturn, 1) := by decide +kernel
theorem dX5_figureOfSecret_96 : decode cX5_figureOfSecret 96 = .ok (.aload_n 3, 1) := by decide +kernel
theorem dX5_figureOfSecret_97 : decode cX5_figureOfSecret 97 = .ok (.getfield 150, 3) := by decide +kernel
theorem dX5_figureOfSecret_100 : decode cX5_figureOfSecret 100 = .ok (.ireturn, 1) := by decide +kernel
theorem dX5_figureOfSecret_101 : decode cX5_figureOfSecret 101 = .ok (.aload_n 3, 1) := by decide +kernel
theorem dX5_figureOfSecret_102 : decode cX5_figureOfSecret 102 = .ok (.getfield 179, 3) := by decide +kernel
theorem dX5_figureOfSecret_105 : decode cX5_figureOfSecret 105 = .ok (.ifCond .eq 7, 3) := by decide +kernel
theorem dX5_figureOfSecret_108 : decode cX5_figureOfSecret 108 = .ok (.iconst 1, 1) := by decide +kernel
theorem dX5_figureOfSecret_109 : decode cX5_figureOfSecret 109 = .ok (.goto 4, 3) := by decide +kernel
theorem dX5_figureOfSecret_112 : decode cX5_figureOfSecret 112 = .ok (.iconst 0, 1) := by decide +kernel
theorem dX5_figureOfSecret_113 : decode cX5_figureOfSecret 113 = .ok (.ireturn, 1) := by decide +kernel
theorem dX5_figureOfSecret_114 : decode cX5_figureOfSecret 114 = .ok (.aload_n 3, 1) := by decide +kernel
theorem dX5_figureOfSecret_115 : decode cX5_figureOfSecret 115 = .ok (.getfield 183, 3) := by decide +kernel
theorem dX5_figureOfSecret_118 : decode cX5_figureOfSecret 118 = .ok (.ireturn, 1) := by decide +kernel
theorem dX5_figureOfSecret_119 : decode cX5_figureOfSecret 119 = .ok (.aload_n 3, 1) := by decide +kernel
theorem dX5_figureOfSecret_120 : decode cX5_figureOfSecret 120 = .ok (.getfield 186, 3) := by decide +kernel
theorem dX5_figureOfSecret_123 : decode cX5_figureOfSecret 123 = .ok (.ireturn, 1) := by decide +kernel
theorem dX5_figureOfSecret_124 : decode cX5_figureOfSecret 124 = .ok (.bipush (-2), 2) := by decide +kernel
theorem dX5_figureOfSecret_126 : decode cX5_figureOfSecret 126 = .ok (.ireturn, 1) := by decide +kernel
theorem dX5_givePartToThief_0 : decode cX5_givePartToThief 0 = .ok (.aload_n 0, 1) := by decide +kernel
theorem dX5_givePartToThief_1 : decode cX5_givePartToThief 1 = .ok (.iload_n 1, 1) := by decide +kernel
theorem dX5_givePartToThief_2 : decode cX5_givePartToThief 2 = .ok (.iload_n 2, 1) := by decide +kernel
theorem dX5_givePartToThief_3 : decode cX5_givePartToThief 3 = .ok (.invokevirtual 127, 3) := by decide +kernel
theorem dX5_givePartToThief_6 : decode cX5_givePartToThief 6 = .ok (.ifCond .ne 5, 3) := by decide +kernel
theorem dX5_givePartToThief_9 : decode cX5_givePartToThief 9 = .ok (.iconst (-1), 1) := by decide +kernel
theorem dX5_givePartToThief_10 : decode cX5_givePartToThief 10 = .ok (.ireturn, 1) := by decide +kernel
theorem dX5_givePartToThief_11 : decode cX5_givePartToThief 11 = .ok (.aload_n 0, 1) := by decide +kernel
theorem dX5_givePartToThief_12 : decode cX5_givePartToThief 12 = .ok (.getfield 11, 3) := by decide +kernel
theorem dX5_givePartToThief_15 : decode cX5_givePartToThief 15 = .ok (.iload_n 2, 1) := by decide +kernel
theorem dX5_givePartToThief_16 : decode cX5_givePartToThief 16 = .ok (.aaload, 1) := by decide +kernel
theorem dX5_givePartToThief_17 : decode cX5_givePartToThief 17 = .ok (.astore 4, 2) := by decide +kernel
theorem dX5_givePartToThief_19 : decode cX5_givePartToThief 19 = .ok (.iload_n 3, 1) := by decide +kernel
theorem dX5_givePartToThief_20 : decode cX5_givePartToThief 20 = .ok (.aload 4, 2) := by decide +kernel
theorem dX5_givePartToThief_22 : decode cX5_givePartToThief 22 = .ok (.getfield 59, 3) := by decide +kernel
theorem dX5_givePartToThief_25 : decode cX5_givePartToThief 25 = .ok (.if_icmp .gt 18, 3) := by decide +kernel
theorem dX5_givePartToThief_28 : decode cX5_givePartToThief 28 = .ok (.iload_n 3, 1) := by decide +kernel
theorem dX5_givePartToThief_29 : decode cX5_givePartToThief 29 = .ok (.aload 4, 2) := by decide +kernel
theorem dX5_givePartToThief_31 : decode cX5_givePartToThief 31 = .ok (.getfield 59, 3) := by decide +kernel
theorem dX5_givePartToThief_34 : decode cX5_givePartToThief 34 = .ok (.aload 4, 2) := by decide +kernel
theorem dX5_givePartToThief_36 : decode cX5_givePartToThief 36 = .ok (.getfield 124, 3) := by decide +kernel
theorem dX5_givePartToThief_39 : decode cX5_givePartToThief 39 = .ok (.isub, 1) := by decide +kernel
theorem dX5_givePartToThief_40 : decode cX5_givePartToThief 40 = .ok (.if_icmp .ge 5, 3) := by decide +kernel
theorem dX5_givePartToThief_43 : decode cX5_givePartToThief 43 = .ok (.iconst (-1), 1) := by decide +kernel
theorem dX5_givePartToThief_44 : decode cX5_givePartToThief 44 = .ok (.ireturn, 1) := by decide +kernel
theorem dX5_givePartToThief_45 : decode cX5_givePartToThief 45 = .ok (.aload 4, 2) := by decide +kernel
theorem dX5_givePartToThief_47 : decode cX5_givePartToThief 47 = .ok (.iload_n 1, 1) := by decide +kernel
theorem dX5_givePartToThief_48 : decode cX5_givePartToThief 48 = .ok (.aload 4, 2) := by decide +kernel
theorem dX5_givePartToThief_50 : decode cX5_givePartToThief 50 = .ok (.getfield 59, 3) := by decide +kernel
theorem dX5_givePartToThief_53 : decode cX5_givePartToThief 53 = .ok (.iload_n 3, 1) := by decide +kernel
theorem dX5_givePartToThief_54 : decode cX5_givePartToThief 54 = .ok (.isub, 1) := by decide +kernel
theorem dX5_givePartToThief_55 : decode cX5_givePartToThief 55 = .ok (.invokevirtual 158, 3) := by decide +kernel
theorem dX5_givePartToThief_58 : decode cX5_givePartToThief 58 = .ok (.ireturn, 1) := by decide +kernel
theorem dX5_hasHalf_0 : decode cX5_hasHalf 0 = .ok (.iload_n 1, 1) := by decide +kernel
theorem dX5_hasHalf_1 : decode cX5_hasHalf 1 = .ok (.invokestatic 52, 3) := by decide +kernel
theorem dX5_hasHalf_4 : decode cX5_hasHalf 4 = .ok (.ifCond .eq 15, 3) := by decide +kernel
theorem dX5_hasHalf_7 : decode cX5_hasHalf 7 = .ok (.aload_n 0, 1) := by decide +kernel
theorem dX5_hasHalf_8 : decode cX5_hasHalf 8 = .ok (.iload_n 2, 1) := by decide +kernel
theorem dX5_hasHalf_9 : decode cX5_hasHalf 9 = .ok (.invokevirtual 56, 3) := by decide +kernel
theorem dX5_hasHalf_12 : decode cX5_hasHalf 12 = .ok (.ifCond .eq 7, 3) := by decide +kernel
theorem dX5_hasHalf_15 : decode cX5_hasHalf 15 = .ok (.iconst 1, 1) := by decide +kernel
theorem dX5_hasHalf_16 : decode cX5_hasHalf 16 = .ok (.goto 4, 3) := by decide +kernel
theorem dX5_hasHalf_19 : decode cX5_hasHalf 19 = .ok (.iconst 0, 1) := by decide +kernel
theorem dX5_hasHalf_20 : decode cX5_hasHalf 20 = .ok (.ireturn, 1) := by decide +kernel
theorem dX5_hasSecret_0 : decode cX5_hasSecret 0 = .ok (.iload_n 1, 1) := by decide +kernel
theorem dX5_hasSecret_1 : decode cX5_hasSecret 1 = .ok (.ifCond .lt 15, 3) := by decide +kernel
theorem dX5_hasSecret_4 : decode cX5_hasSecret 4 = .ok (.iload_n 1, 1) := by decide +kernel
theorem dX5_hasSecret_5 : decode cX5_hasSecret 5 = .ok (.aload_n 0, 1) := by decide +kernel
theorem dX5_hasSecret_6 : decode cX5_hasSecret 6 = .ok (.getfield 34, 3) := by decide +kernel
theorem dX5_hasSecret_9 : decode cX5_hasSecret 9 = .ok (.if_icmp .ge 7, 3) := by decide +kernel
theorem dX5_hasSecret_12 : decode cX5_hasSecret 12 = .ok (.iconst 1, 1) := by decide +kernel
theorem dX5_hasSecret_13 : decode cX5_hasSecret 13 = .ok (.goto 4, 3) := by decide +kernel
theorem dX5_hasSecret_16 : decode cX5_hasSecret 16 = .ok (.iconst 0, 1) := by decide +kernel
theorem dX5_hasSecret_17 : decode cX5_hasSecret 17 = .ok (.ireturn, 1) := by decide +kernel
theorem dX5_init_0 : decode cX5_init 0 = .ok (.aload_n 0, 1) := by decide +kernel
theorem dX5_init_1 : decode cX5_init 1 = .ok (.invokespecial 3, 3) := by decide +kernel
theorem dX5_init_4 : decode cX5_init 4 = .ok (.aload_n 0, 1) := by decide +kernel
theorem dX5_init_5 : decode cX5_init 5 = .ok (.bipush 8, 2) := by decide +kernel
theorem dX5_init_7 : decode cX5_init 7 = .ok (.anewarray 9, 3) := by decide +kernel
theorem dX5_init_10 : decode cX5_init 10 = .ok (.putfield 11, 3) := by decide +kernel
theorem dX5_init_13 : decode cX5_init 13 = .ok (.aload_n 0, 1) := by decide +kernel
theorem dX5_init_14 : decode cX5_init 14 = .ok (.iconst 3, 1) := by decide +kernel
theorem dX5_init_15 : decode cX5_init 15 = .ok (.newarray .int, 2) := by decide +kernel
theorem dX5_init_17 : decode cX5_init 17 = .ok (.dup, 1) := by decide +kernel
theorem dX5_init_18 : decode cX5_init 18 = .ok (.iconst 0, 1) := by decide +kernel
theorem dX5_init_19 : decode cX5_init 19 = .ok (.iconst 1, 1) := by decide +kernel
theorem dX5_init_20 : decode cX5_init 20 = .ok (.iastore, 1) := by decide +kernel
theorem dX5_init_21 : decode cX5_init 21 = .ok (.dup, 1) := by decide +kernel
theorem dX5_init_22 : decode cX5_init 22 = .ok (.iconst 1, 1) := by decide +kernel
theorem dX5_init_23 : decode cX5_init 23 = .ok (.iconst 0, 1) := by decide +kernel
theorem dX5_init_24 : decode cX5_init 24 = .ok (.iastore, 1) := by decide +kernel
theorem dX5_init_25 : decode cX5_init 25 = .ok (.dup, 1) := by decide +kernel
theorem dX5_init_26 : decode cX5_init 26 = .ok (.iconst 2, 1) := by decide +kernel
theorem dX5_init_27 : decode cX5_init 27 = .ok (.iconst 2, 1) := by decide +kernel
theorem dX5_init_28 : decode cX5_init 28 = .ok (.iastore, 1) := by decide +kernel
theorem dX5_init_29 : decode cX5_init 29 = .ok (.putfield 17, 3) := by decide +kernel
theorem dX5_init_32 : decode cX5_init 32 = .ok (.aload_n 0, 1) := by decide +kernel
theorem dX5_init_33 : decode cX5_init 33 = .ok (.iconst 2, 1) := by decide +kernel
theorem dX5_init_34 : decode cX5_init 34 = .ok (.newarray .boolean, 2) := by decide +kernel
theorem dX5_init_36 : decode cX5_init 36 = .ok (.putfield 21, 3) := by decide +kernel
theorem dX5_init_39 : decode cX5_init 39 = .ok (.aload_n 0, 1) := by decide +kernel
theorem dX5_init_40 : decode cX5_init 40 = .ok (.iconst 1, 1) := by decide +kernel
theorem dX5_init_41 : decode cX5_init 41 = .ok (.putfield 25, 3) := by decide +kernel
theorem dX5_init_44 : decode cX5_init 44 = .ok (.iconst 0, 1) := by decide +kernel
theorem dX5_init_45 : decode cX5_init 45 = .ok (.istore_n 1, 1) := by decide +kernel
theorem dX5_init_46 : decode cX5_init 46 = .ok (.iload_n 1, 1) := by decide +kernel
theorem dX5_init_47 : decode cX5_init 47 = .ok (.bipush 8, 2) := by decide +kernel
theorem dX5_init_49 : decode cX5_init 49 = .ok (.if_icmp .ge 22, 3) := by decide +kernel
theorem dX5_init_52 : decode cX5_init 52 = .ok (.aload_n 0, 1) := by decide +kernel
theorem dX5_init_53 : decode cX5_init 53 = .ok (.getfield 11, 3) := by decide +kernel
theorem dX5_init_56 : decode cX5_init 56 = .ok (.iload_n 1, 1) := by decide +kernel
theorem dX5_init_57 : decode cX5_init 57 = .ok (.new 9, 3) := by decide +kernel
theorem dX5_init_60 : decode cX5_init 60 = .ok (.dup, 1) := by decide +kernel
theorem dX5_init_61 : decode cX5_init 61 = .ok (.invokespecial 29, 3) := by decide +kernel
theorem dX5_init_64 : decode cX5_init 64 = .ok (.aastore, 1) := by decide +kernel
theorem dX5_init_65 : decode cX5_init 65 = .ok (.iinc 1 1, 3) := by decide +kernel
theorem dX5_init_68 : decode cX5_init 68 = .ok (.goto (-22), 3) := by decide +kernel
theorem dX5_init_71 : decode cX5_init 71 = .ok (.return_, 1) := by decide +kernel
theorem dX5_makeNextVersion_0 : decode cX5_makeNextVersion 0 = .ok (.aload_n 1, 1) := by decide +kernel
theorem dX5_makeNextVersion_1 : decode cX5_makeNextVersion 1 = .ok (.invokevirtual 115, 3) := by decide +kernel
theorem dX5_makeNextVersion_4 : decode cX5_makeNextVersion 4 = .ok (.istore_n 2, 1) := by decide +kernel
theorem dX5_makeNextVersion_5 : decode cX5_makeNextVersion 5 = .ok (.aload_n 0, 1) := by decide +kernel
theorem dX5_makeNextVersion_6 : decode cX5_makeNextVersion 6 = .ok (.dup, 1) := by decide +kernel
theorem dX5_makeNextVersion_7 : decode cX5_makeNextVersion 7 = .ok (.getfield 43, 3) := by decide +kernel
theorem dX5_makeNextVersion_10 : decode cX5_makeNextVersion 10 = .ok (.aload_n 1, 1) := by decide +kernel
theorem dX5_makeNextVersion_11 : decode cX5_makeNextVersion 11 = .ok (.aload_n 0, 1) := by decide +kernel
theorem dX5_makeNextVersion_12 : decode cX5_makeNextVersion 12 = .ok (.getfield 17, 3) := by decide +kernel
theorem dX5_makeNextVersion_15 : decode cX5_makeNextVersion 15 = .ok (.iconst 2, 1) := by decide +kernel
theorem dX5_makeNextVersion_16 : decode cX5_makeNextVersion 16 = .ok (.iaload, 1) := by decide +kernel
theorem dX5_makeNextVersion_17 : decode cX5_makeNextVersion 17 = .ok (.invokevirtual 118, 3) := by decide +kernel
theorem dX5_makeNextVersion_20 : decode cX5_makeNextVersion 20 = .ok (.iadd, 1) := by decide +kernel
theorem dX5_makeNextVersion_21 : decode cX5_makeNextVersion 21 = .ok (.putfield 43, 3) := by decide +kernel
theorem dX5_makeNextVersion_24 : decode cX5_makeNextVersion 24 = .ok (.aload_n 0, 1) := by decide +kernel
theorem dX5_makeNextVersion_25 : decode cX5_makeNextVersion 25 = .ok (.aload_n 1, 1) := by decide +kernel
theorem dX5_makeNextVersion_26 : decode cX5_makeNextVersion 26 = .ok (.iload_n 2, 1) := by decide +kernel
theorem dX5_makeNextVersion_27 : decode cX5_makeNextVersion 27 = .ok (.invokevirtual 76, 3) := by decide +kernel
theorem dX5_makeNextVersion_30 : decode cX5_makeNextVersion 30 = .ok (.return_, 1) := by decide +kernel
theorem dX5_makeVersion_0 : decode cX5_makeVersion 0 = .ok (.aload_n 1, 1) := by decide +kernel
theorem dX5_makeVersion_1 : decode cX5_makeVersion 1 = .ok (.getfield 80, 3) := by decide +kernel
theorem dX5_makeVersion_4 : decode cX5_makeVersion 4 = .ok (.astore_n 3, 1) := by decide +kernel
theorem dX5_makeVersion_5 : decode cX5_makeVersion 5 = .ok (.aload_n 1, 1) := by decide +kernel
theorem dX5_makeVersion_6 : decode cX5_makeVersion 6 = .ok (.getfield 84, 3) := by decide +kernel
theorem dX5_makeVersion_9 : decode cX5_makeVersion 9 = .ok (.astore 4, 2) := by decide +kernel
theorem dX5_makeVersion_11 : decode cX5_makeVersion 11 = .ok (.aload_n 3, 1) := by decide +kernel
theorem dX5_makeVersion_12 : decode cX5_makeVersion 12 = .ok (.getfield 87, 3) := by decide +kernel
theorem dX5_makeVersion_15 : decode cX5_makeVersion 15 = .ok (.iconst 0, 1) := by decide +kernel
theorem dX5_makeVersion_16 : decode cX5_makeVersion 16 = .ok (.aload_n 0, 1) := by decide +kernel
theorem dX5_makeVersion_17 : decode cX5_makeVersion 17 = .ok (.invokevirtual 92, 3) := by decide +kernel
theorem dX5_makeVersion_20 : decode cX5_makeVersion 20 = .ok (.sipush 256, 3) := by decide +kernel
theorem dX5_makeVersion_23 : decode cX5_makeVersion 23 = .ok (.irem, 1) := by decide +kernel
theorem dX5_makeVersion_24 : decode cX5_makeVersion 24 = .ok (.iastore, 1) := by decide +kernel
theorem dX5_makeVersion_25 : decode cX5_makeVersion 25 = .ok (.aload 4, 2) := by decide +kernel
theorem dX5_makeVersion_27 : decode cX5_makeVersion 27 = .ok (.getfield 87, 3) := by decide +kernel
theorem dX5_makeVersion_30 : decode cX5_makeVersion 30 = .ok (.iconst 0, 1) := by decide +kernel
theorem dX5_makeVersion_31 : decode cX5_makeVersion 31 = .ok (.iload_n 2, 1) := by decide +kernel
theorem dX5_makeVersion_32 : decode cX5_makeVersion 32 = .ok (.aload_n 3, 1) := by decide +kernel
theorem dX5_makeVersion_33 : decode cX5_makeVersion 33 = .ok (.getfield 87, 3) := by decide +kernel
theorem dX5_makeVersion_36 : decode cX5_makeVersion 36 = .ok (.iconst 0, 1) := by decide +kernel
theorem dX5_makeVersion_37 : decode cX5_makeVersion 37 = .ok (.iaload, 1) := by decide +kernel
theorem dX5_makeVersion_38 : decode cX5_makeVersion 38 = .ok (.isub, 1) := by decide +kernel
theorem dX5_makeVersion_39 : decode cX5_makeVersion 39 = .ok (.sipush 256, 3) := by decide +kernel
theorem dX5_makeVersion_42 : decode cX5_makeVersion 42 = .ok (.invokestatic 96, 3) := by decide +kernel
theorem dX5_makeVersion_45 : decode cX5_makeVersion 45 = .ok (.iastore, 1) := by decide +kernel
theorem dX5_makeVersion_46 : decode cX5_makeVersion 46 = .ok (.aload 4, 2) := by decide +kernel
theorem dX5_makeVersion_48 : decode cX5_makeVersion 48 = .ok (.aload_n 0, 1) := by decide +kernel
theorem dX5_makeVersion_49 : decode cX5_makeVersion 49 = .ok (.invokevirtual 92, 3) := by decide +kernel
theorem dX5_makeVersion_52 : decode cX5_makeVersion 52 = .ok (.sipush 256, 3) := by decide +kernel
theorem dX5_makeVersion_55 : decode cX5_makeVersion 55 = .ok (.irem, 1) := by decide +kernel
theorem dX5_makeVersion_56 : decode cX5_makeVersion 56 = .ok (.iconst 1, 1) := by decide +kernel
theorem dX5_makeVersion_57 : decode cX5_makeVersion 57 = .ok (.iadd, 1) := by decide +kernel
theorem dX5_makeVersion_58 : decode cX5_makeVersion 58 = .ok (.putfield 102, 3) := by decide +kernel
theorem dX5_makeVersion_61 : decode cX5_makeVersion 61 = .ok (.aload 4, 2) := by decide +kernel
theorem dX5_makeVersion_63 : decode cX5_makeVersion 63 = .ok (.aload_n 0, 1) := by decide +kernel
theorem dX5_makeVersion_64 : decode cX5_makeVersion 64 = .ok (.invokevirtual 92, 3) := by decide +kernel
theorem dX5_makeVersion_67 : decode cX5_makeVersion 67 = .ok (.sipush 257, 3) := by decide +kernel
theorem dX5_makeVersion_70 : decode cX5_makeVersion 70 = .ok (.irem, 1) := by decide +kernel
theorem dX5_makeVersion_71 : decode cX5_makeVersion 71 = .ok (.putfield 105, 3) := by decide +kernel
theorem dX5_makeVersion_74 : decode cX5_makeVersion 74 = .ok (.aload_n 3, 1) := by decide +kernel
theorem dX5_makeVersion_75 : decode cX5_makeVersion 75 = .ok (.aload_n 0, 1) := by decide +kernel
theorem dX5_makeVersion_76 : decode cX5_makeVersion 76 = .ok (.invokevirtual 92, 3) := by decide +kernel
theorem dX5_makeVersion_79 : decode cX5_makeVersion 79 = .ok (.sipush 256, 3) := by decide +kernel
theorem dX5_makeVersion_82 : decode cX5_makeVersion 82 = .ok (.irem, 1) := by decide +kernel
theorem dX5_makeVersion_83 : decode cX5_makeVersion 83 = .ok (.iconst 1, 1) := by decide +kernel
theorem dX5_makeVersion_84 : decode cX5_makeVersion 84 = .ok (.iadd, 1) := by decide +kernel
theorem dX5_makeVersion_85 : decode cX5_makeVersion 85 = .ok (.putfield 102, 3) := by decide +kernel
theorem dX5_makeVersion_88 : decode cX5_makeVersion 88 = .ok (.aload_n 3, 1) := by decide +kernel
theorem dX5_makeVersion_89 : decode cX5_makeVersion 89 = .ok (.aload_n 0, 1) := by decide +kernel
theorem dX5_makeVersion_90 : decode cX5_makeVersion 90 = .ok (.invokevirtual 92, 3) := by decide +kernel
theorem dX5_makeVersion_93 : decode cX5_makeVersion 93 = .ok (.sipush 257, 3) := by decide +kernel
theorem dX5_makeVersion_96 : decode cX5_makeVersion 96 = .ok (.irem, 1) := by decide +kernel
theorem dX5_makeVersion_97 : decode cX5_makeVersion 97 = .ok (.putfield 105, 3) := by decide +kernel
theorem dX5_makeVersion_100 : decode cX5_makeVersion 100 = .ok (.aload_n 3, 1) := by decide +kernel
theorem dX5_makeVersion_101 : decode cX5_makeVersion 101 = .ok (.aload 4, 2) := by decide +kernel
theorem dX5_makeVersion_103 : decode cX5_makeVersion 103 = .ok (.aload_n 3, 1) := by decide +kernel
theorem dX5_makeVersion_104 : decode cX5_makeVersion 104 = .ok (.getfield 87, 3) := by decide +kernel
theorem dX5_makeVersion_107 : decode cX5_makeVersion 107 = .ok (.iconst 0, 1) := by decide +kernel
theorem dX5_makeVersion_108 : decode cX5_makeVersion 108 = .ok (.iaload, 1) := by decide +kernel
theorem dX5_makeVersion_109 : decode cX5_makeVersion 109 = .ok (.invokevirtual 108, 3) := by decide +kernel
theorem dX5_makeVersion_112 : decode cX5_makeVersion 112 = .ok (.putfield 112, 3) := by decide +kernel
theorem dX5_makeVersion_115 : decode cX5_makeVersion 115 = .ok (.aload 4, 2) := by decide +kernel
theorem dX5_makeVersion_117 : decode cX5_makeVersion 117 = .ok (.aload_n 3, 1) := by decide +kernel
theorem dX5_makeVersion_118 : decode cX5_makeVersion 118 = .ok (.aload 4, 2) := by decide +kernel
theorem dX5_makeVersion_120 : decode cX5_makeVersion 120 = .ok (.getfield 87, 3) := by decide +kernel
theorem dX5_makeVersion_123 : decode cX5_makeVersion 123 = .ok (.iconst 0, 1) := by decide +kernel
theorem dX5_makeVersion_124 : decode cX5_makeVersion 124 = .ok (.iaload, 1) := by decide +kernel
theorem dX5_makeVersion_125 : decode cX5_makeVersion 125 = .ok (.invokevirtual 108, 3) := by decide +kernel
theorem dX5_makeVersion_128 : decode cX5_makeVersion 128 = .ok (.putfield 112, 3) := by decide +kernel
theorem dX5_makeVersion_131 : decode cX5_makeVersion 131 = .ok (.aload_n 1, 1) := by decide +kernel
theorem dX5_makeVersion_132 : decode cX5_makeVersion 132 = .ok (.dup, 1) := by decide +kernel
theorem dX5_makeVersion_133 : decode cX5_makeVersion 133 = .ok (.getfield 59, 3) := by decide +kernel
theorem dX5_makeVersion_136 : decode cX5_makeVersion 136 = .ok (.iconst 1, 1) := by decide +kernel
theorem dX5_makeVersion_137 : decode cX5_makeVersion 137 = .ok (.iadd, 1) := by decide +kernel
theorem dX5_makeVersion_138 : decode cX5_makeVersion 138 = .ok (.putfield 59, 3) := by decide +kernel
theorem dX5_makeVersion_141 : decode cX5_makeVersion 141 = .ok (.aload_n 0, 1) := by decide +kernel
theorem dX5_makeVersion_142 : decode cX5_makeVersion 142 = .ok (.dup, 1) := by decide +kernel
theorem dX5_makeVersion_143 : decode cX5_makeVersion 143 = .ok (.getfield 40, 3) := by decide +kernel
theorem dX5_makeVersion_146 : decode cX5_makeVersion 146 = .ok (.iconst 1, 1) := by decide +kernel
theorem dX5_makeVersion_147 : decode cX5_makeVersion 147 = .ok (.iadd, 1) := by decide +kernel
theorem dX5_makeVersion_148 : decode cX5_makeVersion 148 = .ok (.putfield 40, 3) := by decide +kernel
theorem dX5_makeVersion_151 : decode cX5_makeVersion 151 = .ok (.return_, 1) := by decide +kernel
theorem dX5_mergeParts_0 : decode cX5_mergeParts 0 = .ok (.aload_n 0, 1) := by decide +kernel
theorem dX5_mergeParts_1 : decode cX5_mergeParts 1 = .ok (.iload_n 1, 1) := by decide +kernel
theorem dX5_mergeParts_2 : decode cX5_mergeParts 2 = .ok (.invokevirtual 147, 3) := by decide +kernel
theorem dX5_mergeParts_5 : decode cX5_mergeParts 5 = .ok (.istore_n 2, 1) := by decide +kernel
theorem dX5_mergeParts_6 : decode cX5_mergeParts 6 = .ok (.iload_n 2, 1) := by decide +kernel
theorem dX5_mergeParts_7 : decode cX5_mergeParts 7 = .ok (.ifCond .ge 5, 3) := by decide +kernel
theorem dX5_mergeParts_10 : decode cX5_mergeParts 10 = .ok (.iload_n 2, 1) := by decide +kernel
theorem dX5_mergeParts_11 : decode cX5_mergeParts 11 = .ok (.ireturn, 1) := by decide +kernel
theorem dX5_mergeParts_12 : decode cX5_mergeParts 12 = .ok (.aload_n 0, 1) := by decide +kernel
theorem dX5_mergeParts_13 : decode cX5_mergeParts 13 = .ok (.getfield 11, 3) := by decide +kernel
theorem dX5_mergeParts_16 : decode cX5_mergeParts 16 = .ok (.iload_n 1, 1) := by decide +kernel
theorem dX5_mergeParts_17 : decode cX5_mergeParts 17 = .ok (.aaload, 1) := by decide +kernel
theorem dX5_mergeParts_18 : decode cX5_mergeParts 18 = .ok (.astore_n 3, 1) := by decide +kernel
theorem dX5_mergeParts_19 : decode cX5_mergeParts 19 = .ok (.iload_n 2, 1) := by decide +kernel
theorem dX5_mergeParts_20 : decode cX5_mergeParts 20 = .ok (.sipush 1000, 3) := by decide +kernel
theorem dX5_mergeParts_23 : decode cX5_mergeParts 23 = .ok (.if_icmp .lt 25, 3) := by decide +kernel
theorem dX5_mergeParts_26 : decode cX5_mergeParts 26 = .ok (.aload_n 3, 1) := by decide +kernel
theorem dX5_mergeParts_27 : decode cX5_mergeParts 27 = .ok (.dup, 1) := by decide +kernel
theorem dX5_mergeParts_28 : decode cX5_mergeParts 28 = .ok (.getfield 150, 3) := by decide +kernel
theorem dX5_mergeParts_31 : decode cX5_mergeParts 31 = .ok (.iconst 1, 1) := by decide +kernel
theorem dX5_mergeParts_32 : decode cX5_mergeParts 32 = .ok (.iadd, 1) := by decide +kernel
theorem dX5_mergeParts_33 : decode cX5_mergeParts 33 = .ok (.putfield 150, 3) := by decide +kernel
theorem dX5_mergeParts_36 : decode cX5_mergeParts 36 = .ok (.aload_n 0, 1) := by decide +kernel
theorem dX5_mergeParts_37 : decode cX5_mergeParts 37 = .ok (.dup, 1) := by decide +kernel
theorem dX5_mergeParts_38 : decode cX5_mergeParts 38 = .ok (.getfield 46, 3) := by decide +kernel
theorem dX5_mergeParts_41 : decode cX5_mergeParts 41 = .ok (.iconst 1, 1) := by decide +kernel
theorem dX5_mergeParts_42 : decode cX5_mergeParts 42 = .ok (.iadd, 1) := by decide +kernel
theorem dX5_mergeParts_43 : decode cX5_mergeParts 43 = .ok (.putfield 46, 3) := by decide +kernel
theorem dX5_mergeParts_46 : decode cX5_mergeParts 46 = .ok (.iload_n 2, 1) := by decide +kernel
theorem dX5_mergeParts_47 : decode cX5_mergeParts 47 = .ok (.ireturn, 1) := by decide +kernel
theorem dX5_mergeParts_48 : decode cX5_mergeParts 48 = .ok (.aload_n 3, 1) := by decide +kernel
theorem dX5_mergeParts_49 : decode cX5_mergeParts 49 = .ok (.iload_n 2, 1) := by decide +kernel
theorem dX5_mergeParts_50 : decode cX5_mergeParts 50 = .ok (.aload_n 0, 1) := by decide +kernel
theorem dX5_mergeParts_51 : decode cX5_mergeParts 51 = .ok (.getfield 17, 3) := by decide +kernel
theorem dX5_mergeParts_54 : decode cX5_mergeParts 54 = .ok (.iconst 0, 1) := by decide +kernel
theorem dX5_mergeParts_55 : decode cX5_mergeParts 55 = .ok (.iaload, 1) := by decide +kernel
theorem dX5_mergeParts_56 : decode cX5_mergeParts 56 = .ok (.invokevirtual 151, 3) := by decide +kernel
theorem dX5_mergeParts_59 : decode cX5_mergeParts 59 = .ok (.aload_n 3, 1) := by decide +kernel
theorem dX5_mergeParts_60 : decode cX5_mergeParts 60 = .ok (.getfield 80, 3) := by decide +kernel
theorem dX5_mergeParts_63 : decode cX5_mergeParts 63 = .ok (.invokevirtual 155, 3) := by decide +kernel
theorem dX5_mergeParts_66 : decode cX5_mergeParts 66 = .ok (.ifCond .ne 13, 3) := by decide +kernel
theorem dX5_mergeParts_69 : decode cX5_mergeParts 69 = .ok (.aload_n 3, 1) := by decide +kernel
theorem dX5_mergeParts_70 : decode cX5_mergeParts 70 = .ok (.getfield 84, 3) := by decide +kernel
theorem dX5_mergeParts_73 : decode cX5_mergeParts 73 = .ok (.invokevirtual 155, 3) := by decide +kernel
theorem dX5_mergeParts_76 : decode cX5_mergeParts 76 = .ok (.ifCond .eq 13, 3) := by decide +kernel
theorem dX5_mergeParts_79 : decode cX5_mergeParts 79 = .ok (.aload_n 0, 1) := by decide +kernel
theorem dX5_mergeParts_80 : decode cX5_mergeParts 80 = .ok (.dup, 1) := by decide +kernel
theorem dX5_mergeParts_81 : decode cX5_mergeParts 81 = .ok (.getfield 49, 3) := by decide +kernel
theorem dX5_mergeParts_84 : decode cX5_mergeParts 84 = .ok (.iconst 1, 1) := by decide +kernel
theorem dX5_mergeParts_85 : decode cX5_mergeParts 85 = .ok (.iadd, 1) := by decide +kernel
theorem dX5_mergeParts_86 : decode cX5_mergeParts 86 = .ok (.putfield 49, 3) := by decide +kernel
theorem dX5_mergeParts_89 : decode cX5_mergeParts 89 = .ok (.iload_n 2, 1) := by decide +kernel
theorem dX5_mergeParts_90 : decode cX5_mergeParts 90 = .ok (.ireturn, 1) := by decide +kernel
theorem dX5_offsetsThatPass_0 : decode cX5_offsetsThatPass 0 = .ok (.aload_n 0, 1) := by decide +kernel
theorem dX5_offsetsThatPass_1 : decode cX5_offsetsThatPass 1 = .ok (.iload_n 1, 1) := by decide +kernel
theorem dX5_offsetsThatPass_2 : decode cX5_offsetsThatPass 2 = .ok (.iload_n 2, 1) := by decide +kernel
theorem dX5_offsetsThatPass_3 : decode cX5_offsetsThatPass 3 = .ok (.invokevirtual 127, 3) := by decide +kernel
theorem dX5_offsetsThatPass_6 : decode cX5_offsetsThatPass 6 = .ok (.ifCond .ne 5, 3) := by decide +kernel
theorem dX5_offsetsThatPass_9 : decode cX5_offsetsThatPass 9 = .ok (.iconst (-1), 1) := by decide +kernel
theorem dX5_offsetsThatPass_10 : decode cX5_offsetsThatPass 10 = .ok (.ireturn, 1) := by decide +kernel
theorem dX5_offsetsThatPass_11 : decode cX5_offsetsThatPass 11 = .ok (.iload_n 3, 1) := by decide +kernel
theorem dX5_offsetsThatPass_12 : decode cX5_offsetsThatPass 12 = .ok (.invokestatic 131, 3) := by decide +kernel
theorem dX5_offsetsThatPass_15 : decode cX5_offsetsThatPass 15 = .ok (.ifCond .ne 6, 3) := by decide +kernel
theorem dX5_offsetsThatPass_18 : decode cX5_offsetsThatPass 18 = .ok (.bipush (-2), 2) := by decide +kernel
theorem dX5_offsetsThatPass_20 : decode cX5_offsetsThatPass 20 = .ok (.ireturn, 1) := by decide +kernel
theorem dX5_offsetsThatPass_21 : decode cX5_offsetsThatPass 21 = .ok (.iconst 0, 1) := by decide +kernel
theorem dX5_offsetsThatPass_22 : decode cX5_offsetsThatPass 22 = .ok (.istore 4, 2) := by decide +kernel
theorem dX5_offsetsThatPass_24 : decode cX5_offsetsThatPass 24 = .ok (.iconst 1, 1) := by decide +kernel
theorem dX5_offsetsThatPass_25 : decode cX5_offsetsThatPass 25 = .ok (.istore 5, 2) := by decide +kernel
theorem dX5_offsetsThatPass_27 : decode cX5_offsetsThatPass 27 = .ok (.iload 5, 2) := by decide +kernel
theorem dX5_offsetsThatPass_29 : decode cX5_offsetsThatPass 29 = .ok (.sipush 256, 3) := by decide +kernel
theorem dX5_offsetsThatPass_32 : decode cX5_offsetsThatPass 32 = .ok (.if_icmp .ge 24, 3) := by decide +kernel
theorem dX5_offsetsThatPass_35 : decode cX5_offsetsThatPass 35 = .ok (.aload_n 0, 1) := by decide +kernel
theorem dX5_offsetsThatPass_36 : decode cX5_offsetsThatPass 36 = .ok (.iload_n 1, 1) := by decide +kernel
theorem dX5_offsetsThatPass_37 : decode cX5_offsetsThatPass 37 = .ok (.iload_n 2, 1) := by decide +kernel
theorem dX5_offsetsThatPass_38 : decode cX5_offsetsThatPass 38 = .ok (.iload 5, 2) := by decide +kernel
theorem dX5_offsetsThatPass_40 : decode cX5_offsetsThatPass 40 = .ok (.invokevirtual 204, 3) := by decide +kernel
theorem dX5_offsetsThatPass_43 : decode cX5_offsetsThatPass 43 = .ok (.iload_n 3, 1) := by decide +kernel
theorem dX5_offsetsThatPass_44 : decode cX5_offsetsThatPass 44 = .ok (.if_icmp .ne 6, 3) := by decide +kernel
theorem dX5_offsetsThatPass_47 : decode cX5_offsetsThatPass 47 = .ok (.iinc 4 1, 3) := by decide +kernel
theorem dX5_offsetsThatPass_50 : decode cX5_offsetsThatPass 50 = .ok (.iinc 5 1, 3) := by decide +kernel
theorem dX5_offsetsThatPass_53 : decode cX5_offsetsThatPass 53 = .ok (.goto (-26), 3) := by decide +kernel
theorem dX5_offsetsThatPass_56 : decode cX5_offsetsThatPass 56 = .ok (.iload 4, 2) := by decide +kernel
theorem dX5_offsetsThatPass_58 : decode cX5_offsetsThatPass 58 = .ok (.ireturn, 1) := by decide +kernel
theorem dX5_otherPartFor_0 : decode cX5_otherPartFor 0 = .ok (.aload_n 0, 1) := by decide +kernel
theorem dX5_otherPartFor_1 : decode cX5_otherPartFor 1 = .ok (.iload_n 1, 1) := by decide +kernel
theorem dX5_otherPartFor_2 : decode cX5_otherPartFor 2 = .ok (.iload_n 2, 1) := by decide +kernel
theorem dX5_otherPartFor_3 : decode cX5_otherPartFor 3 = .ok (.invokevirtual 127, 3) := by decide +kernel
theorem dX5_otherPartFor_6 : decode cX5_otherPartFor 6 = .ok (.ifCond .ne 5, 3) := by decide +kernel
theorem dX5_otherPartFor_9 : decode cX5_otherPartFor 9 = .ok (.iconst (-1), 1) := by decide +kernel
theorem dX5_otherPartFor_10 : decode cX5_otherPartFor 10 = .ok (.ireturn, 1) := by decide +kernel
theorem dX5_otherPartFor_11 : decode cX5_otherPartFor 11 = .ok (.iload_n 3, 1) := by decide +kernel
theorem dX5_otherPartFor_12 : decode cX5_otherPartFor 12 = .ok (.invokestatic 69, 3) := by decide +kernel
theorem dX5_otherPartFor_15 : decode cX5_otherPartFor 15 = .ok (.ifCond .ne 6, 3) := by decide +kernel
theorem dX5_otherPartFor_18 : decode cX5_otherPartFor 18 = .ok (.bipush (-2), 2) := by decide +kernel
theorem dX5_otherPartFor_20 : decode cX5_otherPartFor 20 = .ok (.ireturn, 1) := by decide +kernel
theorem dX5_otherPartFor_21 : decode cX5_otherPartFor 21 = .ok (.iload_n 3, 1) := by decide +kernel
theorem dX5_otherPartFor_22 : decode cX5_otherPartFor 22 = .ok (.aload_n 0, 1) := by decide +kernel
theorem dX5_otherPartFor_23 : decode cX5_otherPartFor 23 = .ok (.getfield 11, 3) := by decide +kernel
theorem dX5_otherPartFor_26 : decode cX5_otherPartFor 26 = .ok (.iload_n 2, 1) := by decide +kernel
theorem dX5_otherPartFor_27 : decode cX5_otherPartFor 27 = .ok (.aaload, 1) := by decide +kernel
theorem dX5_otherPartFor_28 : decode cX5_otherPartFor 28 = .ok (.iload_n 1, 1) := by decide +kernel
theorem dX5_otherPartFor_29 : decode cX5_otherPartFor 29 = .ok (.invokevirtual 134, 3) := by decide +kernel
theorem dX5_otherPartFor_32 : decode cX5_otherPartFor 32 = .ok (.getfield 87, 3) := by decide +kernel
theorem dX5_otherPartFor_35 : decode cX5_otherPartFor 35 = .ok (.iconst 0, 1) := by decide +kernel
theorem dX5_otherPartFor_36 : decode cX5_otherPartFor 36 = .ok (.iaload, 1) := by decide +kernel
theorem dX5_otherPartFor_37 : decode cX5_otherPartFor 37 = .ok (.isub, 1) := by decide +kernel
theorem dX5_otherPartFor_38 : decode cX5_otherPartFor 38 = .ok (.sipush 256, 3) := by decide +kernel
theorem dX5_otherPartFor_41 : decode cX5_otherPartFor 41 = .ok (.invokestatic 96, 3) := by decide +kernel
theorem dX5_otherPartFor_44 : decode cX5_otherPartFor 44 = .ok (.ireturn, 1) := by decide +kernel
theorem dX5_partsNeeded_0 : decode cX5_partsNeeded 0 = .ok (.aload_n 0, 1) := by decide +kernel
theorem dX5_partsNeeded_1 : decode cX5_partsNeeded 1 = .ok (.iload_n 1, 1) := by decide +kernel
theorem dX5_partsNeeded_2 : decode cX5_partsNeeded 2 = .ok (.invokevirtual 56, 3) := by decide +kernel
theorem dX5_partsNeeded_5 : decode cX5_partsNeeded 5 = .ok (.ifCond .ne 5, 3) := by decide +kernel
theorem dX5_partsNeeded_8 : decode cX5_partsNeeded 8 = .ok (.iconst (-1), 1) := by decide +kernel
theorem dX5_partsNeeded_9 : decode cX5_partsNeeded 9 = .ok (.ireturn, 1) := by decide +kernel
theorem dX5_partsNeeded_10 : decode cX5_partsNeeded 10 = .ok (.aload_n 0, 1) := by decide +kernel
theorem dX5_partsNeeded_11 : decode cX5_partsNeeded 11 = .ok (.getfield 11, 3) := by decide +kernel
theorem dX5_partsNeeded_14 : decode cX5_partsNeeded 14 = .ok (.iload_n 1, 1) := by decide +kernel
theorem dX5_partsNeeded_15 : decode cX5_partsNeeded 15 = .ok (.aaload, 1) := by decide +kernel
theorem dX5_partsNeeded_16 : decode cX5_partsNeeded 16 = .ok (.getfield 179, 3) := by decide +kernel
theorem dX5_partsNeeded_19 : decode cX5_partsNeeded 19 = .ok (.ifCond .eq 5, 3) := by decide +kernel
theorem dX5_partsNeeded_22 : decode cX5_partsNeeded 22 = .ok (.iconst 0, 1) := by decide +kernel
theorem dX5_partsNeeded_23 : decode cX5_partsNeeded 23 = .ok (.ireturn, 1) := by decide +kernel
theorem dX5_partsNeeded_24 : decode cX5_partsNeeded 24 = .ok (.aload_n 0, 1) := by decide +kernel
theorem dX5_partsNeeded_25 : decode cX5_partsNeeded 25 = .ok (.getfield 11, 3) := by decide +kernel
theorem dX5_partsNeeded_28 : decode cX5_partsNeeded 28 = .ok (.iload_n 1, 1) := by decide +kernel
theorem dX5_partsNeeded_29 : decode cX5_partsNeeded 29 = .ok (.aaload, 1) := by decide +kernel
theorem dX5_partsNeeded_30 : decode cX5_partsNeeded 30 = .ok (.invokevirtual 208, 3) := by decide +kernel
theorem dX5_partsNeeded_33 : decode cX5_partsNeeded 33 = .ok (.ifCond .le 7, 3) := by decide +kernel
theorem dX5_partsNeeded_36 : decode cX5_partsNeeded 36 = .ok (.iconst 1, 1) := by decide +kernel
theorem dX5_partsNeeded_37 : decode cX5_partsNeeded 37 = .ok (.goto 4, 3) := by decide +kernel
theorem dX5_partsNeeded_40 : decode cX5_partsNeeded 40 = .ok (.iconst 2, 1) := by decide +kernel
theorem dX5_partsNeeded_41 : decode cX5_partsNeeded 41 = .ok (.ireturn, 1) := by decide +kernel
theorem dX5_passBeats_0 : decode cX5_passBeats 0 = .ok (.iload_n 1, 1) := by decide +kernel
theorem dX5_passBeats_1 : decode cX5_passBeats 1 = .ok (.iconst 1, 1) := by decide +kernel
theorem dX5_passBeats_2 : decode cX5_passBeats 2 = .ok (.if_icmp .lt 9, 3) := by decide +kernel
theorem dX5_passBeats_5 : decode cX5_passBeats 5 = .ok (.iload_n 1, 1) := by decide +kernel
theorem dX5_passBeats_6 : decode cX5_passBeats 6 = .ok (.bipush 99, 2) := by decide +kernel
theorem dX5_passBeats_8 : decode cX5_passBeats 8 = .ok (.if_icmp .le 6, 3) := by decide +kernel
theorem dX5_passBeats_11 : decode cX5_passBeats 11 = .ok (.bipush (-2), 2) := by decide +kernel
theorem dX5_passBeats_13 : decode cX5_passBeats 13 = .ok (.ireturn, 1) := by decide +kernel
theorem dX5_passBeats_14 : decode cX5_passBeats 14 = .ok (.aload_n 0, 1) := by decide +kernel
theorem dX5_passBeats_15 : decode cX5_passBeats 15 = .ok (.getfield 37, 3) := by decide +kernel
theorem dX5_passBeats_18 : decode cX5_passBeats 18 = .ok (.iload_n 1, 1) := by decide +kernel
theorem dX5_passBeats_19 : decode cX5_passBeats 19 = .ok (.iadd, 1) := by decide +kernel
theorem dX5_passBeats_20 : decode cX5_passBeats 20 = .ok (.sipush 9999, 3) := by decide +kernel
theorem dX5_passBeats_23 : decode cX5_passBeats 23 = .ok (.if_icmp .le 6, 3) := by decide +kernel
theorem dX5_passBeats_26 : decode cX5_passBeats 26 = .ok (.bipush (-5), 2) := by decide +kernel
theorem dX5_passBeats_28 : decode cX5_passBeats 28 = .ok (.ireturn, 1) := by decide +kernel
theorem dX5_passBeats_29 : decode cX5_passBeats 29 = .ok (.aload_n 0, 1) := by decide +kernel
theorem dX5_passBeats_30 : decode cX5_passBeats 30 = .ok (.getfield 40, 3) := by decide +kernel
theorem dX5_passBeats_33 : decode cX5_passBeats 33 = .ok (.istore_n 2, 1) := by decide +kernel
theorem dX5_passBeats_34 : decode cX5_passBeats 34 = .ok (.iconst 0, 1) := by decide +kernel
theorem dX5_passBeats_35 : decode cX5_passBeats 35 = .ok (.istore_n 3, 1) := by decide +kernel
theorem dX5_passBeats_36 : decode cX5_passBeats 36 = .ok (.iload_n 3, 1) := by decide +kernel
theorem dX5_passBeats_37 : decode cX5_passBeats 37 = .ok (.iload_n 1, 1) := by decide +kernel
theorem dX5_passBeats_38 : decode cX5_passBeats 38 = .ok (.if_icmp .ge 13, 3) := by decide +kernel
theorem dX5_passBeats_41 : decode cX5_passBeats 41 = .ok (.aload_n 0, 1) := by decide +kernel
theorem dX5_passBeats_42 : decode cX5_passBeats 42 = .ok (.invokevirtual 161, 3) := by decide +kernel
theorem dX5_passBeats_45 : decode cX5_passBeats 45 = .ok (.iinc 3 1, 3) := by decide +kernel
theorem dX5_passBeats_48 : decode cX5_passBeats 48 = .ok (.goto (-12), 3) := by decide +kernel
theorem dX5_passBeats_51 : decode cX5_passBeats 51 = .ok (.aload_n 0, 1) := by decide +kernel
theorem dX5_passBeats_52 : decode cX5_passBeats 52 = .ok (.getfield 40, 3) := by decide +kernel
theorem dX5_passBeats_55 : decode cX5_passBeats 55 = .ok (.iload_n 2, 1) := by decide +kernel
theorem dX5_passBeats_56 : decode cX5_passBeats 56 = .ok (.isub, 1) := by decide +kernel
theorem dX5_passBeats_57 : decode cX5_passBeats 57 = .ok (.ireturn, 1) := by decide +kernel
theorem dX5_passOneBeat_0 : decode cX5_passOneBeat 0 = .ok (.iconst 0, 1) := by decide +kernel
theorem dX5_passOneBeat_1 : decode cX5_passOneBeat 1 = .ok (.istore_n 1, 1) := by decide +kernel
theorem dX5_passOneBeat_2 : decode cX5_passOneBeat 2 = .ok (.iload_n 1, 1) := by decide +kernel
theorem dX5_passOneBeat_3 : decode cX5_passOneBeat 3 = .ok (.aload_n 0, 1) := by decide +kernel
theorem dX5_passOneBeat_4 : decode cX5_passOneBeat 4 = .ok (.getfield 34, 3) := by decide +kernel
theorem dX5_passOneBeat_7 : decode cX5_passOneBeat 7 = .ok (.if_icmp .ge 33, 3) := by decide +kernel
theorem dX5_passOneBeat_10 : decode cX5_passOneBeat 10 = .ok (.aload_n 0, 1) := by decide +kernel
theorem dX5_passOneBeat_11 : decode cX5_passOneBeat 11 = .ok (.getfield 11, 3) := by decide +kernel
theorem dX5_passOneBeat_14 : decode cX5_passOneBeat 14 = .ok (.iload_n 1, 1) := by decide +kernel
theorem dX5_passOneBeat_15 : decode cX5_passOneBeat 15 = .ok (.aaload, 1) := by decide +kernel
theorem dX5_passOneBeat_16 : decode cX5_passOneBeat 16 = .ok (.iconst 0, 1) := by decide +kernel
theorem dX5_passOneBeat_17 : decode cX5_passOneBeat 17 = .ok (.aload_n 0, 1) := by decide +kernel
theorem dX5_passOneBeat_18 : decode cX5_passOneBeat 18 = .ok (.getfield 11, 3) := by decide +kernel
theorem dX5_passOneBeat_21 : decode cX5_passOneBeat 21 = .ok (.iload_n 1, 1) := by decide +kernel
theorem dX5_passOneBeat_22 : decode cX5_passOneBeat 22 = .ok (.aaload, 1) := by decide +kernel
theorem dX5_passOneBeat_23 : decode cX5_passOneBeat 23 = .ok (.getfield 164, 3) := by decide +kernel
theorem dX5_passOneBeat_26 : decode cX5_passOneBeat 26 = .ok (.iconst 1, 1) := by decide +kernel
theorem dX5_passOneBeat_27 : decode cX5_passOneBeat 27 = .ok (.isub, 1) := by decide +kernel
theorem dX5_passOneBeat_28 : decode cX5_passOneBeat 28 = .ok (.invokestatic 167, 3) := by decide +kernel
theorem dX5_passOneBeat_31 : decode cX5_passOneBeat 31 = .ok (.putfield 164, 3) := by decide +kernel
theorem dX5_passOneBeat_34 : decode cX5_passOneBeat 34 = .ok (.iinc 1 1, 3) := by decide +kernel
theorem dX5_passOneBeat_37 : decode cX5_passOneBeat 37 = .ok (.goto (-35), 3) := by decide +kernel
theorem dX5_passOneBeat_40 : decode cX5_passOneBeat 40 = .ok (.aload_n 0, 1) := by decide +kernel
theorem dX5_passOneBeat_41 : decode cX5_passOneBeat 41 = .ok (.dup, 1) := by decide +kernel
theorem dX5_passOneBeat_42 : decode cX5_passOneBeat 42 = .ok (.getfield 37, 3) := by decide +kernel
theorem dX5_passOneBeat_45 : decode cX5_passOneBeat 45 = .ok (.iconst 1, 1) := by decide +kernel
theorem dX5_passOneBeat_46 : decode cX5_passOneBeat 46 = .ok (.iadd, 1) := by decide +kernel
theorem dX5_passOneBeat_47 : decode cX5_passOneBeat 47 = .ok (.putfield 37, 3) := by decide +kernel
theorem dX5_passOneBeat_50 : decode cX5_passOneBeat 50 = .ok (.aload_n 0, 1) := by decide +kernel
theorem dX5_passOneBeat_51 : decode cX5_passOneBeat 51 = .ok (.getfield 17, 3) := by decide +kernel
theorem dX5_passOneBeat_54 : decode cX5_passOneBeat 54 = .ok (.iconst 1, 1) := by decide +kernel
theorem dX5_passOneBeat_55 : decode cX5_passOneBeat 55 = .ok (.iaload, 1) := by decide +kernel
theorem dX5_passOneBeat_56 : decode cX5_passOneBeat 56 = .ok (.ifCond .eq 24, 3) := by decide +kernel
theorem dX5_passOneBeat_59 : decode cX5_passOneBeat 59 = .ok (.aload_n 0, 1) := by decide +kernel
theorem dX5_passOneBeat_60 : decode cX5_passOneBeat 60 = .ok (.getfield 37, 3) := by decide +kernel
theorem dX5_passOneBeat_63 : decode cX5_passOneBeat 63 = .ok (.aload_n 0, 1) := by decide +kernel
theorem dX5_passOneBeat_64 : decode cX5_passOneBeat 64 = .ok (.getfield 17, 3) := by decide +kernel
theorem dX5_passOneBeat_67 : decode cX5_passOneBeat 67 = .ok (.iconst 1, 1) := by decide +kernel
theorem dX5_passOneBeat_68 : decode cX5_passOneBeat 68 = .ok (.iaload, 1) := by decide +kernel
theorem dX5_passOneBeat_69 : decode cX5_passOneBeat 69 = .ok (.irem, 1) := by decide +kernel
theorem dX5_passOneBeat_70 : decode cX5_passOneBeat 70 = .ok (.ifCond .ne 10, 3) := by decide +kernel
theorem dX5_passOneBeat_73 : decode cX5_passOneBeat 73 = .ok (.aload_n 0, 1) := by decide +kernel
theorem dX5_passOneBeat_74 : decode cX5_passOneBeat 74 = .ok (.invokevirtual 72, 3) := by decide +kernel
theorem dX5_passOneBeat_77 : decode cX5_passOneBeat 77 = .ok (.ifCond .eq 4, 3) := by decide +kernel
theorem dX5_passOneBeat_80 : decode cX5_passOneBeat 80 = .ok (.return_, 1) := by decide +kernel
theorem dX5_passOneBeat_81 : decode cX5_passOneBeat 81 = .ok (.iconst 0, 1) := by decide +kernel
theorem dX5_passOneBeat_82 : decode cX5_passOneBeat 82 = .ok (.istore_n 1, 1) := by decide +kernel
theorem dX5_passOneBeat_83 : decode cX5_passOneBeat 83 = .ok (.iload_n 1, 1) := by decide +kernel
theorem dX5_passOneBeat_84 : decode cX5_passOneBeat 84 = .ok (.aload_n 0, 1) := by decide +kernel
theorem dX5_passOneBeat_85 : decode cX5_passOneBeat 85 = .ok (.getfield 34, 3) := by decide +kernel
theorem dX5_passOneBeat_88 : decode cX5_passOneBeat 88 = .ok (.if_icmp .ge 34, 3) := by decide +kernel
theorem dX5_passOneBeat_91 : decode cX5_passOneBeat 91 = .ok (.aload_n 0, 1) := by decide +kernel
theorem dX5_passOneBeat_92 : decode cX5_passOneBeat 92 = .ok (.getfield 11, 3) := by decide +kernel
theorem dX5_passOneBeat_95 : decode cX5_passOneBeat 95 = .ok (.iload_n 1, 1) := by decide +kernel
theorem dX5_passOneBeat_96 : decode cX5_passOneBeat 96 = .ok (.aaload, 1) := by decide +kernel
theorem dX5_passOneBeat_97 : decode cX5_passOneBeat 97 = .ok (.getfield 59, 3) := by decide +kernel
theorem dX5_passOneBeat_100 : decode cX5_passOneBeat 100 = .ok (.sipush 999, 3) := by decide +kernel
theorem dX5_passOneBeat_103 : decode cX5_passOneBeat 103 = .ok (.if_icmp .ge 13, 3) := by decide +kernel
theorem dX5_passOneBeat_106 : decode cX5_passOneBeat 106 = .ok (.aload_n 0, 1) := by decide +kernel
theorem dX5_passOneBeat_107 : decode cX5_passOneBeat 107 = .ok (.aload_n 0, 1) := by decide +kernel
theorem dX5_passOneBeat_108 : decode cX5_passOneBeat 108 = .ok (.getfield 11, 3) := by decide +kernel
theorem dX5_passOneBeat_111 : decode cX5_passOneBeat 111 = .ok (.iload_n 1, 1) := by decide +kernel
theorem dX5_passOneBeat_112 : decode cX5_passOneBeat 112 = .ok (.aaload, 1) := by decide +kernel
theorem dX5_passOneBeat_113 : decode cX5_passOneBeat 113 = .ok (.invokevirtual 121, 3) := by decide +kernel
theorem dX5_passOneBeat_116 : decode cX5_passOneBeat 116 = .ok (.iinc 1 1, 3) := by decide +kernel
theorem dX5_passOneBeat_119 : decode cX5_passOneBeat 119 = .ok (.goto (-36), 3) := by decide +kernel
theorem dX5_passOneBeat_122 : decode cX5_passOneBeat 122 = .ok (.return_, 1) := by decide +kernel
theorem dX5_renew_0 : decode cX5_renew 0 = .ok (.aload_n 0, 1) := by decide +kernel
theorem dX5_renew_1 : decode cX5_renew 1 = .ok (.iload_n 1, 1) := by decide +kernel
theorem dX5_renew_2 : decode cX5_renew 2 = .ok (.invokevirtual 56, 3) := by decide +kernel
theorem dX5_renew_5 : decode cX5_renew 5 = .ok (.ifCond .ne 5, 3) := by decide +kernel
theorem dX5_renew_8 : decode cX5_renew 8 = .ok (.iconst (-1), 1) := by decide +kernel
theorem dX5_renew_9 : decode cX5_renew 9 = .ok (.ireturn, 1) := by decide +kernel
theorem dX5_renew_10 : decode cX5_renew 10 = .ok (.aload_n 0, 1) := by decide +kernel
theorem dX5_renew_11 : decode cX5_renew 11 = .ok (.getfield 11, 3) := by decide +kernel
theorem dX5_renew_14 : decode cX5_renew 14 = .ok (.iload_n 1, 1) := by decide +kernel
theorem dX5_renew_15 : decode cX5_renew 15 = .ok (.aaload, 1) := by decide +kernel
theorem dX5_renew_16 : decode cX5_renew 16 = .ok (.astore_n 2, 1) := by decide +kernel
theorem dX5_renew_17 : decode cX5_renew 17 = .ok (.aload_n 0, 1) := by decide +kernel
theorem dX5_renew_18 : decode cX5_renew 18 = .ok (.invokevirtual 72, 3) := by decide +kernel
theorem dX5_renew_21 : decode cX5_renew 21 = .ok (.ifCond .ne 13, 3) := by decide +kernel
theorem dX5_renew_24 : decode cX5_renew 24 = .ok (.aload_n 2, 1) := by decide +kernel
theorem dX5_renew_25 : decode cX5_renew 25 = .ok (.getfield 59, 3) := by decide +kernel
theorem dX5_renew_28 : decode cX5_renew 28 = .ok (.sipush 999, 3) := by decide +kernel
theorem dX5_renew_31 : decode cX5_renew 31 = .ok (.if_icmp .lt 6, 3) := by decide +kernel
theorem dX5_renew_34 : decode cX5_renew 34 = .ok (.bipush (-5), 2) := by decide +kernel
theorem dX5_renew_36 : decode cX5_renew 36 = .ok (.ireturn, 1) := by decide +kernel
theorem dX5_renew_37 : decode cX5_renew 37 = .ok (.aload_n 0, 1) := by decide +kernel
theorem dX5_renew_38 : decode cX5_renew 38 = .ok (.aload_n 2, 1) := by decide +kernel
theorem dX5_renew_39 : decode cX5_renew 39 = .ok (.invokevirtual 121, 3) := by decide +kernel
theorem dX5_renew_42 : decode cX5_renew 42 = .ok (.aload_n 2, 1) := by decide +kernel
theorem dX5_renew_43 : decode cX5_renew 43 = .ok (.getfield 59, 3) := by decide +kernel
theorem dX5_renew_46 : decode cX5_renew 46 = .ok (.ireturn, 1) := by decide +kernel
theorem dX5_setOfKnown_0 : decode cX5_setOfKnown 0 = .ok (.iconst 0, 1) := by decide +kernel
theorem dX5_setOfKnown_1 : decode cX5_setOfKnown 1 = .ok (.istore_n 1, 1) := by decide +kernel
theorem dX5_setOfKnown_2 : decode cX5_setOfKnown 2 = .ok (.iconst 0, 1) := by decide +kernel
theorem dX5_setOfKnown_3 : decode cX5_setOfKnown 3 = .ok (.istore_n 2, 1) := by decide +kernel
theorem dX5_setOfKnown_4 : decode cX5_setOfKnown 4 = .ok (.iload_n 2, 1) := by decide +kernel
theorem dX5_setOfKnown_5 : decode cX5_setOfKnown 5 = .ok (.aload_n 0, 1) := by decide +kernel
theorem dX5_setOfKnown_6 : decode cX5_setOfKnown 6 = .ok (.getfield 34, 3) := by decide +kernel
theorem dX5_setOfKnown_9 : decode cX5_setOfKnown 9 = .ok (.if_icmp .ge 31, 3) := by decide +kernel
theorem dX5_setOfKnown_12 : decode cX5_setOfKnown 12 = .ok (.iload_n 1, 1) := by decide +kernel
theorem dX5_setOfKnown_13 : decode cX5_setOfKnown 13 = .ok (.aload_n 0, 1) := by decide +kernel
theorem dX5_setOfKnown_14 : decode cX5_setOfKnown 14 = .ok (.getfield 11, 3) := by decide +kernel
theorem dX5_setOfKnown_17 : decode cX5_setOfKnown 17 = .ok (.iload_n 2, 1) := by decide +kernel
theorem dX5_setOfKnown_18 : decode cX5_setOfKnown 18 = .ok (.aaload, 1) := by decide +kernel
theorem dX5_setOfKnown_19 : decode cX5_setOfKnown 19 = .ok (.getfield 179, 3) := by decide +kernel
theorem dX5_setOfKnown_22 : decode cX5_setOfKnown 22 = .ok (.ifCond .eq 9, 3) := by decide +kernel
theorem dX5_setOfKnown_25 : decode cX5_setOfKnown 25 = .ok (.iconst 1, 1) := by decide +kernel
theorem dX5_setOfKnown_26 : decode cX5_setOfKnown 26 = .ok (.iload_n 2, 1) := by decide +kernel
theorem dX5_setOfKnown_27 : decode cX5_setOfKnown 27 = .ok (.ishl, 1) := by decide +kernel
theorem dX5_setOfKnown_28 : decode cX5_setOfKnown 28 = .ok (.goto 4, 3) := by decide +kernel
theorem dX5_setOfKnown_31 : decode cX5_setOfKnown 31 = .ok (.iconst 0, 1) := by decide +kernel
theorem dX5_setOfKnown_32 : decode cX5_setOfKnown 32 = .ok (.ior, 1) := by decide +kernel
theorem dX5_setOfKnown_33 : decode cX5_setOfKnown 33 = .ok (.istore_n 1, 1) := by decide +kernel
theorem dX5_setOfKnown_34 : decode cX5_setOfKnown 34 = .ok (.iinc 2 1, 3) := by decide +kernel
theorem dX5_setOfKnown_37 : decode cX5_setOfKnown 37 = .ok (.goto (-33), 3) := by decide +kernel
theorem dX5_setOfKnown_40 : decode cX5_setOfKnown 40 = .ok (.iload_n 1, 1) := by decide +kernel
theorem dX5_setOfKnown_41 : decode cX5_setOfKnown 41 = .ok (.ireturn, 1) := by decide +kernel
theorem dX5_setOfOpen_0 : decode cX5_setOfOpen 0 = .ok (.iconst 0, 1) := by decide +kernel
theorem dX5_setOfOpen_1 : decode cX5_setOfOpen 1 = .ok (.istore_n 1, 1) := by decide +kernel
theorem dX5_setOfOpen_2 : decode cX5_setOfOpen 2 = .ok (.iconst 0, 1) := by decide +kernel
theorem dX5_setOfOpen_3 : decode cX5_setOfOpen 3 = .ok (.istore_n 2, 1) := by decide +kernel
theorem dX5_setOfOpen_4 : decode cX5_setOfOpen 4 = .ok (.iload_n 2, 1) := by decide +kernel
theorem dX5_setOfOpen_5 : decode cX5_setOfOpen 5 = .ok (.aload_n 0, 1) := by decide +kernel
theorem dX5_setOfOpen_6 : decode cX5_setOfOpen 6 = .ok (.getfield 34, 3) := by decide +kernel
theorem dX5_setOfOpen_9 : decode cX5_setOfOpen 9 = .ok (.if_icmp .ge 31, 3) := by decide +kernel
theorem dX5_setOfOpen_12 : decode cX5_setOfOpen 12 = .ok (.iload_n 1, 1) := by decide +kernel
theorem dX5_setOfOpen_13 : decode cX5_setOfOpen 13 = .ok (.aload_n 0, 1) := by decide +kernel
theorem dX5_setOfOpen_14 : decode cX5_setOfOpen 14 = .ok (.getfield 11, 3) := by decide +kernel
theorem dX5_setOfOpen_17 : decode cX5_setOfOpen 17 = .ok (.iload_n 2, 1) := by decide +kernel
theorem dX5_setOfOpen_18 : decode cX5_setOfOpen 18 = .ok (.aaload, 1) := by decide +kernel
theorem dX5_setOfOpen_19 : decode cX5_setOfOpen 19 = .ok (.getfield 164, 3) := by decide +kernel
theorem dX5_setOfOpen_22 : decode cX5_setOfOpen 22 = .ok (.ifCond .le 9, 3) := by decide +kernel
theorem dX5_setOfOpen_25 : decode cX5_setOfOpen 25 = .ok (.iconst 1, 1) := by decide +kernel
theorem dX5_setOfOpen_26 : decode cX5_setOfOpen 26 = .ok (.iload_n 2, 1) := by decide +kernel
theorem dX5_setOfOpen_27 : decode cX5_setOfOpen 27 = .ok (.ishl, 1) := by decide +kernel
theorem dX5_setOfOpen_28 : decode cX5_setOfOpen 28 = .ok (.goto 4, 3) := by decide +kernel
theorem dX5_setOfOpen_31 : decode cX5_setOfOpen 31 = .ok (.iconst 0, 1) := by decide +kernel
theorem dX5_setOfOpen_32 : decode cX5_setOfOpen 32 = .ok (.ior, 1) := by decide +kernel
theorem dX5_setOfOpen_33 : decode cX5_setOfOpen 33 = .ok (.istore_n 1, 1) := by decide +kernel
theorem dX5_setOfOpen_34 : decode cX5_setOfOpen 34 = .ok (.iinc 2 1, 3) := by decide +kernel
theorem dX5_setOfOpen_37 : decode cX5_setOfOpen 37 = .ok (.goto (-33), 3) := by decide +kernel
theorem dX5_setOfOpen_40 : decode cX5_setOfOpen 40 = .ok (.iload_n 1, 1) := by decide +kernel
theorem dX5_setOfOpen_41 : decode cX5_setOfOpen 41 = .ok (.ireturn, 1) := by decide +kernel
theorem dX5_someStoreSleeps_0 : decode cX5_someStoreSleeps 0 = .ok (.aload_n 0, 1) := by decide +kernel
theorem dX5_someStoreSleeps_1 : decode cX5_someStoreSleeps 1 = .ok (.getfield 21, 3) := by decide +kernel
theorem dX5_someStoreSleeps_4 : decode cX5_someStoreSleeps 4 = .ok (.iconst 0, 1) := by decide +kernel
theorem dX5_someStoreSleeps_5 : decode cX5_someStoreSleeps 5 = .ok (.baload, 1) := by decide +kernel
theorem dX5_someStoreSleeps_6 : decode cX5_someStoreSleeps 6 = .ok (.ifCond .ne 12, 3) := by decide +kernel
theorem dX5_someStoreSleeps_9 : decode cX5_someStoreSleeps 9 = .ok (.aload_n 0, 1) := by decide +kernel
theorem dX5_someStoreSleeps_10 : decode cX5_someStoreSleeps 10 = .ok (.getfield 21, 3) := by decide +kernel
theorem dX5_someStoreSleeps_13 : decode cX5_someStoreSleeps 13 = .ok (.iconst 1, 1) := by decide +kernel
theorem dX5_someStoreSleeps_14 : decode cX5_someStoreSleeps 14 = .ok (.baload, 1) := by decide +kernel
theorem dX5_someStoreSleeps_15 : decode cX5_someStoreSleeps 15 = .ok (.ifCond .eq 7, 3) := by decide +kernel
theorem dX5_someStoreSleeps_18 : decode cX5_someStoreSleeps 18 = .ok (.iconst 1, 1) := by decide +kernel
theorem dX5_someStoreSleeps_19 : decode cX5_someStoreSleeps 19 = .ok (.goto 4, 3) := by decide +kernel
theorem dX5_someStoreSleeps_22 : decode cX5_someStoreSleeps 22 = .ok (.iconst 0, 1) := by decide +kernel
theorem dX5_someStoreSleeps_23 : decode cX5_someStoreSleeps 23 = .ok (.ireturn, 1) := by decide +kernel
theorem dX5_tagOffsetThatPasses_0 : decode cX5_tagOffsetThatPasses 0 = .ok (.aload_n 0, 1) := by decide +kernel
theorem dX5_tagOffsetThatPasses_1 : decode cX5_tagOffsetThatPasses 1 = .ok (.iload_n 1, 1) := by decide +kernel
theorem dX5_tagOffsetThatPasses_2 : decode cX5_tagOffsetThatPasses 2 = .ok (.iload_n 2, 1) := by decide +kernel
theorem dX5_tagOffsetThatPasses_3 : decode cX5_tagOffsetThatPasses 3 = .ok (.invokevirtual 127, 3) := by decide +kernel
theorem dX5_tagOffsetThatPasses_6 : decode cX5_tagOffsetThatPasses 6 = .ok (.ifCond .ne 5, 3) := by decide +kernel
theorem dX5_tagOffsetThatPasses_9 : decode cX5_tagOffsetThatPasses 9 = .ok (.iconst (-1), 1) := by decide +kernel
theorem dX5_tagOffsetThatPasses_10 : decode cX5_tagOffsetThatPasses 10 = .ok (.ireturn, 1) := by decide +kernel
theorem dX5_tagOffsetThatPasses_11 : decode cX5_tagOffsetThatPasses 11 = .ok (.iload_n 3, 1) := by decide +kernel
theorem dX5_tagOffsetThatPasses_12 : decode cX5_tagOffsetThatPasses 12 = .ok (.invokestatic 69, 3) := by decide +kernel
theorem dX5_tagOffsetThatPasses_15 : decode cX5_tagOffsetThatPasses 15 = .ok (.ifCond .ne 6, 3) := by decide +kernel
theorem dX5_tagOffsetThatPasses_18 : decode cX5_tagOffsetThatPasses 18 = .ok (.bipush (-2), 2) := by decide +kernel
theorem dX5_tagOffsetThatPasses_20 : decode cX5_tagOffsetThatPasses 20 = .ok (.ireturn, 1) := by decide +kernel
theorem dX5_tagOffsetThatPasses_21 : decode cX5_tagOffsetThatPasses 21 = .ok (.aload_n 0, 1) := by decide +kernel
theorem dX5_tagOffsetThatPasses_22 : decode cX5_tagOffsetThatPasses 22 = .ok (.getfield 11, 3) := by decide +kernel
theorem dX5_tagOffsetThatPasses_25 : decode cX5_tagOffsetThatPasses 25 = .ok (.iload_n 2, 1) := by decide +kernel
theorem dX5_tagOffsetThatPasses_26 : decode cX5_tagOffsetThatPasses 26 = .ok (.aaload, 1) := by decide +kernel
theorem dX5_tagOffsetThatPasses_27 : decode cX5_tagOffsetThatPasses 27 = .ok (.iload_n 1, 1) := by decide +kernel
theorem dX5_tagOffsetThatPasses_28 : decode cX5_tagOffsetThatPasses 28 = .ok (.invokevirtual 134, 3) := by decide +kernel
theorem dX5_tagOffsetThatPasses_31 : decode cX5_tagOffsetThatPasses 31 = .ok (.astore 4, 2) := by decide +kernel
theorem dX5_tagOffsetThatPasses_33 : decode cX5_tagOffsetThatPasses 33 = .ok (.aload_n 0, 1) := by decide +kernel
theorem dX5_tagOffsetThatPasses_34 : decode cX5_tagOffsetThatPasses 34 = .ok (.getfield 11, 3) := by decide +kernel
theorem dX5_tagOffsetThatPasses_37 : decode cX5_tagOffsetThatPasses 37 = .ok (.iload_n 2, 1) := by decide +kernel
theorem dX5_tagOffsetThatPasses_38 : decode cX5_tagOffsetThatPasses 38 = .ok (.aaload, 1) := by decide +kernel
theorem dX5_tagOffsetThatPasses_39 : decode cX5_tagOffsetThatPasses 39 = .ok (.iload_n 1, 1) := by decide +kernel
theorem dX5_tagOffsetThatPasses_40 : decode cX5_tagOffsetThatPasses 40 = .ok (.invokevirtual 198, 3) := by decide +kernel
theorem dX5_tagOffsetThatPasses_43 : decode cX5_tagOffsetThatPasses 43 = .ok (.astore 5, 2) := by decide +kernel
theorem dX5_tagOffsetThatPasses_45 : decode cX5_tagOffsetThatPasses 45 = .ok (.aload 5, 2) := by decide +kernel
theorem dX5_tagOffsetThatPasses_47 : decode cX5_tagOffsetThatPasses 47 = .ok (.aload 4, 2) := by decide +kernel
theorem dX5_tagOffsetThatPasses_49 : decode cX5_tagOffsetThatPasses 49 = .ok (.iload_n 3, 1) := by decide +kernel
theorem dX5_tagOffsetThatPasses_50 : decode cX5_tagOffsetThatPasses 50 = .ok (.invokevirtual 201, 3) := by decide +kernel
theorem dX5_tagOffsetThatPasses_53 : decode cX5_tagOffsetThatPasses 53 = .ok (.invokevirtual 108, 3) := by decide +kernel
theorem dX5_tagOffsetThatPasses_56 : decode cX5_tagOffsetThatPasses 56 = .ok (.aload 4, 2) := by decide +kernel
theorem dX5_tagOffsetThatPasses_58 : decode cX5_tagOffsetThatPasses 58 = .ok (.getfield 112, 3) := by decide +kernel
theorem dX5_tagOffsetThatPasses_61 : decode cX5_tagOffsetThatPasses 61 = .ok (.isub, 1) := by decide +kernel
theorem dX5_tagOffsetThatPasses_62 : decode cX5_tagOffsetThatPasses 62 = .ok (.sipush 257, 3) := by decide +kernel
theorem dX5_tagOffsetThatPasses_65 : decode cX5_tagOffsetThatPasses 65 = .ok (.invokestatic 96, 3) := by decide +kernel
theorem dX5_tagOffsetThatPasses_68 : decode cX5_tagOffsetThatPasses 68 = .ok (.ireturn, 1) := by decide +kernel
theorem dX5_takeUpLie_0 : decode cX5_takeUpLie 0 = .ok (.aload_n 0, 1) := by decide +kernel
theorem dX5_takeUpLie_1 : decode cX5_takeUpLie 1 = .ok (.iload_n 1, 1) := by decide +kernel
theorem dX5_takeUpLie_2 : decode cX5_takeUpLie 2 = .ok (.iload_n 2, 1) := by decide +kernel
theorem dX5_takeUpLie_3 : decode cX5_takeUpLie 3 = .ok (.invokevirtual 127, 3) := by decide +kernel
theorem dX5_takeUpLie_6 : decode cX5_takeUpLie 6 = .ok (.ifCond .ne 5, 3) := by decide +kernel
theorem dX5_takeUpLie_9 : decode cX5_takeUpLie 9 = .ok (.iconst (-1), 1) := by decide +kernel
theorem dX5_takeUpLie_10 : decode cX5_takeUpLie 10 = .ok (.ireturn, 1) := by decide +kernel
theorem dX5_takeUpLie_11 : decode cX5_takeUpLie 11 = .ok (.iload_n 3, 1) := by decide +kernel
theorem dX5_takeUpLie_12 : decode cX5_takeUpLie 12 = .ok (.invokestatic 69, 3) := by decide +kernel
theorem dX5_takeUpLie_15 : decode cX5_takeUpLie 15 = .ok (.ifCond .eq 11, 3) := by decide +kernel
theorem dX5_takeUpLie_18 : decode cX5_takeUpLie 18 = .ok (.iload 4, 2) := by decide +kernel
theorem dX5_takeUpLie_20 : decode cX5_takeUpLie 20 = .ok (.invokestatic 131, 3) := by decide +kernel
theorem dX5_takeUpLie_23 : decode cX5_takeUpLie 23 = .ok (.ifCond .ne 6, 3) := by decide +kernel
theorem dX5_takeUpLie_26 : decode cX5_takeUpLie 26 = .ok (.bipush (-2), 2) := by decide +kernel
theorem dX5_takeUpLie_28 : decode cX5_takeUpLie 28 = .ok (.ireturn, 1) := by decide +kernel
theorem dX5_takeUpLie_29 : decode cX5_takeUpLie 29 = .ok (.aload_n 0, 1) := by decide +kernel
theorem dX5_takeUpLie_30 : decode cX5_takeUpLie 30 = .ok (.getfield 11, 3) := by decide +kernel
theorem dX5_takeUpLie_33 : decode cX5_takeUpLie 33 = .ok (.iload_n 2, 1) := by decide +kernel
theorem dX5_takeUpLie_34 : decode cX5_takeUpLie 34 = .ok (.aaload, 1) := by decide +kernel
theorem dX5_takeUpLie_35 : decode cX5_takeUpLie 35 = .ok (.iload_n 1, 1) := by decide +kernel
theorem dX5_takeUpLie_36 : decode cX5_takeUpLie 36 = .ok (.invokevirtual 134, 3) := by decide +kernel
theorem dX5_takeUpLie_39 : decode cX5_takeUpLie 39 = .ok (.astore 5, 2) := by decide +kernel
theorem dX5_takeUpLie_41 : decode cX5_takeUpLie 41 = .ok (.aload 5, 2) := by decide +kernel
theorem dX5_takeUpLie_43 : decode cX5_takeUpLie 43 = .ok (.getfield 138, 3) := by decide +kernel
theorem dX5_takeUpLie_46 : decode cX5_takeUpLie 46 = .ok (.istore 6, 2) := by decide +kernel
theorem dX5_takeUpLie_48 : decode cX5_takeUpLie 48 = .ok (.aload 5, 2) := by decide +kernel
theorem dX5_takeUpLie_50 : decode cX5_takeUpLie 50 = .ok (.iload_n 3, 1) := by decide +kernel
theorem dX5_takeUpLie_51 : decode cX5_takeUpLie 51 = .ok (.putfield 138, 3) := by decide +kernel
theorem dX5_takeUpLie_54 : decode cX5_takeUpLie 54 = .ok (.aload 5, 2) := by decide +kernel
theorem dX5_takeUpLie_56 : decode cX5_takeUpLie 56 = .ok (.iload 4, 2) := by decide +kernel
theorem dX5_takeUpLie_58 : decode cX5_takeUpLie 58 = .ok (.putfield 141, 3) := by decide +kernel
theorem dX5_takeUpLie_61 : decode cX5_takeUpLie 61 = .ok (.iload 6, 2) := by decide +kernel
theorem dX5_takeUpLie_63 : decode cX5_takeUpLie 63 = .ok (.ireturn, 1) := by decide +kernel
theorem dX5_turnSleep_0 : decode cX5_turnSleep 0 = .ok (.iload_n 1, 1) := by decide +kernel
theorem dX5_turnSleep_1 : decode cX5_turnSleep 1 = .ok (.invokestatic 52, 3) := by decide +kernel
theorem dX5_turnSleep_4 : decode cX5_turnSleep 4 = .ok (.ifCond .ne 5, 3) := by decide +kernel
theorem dX5_turnSleep_7 : decode cX5_turnSleep 7 = .ok (.iconst (-1), 1) := by decide +kernel
theorem dX5_turnSleep_8 : decode cX5_turnSleep 8 = .ok (.ireturn, 1) := by decide +kernel
theorem dX5_turnSleep_9 : decode cX5_turnSleep 9 = .ok (.aload_n 0, 1) := by decide +kernel
theorem dX5_turnSleep_10 : decode cX5_turnSleep 10 = .ok (.getfield 21, 3) := by decide +kernel
theorem dX5_turnSleep_13 : decode cX5_turnSleep 13 = .ok (.iload_n 1, 1) := by decide +kernel
theorem dX5_turnSleep_14 : decode cX5_turnSleep 14 = .ok (.aload_n 0, 1) := by decide +kernel
theorem dX5_turnSleep_15 : decode cX5_turnSleep 15 = .ok (.getfield 21, 3) := by decide +kernel
theorem dX5_turnSleep_18 : decode cX5_turnSleep 18 = .ok (.iload_n 1, 1) := by decide +kernel
theorem dX5_turnSleep_19 : decode cX5_turnSleep 19 = .ok (.baload, 1) := by decide +kernel
theorem dX5_turnSleep_20 : decode cX5_turnSleep 20 = .ok (.ifCond .ne 7, 3) := by decide +kernel
theorem dX5_turnSleep_23 : decode cX5_turnSleep 23 = .ok (.iconst 1, 1) := by decide +kernel
theorem dX5_turnSleep_24 : decode cX5_turnSleep 24 = .ok (.goto 4, 3) := by decide +kernel
theorem dX5_turnSleep_27 : decode cX5_turnSleep 27 = .ok (.iconst 0, 1) := by decide +kernel
theorem dX5_turnSleep_28 : decode cX5_turnSleep 28 = .ok (.bastore, 1) := by decide +kernel
theorem dX5_turnSleep_29 : decode cX5_turnSleep 29 = .ok (.aload_n 0, 1) := by decide +kernel
theorem dX5_turnSleep_30 : decode cX5_turnSleep 30 = .ok (.getfield 21, 3) := by decide +kernel
theorem dX5_turnSleep_33 : decode cX5_turnSleep 33 = .ok (.iload_n 1, 1) := by decide +kernel
theorem dX5_turnSleep_34 : decode cX5_turnSleep 34 = .ok (.baload, 1) := by decide +kernel
theorem dX5_turnSleep_35 : decode cX5_turnSleep 35 = .ok (.ifCond .eq 7, 3) := by decide +kernel
theorem dX5_turnSleep_38 : decode cX5_turnSleep 38 = .ok (.iconst 1, 1) := by decide +kernel
theorem dX5_turnSleep_39 : decode cX5_turnSleep 39 = .ok (.goto 4, 3) := by decide +kernel
theorem dX5_turnSleep_42 : decode cX5_turnSleep 42 = .ok (.iconst 0, 1) := by decide +kernel
theorem dX5_turnSleep_43 : decode cX5_turnSleep 43 = .ok (.ireturn, 1) := by decide +kernel
theorem dX5_versionNow_0 : decode cX5_versionNow 0 = .ok (.aload_n 0, 1) := by decide +kernel
theorem dX5_versionNow_1 : decode cX5_versionNow 1 = .ok (.iload_n 1, 1) := by decide +kernel
theorem dX5_versionNow_2 : decode cX5_versionNow 2 = .ok (.invokevirtual 56, 3) := by decide +kernel
theorem dX5_versionNow_5 : decode cX5_versionNow 5 = .ok (.ifCond .eq 15, 3) := by decide +kernel
theorem dX5_versionNow_8 : decode cX5_versionNow 8 = .ok (.aload_n 0, 1) := by decide +kernel
theorem dX5_versionNow_9 : decode cX5_versionNow 9 = .ok (.getfield 11, 3) := by decide +kernel
theorem dX5_versionNow_12 : decode cX5_versionNow 12 = .ok (.iload_n 1, 1) := by decide +kernel
theorem dX5_versionNow_13 : decode cX5_versionNow 13 = .ok (.aaload, 1) := by decide +kernel
theorem dX5_versionNow_14 : decode cX5_versionNow 14 = .ok (.getfield 59, 3) := by decide +kernel
theorem dX5_versionNow_17 : decode cX5_versionNow 17 = .ok (.goto 4, 3) := by decide +kernel
theorem dX5_versionNow_20 : decode cX5_versionNow 20 = .ok (.iconst (-1), 1) := by decide +kernel
theorem dX5_versionNow_21 : decode cX5_versionNow 21 = .ok (.ireturn, 1) := by decide +kernel
theorem dX5_versionsAtRisk_0 : decode cX5_versionsAtRisk 0 = .ok (.aload_n 0, 1) := by decide +kernel
theorem dX5_versionsAtRisk_1 : decode cX5_versionsAtRisk 1 = .ok (.iload_n 1, 1) := by decide +kernel
theorem dX5_versionsAtRisk_2 : decode cX5_versionsAtRisk 2 = .ok (.invokevirtual 56, 3) := by decide +kernel
theorem dX5_versionsAtRisk_5 : decode cX5_versionsAtRisk 5 = .ok (.ifCond .eq 15, 3) := by decide +kernel
theorem dX5_versionsAtRisk_8 : decode cX5_versionsAtRisk 8 = .ok (.aload_n 0, 1) := by decide +kernel
theorem dX5_versionsAtRisk_9 : decode cX5_versionsAtRisk 9 = .ok (.getfield 11, 3) := by decide +kernel
theorem dX5_versionsAtRisk_12 : decode cX5_versionsAtRisk 12 = .ok (.iload_n 1, 1) := by decide +kernel
theorem dX5_versionsAtRisk_13 : decode cX5_versionsAtRisk 13 = .ok (.aaload, 1) := by decide +kernel
theorem dX5_versionsAtRisk_14 : decode cX5_versionsAtRisk 14 = .ok (.invokevirtual 208, 3) := by decide +kernel
theorem dX5_versionsAtRisk_17 : decode cX5_versionsAtRisk 17 = .ok (.goto 4, 3) := by decide +kernel
theorem dX5_versionsAtRisk_20 : decode cX5_versionsAtRisk 20 = .ok (.iconst (-1), 1) := by decide +kernel
theorem dX5_versionsAtRisk_21 : decode cX5_versionsAtRisk 21 = .ok (.ireturn, 1) := by decide +kernel
theorem dX6_answerOfOrder_0 : decode cX6_answerOfOrder 0 = .ok (.aload_n 0, 1) := by decide +kernel
theorem dX6_answerOfOrder_1 : decode cX6_answerOfOrder 1 = .ok (.getfield 43, 3) := by decide +kernel
theorem dX6_answerOfOrder_4 : decode cX6_answerOfOrder 4 = .ok (.getfield 163, 3) := by decide +kernel
theorem dX6_answerOfOrder_7 : decode cX6_answerOfOrder 7 = .ok (.tableswitch 265 98 122 #[250, 265, 265, 265, 265, 265, 265, 265, 265, 113, 188, 158, 265, 265, 265, 265, 128, 265, 224, 143, 265, 265, 265, 265, 173], 113) := by decide +kernel
theorem dX6_answerOfOrder_120 : decode cX6_answerOfOrder 120 = .ok (.aload_n 0, 1) := by decide +kernel
theorem dX6_answerOfOrder_121 : decode cX6_answerOfOrder 121 = .ok (.getfield 12, 3) := by decide +kernel
theorem dX6_answerOfOrder_124 : decode cX6_answerOfOrder 124 = .ok (.aload_n 0, 1) := by decide +kernel
theorem dX6_answerOfOrder_125 : decode cX6_answerOfOrder 125 = .ok (.getfield 43, 3) := by decide +kernel
theorem dX6_answerOfOrder_128 : decode cX6_answerOfOrder 128 = .ok (.getfield 167, 3) := by decide +kernel
theorem dX6_answerOfOrder_131 : decode cX6_answerOfOrder 131 = .ok (.invokevirtual 62, 3) := by decide +kernel
theorem dX6_answerOfOrder_134 : decode cX6_answerOfOrder 134 = .ok (.ireturn, 1) := by decide +kernel
theorem dX6_answerOfOrder_135 : decode cX6_answerOfOrder 135 = .ok (.aload_n 0, 1) := by decide +kernel
theorem dX6_answerOfOrder_136 : decode cX6_answerOfOrder 136 = .ok (.getfield 12, 3) := by decide +kernel
theorem dX6_answerOfOrder_139 : decode cX6_answerOfOrder 139 = .ok (.aload_n 0, 1) := by decide +kernel
theorem dX6_answerOfOrder_140 : decode cX6_answerOfOrder 140 = .ok (.getfield 43, 3) := by decide +kernel
theorem dX6_answerOfOrder_143 : decode cX6_answerOfOrder 143 = .ok (.getfield 170, 3) := by decide +kernel
theorem dX6_answerOfOrder_146 : decode cX6_answerOfOrder 146 = .ok (.invokevirtual 65, 3) := by decide +kernel
theorem dX6_answerOfOrder_149 : decode cX6_answerOfOrder 149 = .ok (.ireturn, 1) := by decide +kernel
theorem dX6_answerOfOrder_150 : decode cX6_answerOfOrder 150 = .ok (.aload_n 0, 1) := by decide +kernel
theorem dX6_answerOfOrder_151 : decode cX6_answerOfOrder 151 = .ok (.getfield 12, 3) := by decide +kernel
theorem dX6_answerOfOrder_154 : decode cX6_answerOfOrder 154 = .ok (.aload_n 0, 1) := by decide +kernel
theorem dX6_answerOfOrder_155 : decode cX6_answerOfOrder 155 = .ok (.getfield 43, 3) := by decide +kernel
theorem dX6_answerOfOrder_158 : decode cX6_answerOfOrder 158 = .ok (.getfield 170, 3) := by decide +kernel
theorem dX6_answerOfOrder_161 : decode cX6_answerOfOrder 161 = .ok (.invokevirtual 68, 3) := by decide +kernel
theorem dX6_answerOfOrder_164 : decode cX6_answerOfOrder 164 = .ok (.ireturn, 1) := by decide +kernel
theorem dX6_answerOfOrder_165 : decode cX6_answerOfOrder 165 = .ok (.aload_n 0, 1) := by decide +kernel
theorem dX6_answerOfOrder_166 : decode cX6_answerOfOrder 166 = .ok (.getfield 12, 3) := by decide +kernel
theorem dX6_answerOfOrder_169 : decode cX6_answerOfOrder 169 = .ok (.aload_n 0, 1) := by decide +kernel
theorem dX6_answerOfOrder_170 : decode cX6_answerOfOrder 170 = .ok (.getfield 43, 3) := by decide +kernel
theorem dX6_answerOfOrder_173 : decode cX6_answerOfOrder 173 = .ok (.getfield 170, 3) := by decide +kernel
theorem dX6_answerOfOrder_176 : decode cX6_answerOfOrder 176 = .ok (.invokevirtual 78, 3) := by decide +kernel
theorem dX6_answerOfOrder_179 : decode cX6_answerOfOrder 179 = .ok (.ireturn, 1) := by decide +kernel
theorem dX6_answerOfOrder_180 : decode cX6_answerOfOrder 180 = .ok (.aload_n 0, 1) := by decide +kernel
theorem dX6_answerOfOrder_181 : decode cX6_answerOfOrder 181 = .ok (.getfield 12, 3) := by decide +kernel
theorem dX6_answerOfOrder_184 : decode cX6_answerOfOrder 184 = .ok (.aload_n 0, 1) := by decide +kernel
theorem dX6_answerOfOrder_185 : decode cX6_answerOfOrder 185 = .ok (.getfield 43, 3) := by decide +kernel
theorem dX6_answerOfOrder_188 : decode cX6_answerOfOrder 188 = .ok (.getfield 173, 3) := by decide +kernel
theorem dX6_answerOfOrder_191 : decode cX6_answerOfOrder 191 = .ok (.invokevirtual 71, 3) := by decide +kernel
theorem dX6_answerOfOrder_194 : decode cX6_answerOfOrder 194 = .ok (.ireturn, 1) := by decide +kernel
theorem dX6_answerOfOrder_195 : decode cX6_answerOfOrder 195 = .ok (.aload_n 0, 1) := by decide +kernel
theorem dX6_answerOfOrder_196 : decode cX6_answerOfOrder 196 = .ok (.getfield 12, 3) := by decide +kernel
theorem dX6_answerOfOrder_199 : decode cX6_answerOfOrder 199 = .ok (.aload_n 0, 1) := by decide +kernel
theorem dX6_answerOfOrder_200 : decode cX6_answerOfOrder 200 = .ok (.getfield 43, 3) := by decide +kernel
theorem dX6_answerOfOrder_203 : decode cX6_answerOfOrder 203 = .ok (.getfield 173, 3) := by decide +kernel
theorem dX6_answerOfOrder_206 : decode cX6_answerOfOrder 206 = .ok (.aload_n 0, 1) := by decide +kernel
theorem dX6_answerOfOrder_207 : decode cX6_answerOfOrder 207 = .ok (.getfield 43, 3) := by decide +kernel
theorem dX6_answerOfOrder_210 : decode cX6_answerOfOrder 210 = .ok (.getfield 170, 3) := by decide +kernel
theorem dX6_answerOfOrder_213 : decode cX6_answerOfOrder 213 = .ok (.aload_n 0, 1) := by decide +kernel
theorem dX6_answerOfOrder_214 : decode cX6_answerOfOrder 214 = .ok (.getfield 43, 3) := by decide +kernel
theorem dX6_answerOfOrder_217 : decode cX6_answerOfOrder 217 = .ok (.getfield 167, 3) := by decide +kernel
theorem dX6_answerOfOrder_220 : decode cX6_answerOfOrder 220 = .ok (.aload_n 0, 1) := by decide +kernel
theorem dX6_answerOfOrder_221 : decode cX6_answerOfOrder 221 = .ok (.getfield 43, 3) := by decide +kernel
theorem dX6_answerOfOrder_224 : decode cX6_answerOfOrder 224 = .ok (.getfield 176, 3) := by decide +kernel
theorem dX6_answerOfOrder_227 : decode cX6_answerOfOrder 227 = .ok (.invokevirtual 74, 3) := by decide +kernel
theorem dX6_answerOfOrder_230 : decode cX6_answerOfOrder 230 = .ok (.ireturn, 1) := by decide +kernel
theorem dX6_answerOfOrder_231 : decode cX6_answerOfOrder 231 = .ok (.aload_n 0, 1) := by decide +kernel
theorem dX6_answerOfOrder_232 : decode cX6_answerOfOrder 232 = .ok (.getfield 12, 3) := by decide +kernel
theorem dX6_answerOfOrder_235 : decode cX6_answerOfOrder 235 = .ok (.aload_n 0, 1) := by decide +kernel
theorem dX6_answerOfOrder_236 : decode cX6_answerOfOrder 236 = .ok (.getfield 43, 3) := by decide +kernel
theorem dX6_answerOfOrder_239 : decode cX6_answerOfOrder 239 = .ok (.getfield 173, 3) := by decide +kernel
theorem dX6_answerOfOrder_242 : decode cX6_answerOfOrder 242 = .ok (.aload_n 0, 1) := by decide +kernel
theorem dX6_answerOfOrder_243 : decode cX6_answerOfOrder 243 = .ok (.getfield 43, 3) := by decide +kernel
theorem dX6_answerOfOrder_246 : decode cX6_answerOfOrder 246 = .ok (.getfield 170, 3) := by decide +kernel
theorem dX6_answerOfOrder_249 : decode cX6_answerOfOrder 249 = .ok (.aload_n 0, 1) := by decide +kernel
theorem dX6_answerOfOrder_250 : decode cX6_answerOfOrder 250 = .ok (.invokevirtual 179, 3) := by decide +kernel
theorem dX6_answerOfOrder_253 : decode cX6_answerOfOrder 253 = .ok (.invokevirtual 81, 3) := by decide +kernel
theorem dX6_answerOfOrder_256 : decode cX6_answerOfOrder 256 = .ok (.ireturn, 1) := by decide +kernel
theorem dX6_answerOfOrder_257 : decode cX6_answerOfOrder 257 = .ok (.aload_n 0, 1) := by decide +kernel
theorem dX6_answerOfOrder_258 : decode cX6_answerOfOrder 258 = .ok (.getfield 12, 3) := by decide +kernel
theorem dX6_answerOfOrder_261 : decode cX6_answerOfOrder 261 = .ok (.aload_n 0, 1) := by decide +kernel
theorem dX6_answerOfOrder_262 : decode cX6_answerOfOrder 262 = .ok (.getfield 43, 3) := by decide +kernel
theorem dX6_answerOfOrder_265 : decode cX6_answerOfOrder 265 = .ok (.getfield 167, 3) := by decide +kernel
theorem dX6_answerOfOrder_268 : decode cX6_answerOfOrder 268 = .ok (.invokevirtual 85, 3) := by decide +kernel
theorem dX6_answerOfOrder_271 : decode cX6_answerOfOrder 271 = .ok (.ireturn, 1) := by decide +kernel
theorem dX6_answerOfOrder_272 : decode cX6_answerOfOrder 272 = .ok (.bipush (-3), 2) := by decide +kernel
theorem dX6_answerOfOrder_274 : decode cX6_answerOfOrder 274 = .ok (.ireturn, 1) := by decide +kernel
theorem dX6_atRisk_0 : decode cX6_atRisk 0 = .ok (.aload_n 0, 1) := by decide +kernel
theorem dX6_atRisk_1 : decode cX6_atRisk 1 = .ok (.getfield 12, 3) := by decide +kernel
theorem dX6_atRisk_4 : decode cX6_atRisk 4 = .ok (.iload_n 1, 1) := by decide +kernel
theorem dX6_atRisk_5 : decode cX6_atRisk 5 = .ok (.invokevirtual 119, 3) := by decide +kernel
theorem dX6_atRisk_8 : decode cX6_atRisk 8 = .ok (.ireturn, 1) := by decide +kernel
theorem dX6_burn_0 : decode cX6_burn 0 = .ok (.aload_n 0, 1) := by decide +kernel
theorem dX6_burn_1 : decode cX6_burn 1 = .ok (.getfield 19, 3) := by decide +kernel
theorem dX6_burn_4 : decode cX6_burn 4 = .ok (.aload_n 0, 1) := by decide +kernel
theorem dX6_burn_5 : decode cX6_burn 5 = .ok (.getfield 12, 3) := by decide +kernel
theorem dX6_burn_8 : decode cX6_burn 8 = .ok (.invokevirtual 47, 3) := by decide +kernel
theorem dX6_burn_11 : decode cX6_burn 11 = .ok (.aload_n 0, 1) := by decide +kernel
theorem dX6_burn_12 : decode cX6_burn 12 = .ok (.aload_n 0, 1) := by decide +kernel
theorem dX6_burn_13 : decode cX6_burn 13 = .ok (.getfield 12, 3) := by decide +kernel
theorem dX6_burn_16 : decode cX6_burn 16 = .ok (.iload_n 1, 1) := by decide +kernel
theorem dX6_burn_17 : decode cX6_burn 17 = .ok (.invokevirtual 68, 3) := by decide +kernel
theorem dX6_burn_20 : decode cX6_burn 20 = .ok (.invokevirtual 55, 3) := by decide +kernel
theorem dX6_burn_23 : decode cX6_burn 23 = .ok (.ireturn, 1) := by decide +kernel
theorem dX6_carryOut_0 : decode cX6_carryOut 0 = .ok (.aload_n 0, 1) := by decide +kernel
theorem dX6_carryOut_1 : decode cX6_carryOut 1 = .ok (.getfield 43, 3) := by decide +kernel
theorem dX6_carryOut_4 : decode cX6_carryOut 4 = .ok (.invokevirtual 133, 3) := by decide +kernel
theorem dX6_carryOut_7 : decode cX6_carryOut 7 = .ok (.bipush (-6), 2) := by decide +kernel
theorem dX6_carryOut_9 : decode cX6_carryOut 9 = .ok (.if_icmp .eq 6, 3) := by decide +kernel
theorem dX6_carryOut_12 : decode cX6_carryOut 12 = .ok (.bipush (-3), 2) := by decide +kernel
theorem dX6_carryOut_14 : decode cX6_carryOut 14 = .ok (.ireturn, 1) := by decide +kernel
theorem dX6_carryOut_15 : decode cX6_carryOut 15 = .ok (.aload_n 0, 1) := by decide +kernel
theorem dX6_carryOut_16 : decode cX6_carryOut 16 = .ok (.getfield 19, 3) := by decide +kernel
theorem dX6_carryOut_19 : decode cX6_carryOut 19 = .ok (.aload_n 0, 1) := by decide +kernel
theorem dX6_carryOut_20 : decode cX6_carryOut 20 = .ok (.getfield 12, 3) := by decide +kernel
theorem dX6_carryOut_23 : decode cX6_carryOut 23 = .ok (.invokevirtual 47, 3) := by decide +kernel
theorem dX6_carryOut_26 : decode cX6_carryOut 26 = .ok (.aload_n 0, 1) := by decide +kernel
theorem dX6_carryOut_27 : decode cX6_carryOut 27 = .ok (.getfield 43, 3) := by decide +kernel
theorem dX6_carryOut_30 : decode cX6_carryOut 30 = .ok (.invokevirtual 136, 3) := by decide +kernel
theorem dX6_carryOut_33 : decode cX6_carryOut 33 = .ok (.iconst 0, 1) := by decide +kernel
theorem dX6_carryOut_34 : decode cX6_carryOut 34 = .ok (.istore_n 1, 1) := by decide +kernel
theorem dX6_carryOut_35 : decode cX6_carryOut 35 = .ok (.iload_n 1, 1) := by decide +kernel
theorem dX6_carryOut_36 : decode cX6_carryOut 36 = .ok (.bipush 80, 2) := by decide +kernel
theorem dX6_carryOut_38 : decode cX6_carryOut 38 = .ok (.if_icmp .ge 26, 3) := by decide +kernel
theorem dX6_carryOut_41 : decode cX6_carryOut 41 = .ok (.aload_n 0, 1) := by decide +kernel
theorem dX6_carryOut_42 : decode cX6_carryOut 42 = .ok (.getfield 43, 3) := by decide +kernel
theorem dX6_carryOut_45 : decode cX6_carryOut 45 = .ok (.invokevirtual 139, 3) := by decide +kernel
theorem dX6_carryOut_48 : decode cX6_carryOut 48 = .ok (.ifCond .eq 16, 3) := by decide +kernel
theorem dX6_carryOut_51 : decode cX6_carryOut 51 = .ok (.aload_n 0, 1) := by decide +kernel
theorem dX6_carryOut_52 : decode cX6_carryOut 52 = .ok (.invokevirtual 143, 3) := by decide +kernel
theorem dX6_carryOut_55 : decode cX6_carryOut 55 = .ok (.ifCond .lt 9, 3) := by decide +kernel
theorem dX6_carryOut_58 : decode cX6_carryOut 58 = .ok (.iinc 1 1, 3) := by decide +kernel
theorem dX6_carryOut_61 : decode cX6_carryOut 61 = .ok (.goto (-26), 3) := by decide +kernel
theorem dX6_carryOut_64 : decode cX6_carryOut 64 = .ok (.aload_n 0, 1) := by decide +kernel
theorem dX6_carryOut_65 : decode cX6_carryOut 65 = .ok (.getfield 34, 3) := by decide +kernel
theorem dX6_carryOut_68 : decode cX6_carryOut 68 = .ok (.invokevirtual 129, 3) := by decide +kernel
theorem dX6_carryOut_71 : decode cX6_carryOut 71 = .ok (.pop, 1) := by decide +kernel
theorem dX6_carryOut_72 : decode cX6_carryOut 72 = .ok (.aload_n 0, 1) := by decide +kernel
theorem dX6_carryOut_73 : decode cX6_carryOut 73 = .ok (.iload_n 1, 1) := by decide +kernel
theorem dX6_carryOut_74 : decode cX6_carryOut 74 = .ok (.invokevirtual 55, 3) := by decide +kernel
theorem dX6_carryOut_77 : decode cX6_carryOut 77 = .ok (.ireturn, 1) := by decide +kernel
theorem dX6_count_0 : decode cX6_count 0 = .ok (.iload_n 1, 1) := by decide +kernel
theorem dX6_count_1 : decode cX6_count 1 = .ok (.bipush 14, 2) := by decide +kernel
theorem dX6_count_3 : decode cX6_count 3 = .ok (.if_icmp .ne 11, 3) := by decide +kernel
theorem dX6_count_6 : decode cX6_count 6 = .ok (.aload_n 0, 1) := by decide +kernel
theorem dX6_count_7 : decode cX6_count 7 = .ok (.getfield 34, 3) := by decide +kernel
theorem dX6_count_10 : decode cX6_count 10 = .ok (.getfield 97, 3) := by decide +kernel
theorem dX6_count_13 : decode cX6_count 13 = .ok (.ireturn, 1) := by decide +kernel
theorem dX6_count_14 : decode cX6_count 14 = .ok (.iload_n 1, 1) := by decide +kernel
theorem dX6_count_15 : decode cX6_count 15 = .ok (.bipush 15, 2) := by decide +kernel
theorem dX6_count_17 : decode cX6_count 17 = .ok (.if_icmp .ne 11, 3) := by decide +kernel
theorem dX6_count_20 : decode cX6_count 20 = .ok (.aload_n 0, 1) := by decide +kernel
theorem dX6_count_21 : decode cX6_count 21 = .ok (.getfield 19, 3) := by decide +kernel
theorem dX6_count_24 : decode cX6_count 24 = .ok (.getfield 101, 3) := by decide +kernel
theorem dX6_count_27 : decode cX6_count 27 = .ok (.ireturn, 1) := by decide +kernel
theorem dX6_count_28 : decode cX6_count 28 = .ok (.aload_n 0, 1) := by decide +kernel
theorem dX6_count_29 : decode cX6_count 29 = .ok (.getfield 12, 3) := by decide +kernel
theorem dX6_count_32 : decode cX6_count 32 = .ok (.iload_n 1, 1) := by decide +kernel
theorem dX6_count_33 : decode cX6_count 33 = .ok (.invokevirtual 104, 3) := by decide +kernel
theorem dX6_count_36 : decode cX6_count 36 = .ok (.ireturn, 1) := by decide +kernel
theorem dX6_fault_0 : decode cX6_fault 0 = .ok (.aload_n 0, 1) := by decide +kernel
theorem dX6_fault_1 : decode cX6_fault 1 = .ok (.getfield 43, 3) := by decide +kernel
theorem dX6_fault_4 : decode cX6_fault 4 = .ok (.invokevirtual 133, 3) := by decide +kernel
theorem dX6_fault_7 : decode cX6_fault 7 = .ok (.ireturn, 1) := by decide +kernel
theorem dX6_ifMerged_0 : decode cX6_ifMerged 0 = .ok (.aload_n 0, 1) := by decide +kernel
theorem dX6_ifMerged_1 : decode cX6_ifMerged 1 = .ok (.getfield 12, 3) := by decide +kernel
theorem dX6_ifMerged_4 : decode cX6_ifMerged 4 = .ok (.iload_n 1, 1) := by decide +kernel
theorem dX6_ifMerged_5 : decode cX6_ifMerged 5 = .ok (.invokevirtual 122, 3) := by decide +kernel
theorem dX6_ifMerged_8 : decode cX6_ifMerged 8 = .ok (.ireturn, 1) := by decide +kernel
theorem dX6_init_0 : decode cX6_init 0 = .ok (.aload_n 0, 1) := by decide +kernel
theorem dX6_init_1 : decode cX6_init 1 = .ok (.invokespecial 3, 3) := by decide +kernel
theorem dX6_init_4 : decode cX6_init 4 = .ok (.aload_n 0, 1) := by decide +kernel
theorem dX6_init_5 : decode cX6_init 5 = .ok (.new 9, 3) := by decide +kernel
theorem dX6_init_8 : decode cX6_init 8 = .ok (.dup, 1) := by decide +kernel
theorem dX6_init_9 : decode cX6_init 9 = .ok (.invokespecial 11, 3) := by decide +kernel
theorem dX6_init_12 : decode cX6_init 12 = .ok (.putfield 12, 3) := by decide +kernel
theorem dX6_init_15 : decode cX6_init 15 = .ok (.aload_n 0, 1) := by decide +kernel
theorem dX6_init_16 : decode cX6_init 16 = .ok (.new 16, 3) := by decide +kernel
theorem dX6_init_19 : decode cX6_init 19 = .ok (.dup, 1) := by decide +kernel
theorem dX6_init_20 : decode cX6_init 20 = .ok (.invokespecial 18, 3) := by decide +kernel
theorem dX6_init_23 : decode cX6_init 23 = .ok (.putfield 19, 3) := by decide +kernel
theorem dX6_init_26 : decode cX6_init 26 = .ok (.aload_n 0, 1) := by decide +kernel
theorem dX6_init_27 : decode cX6_init 27 = .ok (.iconst 2, 1) := by decide +kernel
theorem dX6_init_28 : decode cX6_init 28 = .ok (.anewarray 9, 3) := by decide +kernel
theorem dX6_init_31 : decode cX6_init 31 = .ok (.putfield 23, 3) := by decide +kernel
theorem dX6_init_34 : decode cX6_init 34 = .ok (.iconst 0, 1) := by decide +kernel
theorem dX6_init_35 : decode cX6_init 35 = .ok (.istore_n 1, 1) := by decide +kernel
theorem dX6_init_36 : decode cX6_init 36 = .ok (.iload_n 1, 1) := by decide +kernel
theorem dX6_init_37 : decode cX6_init 37 = .ok (.iconst 2, 1) := by decide +kernel
theorem dX6_init_38 : decode cX6_init 38 = .ok (.if_icmp .ge 22, 3) := by decide +kernel
theorem dX6_init_41 : decode cX6_init 41 = .ok (.aload_n 0, 1) := by decide +kernel
theorem dX6_init_42 : decode cX6_init 42 = .ok (.getfield 23, 3) := by decide +kernel
theorem dX6_init_45 : decode cX6_init 45 = .ok (.iload_n 1, 1) := by decide +kernel
theorem dX6_init_46 : decode cX6_init 46 = .ok (.new 9, 3) := by decide +kernel
theorem dX6_init_49 : decode cX6_init 49 = .ok (.dup, 1) := by decide +kernel
theorem dX6_init_50 : decode cX6_init 50 = .ok (.invokespecial 11, 3) := by decide +kernel
theorem dX6_init_53 : decode cX6_init 53 = .ok (.aastore, 1) := by decide +kernel
theorem dX6_init_54 : decode cX6_init 54 = .ok (.iinc 1 1, 3) := by decide +kernel
theorem dX6_init_57 : decode cX6_init 57 = .ok (.goto (-21), 3) := by decide +kernel
theorem dX6_init_60 : decode cX6_init 60 = .ok (.aload_n 0, 1) := by decide +kernel
theorem dX6_init_61 : decode cX6_init 61 = .ok (.iconst 2, 1) := by decide +kernel
theorem dX6_init_62 : decode cX6_init 62 = .ok (.newarray .boolean, 2) := by decide +kernel
theorem dX6_init_64 : decode cX6_init 64 = .ok (.putfield 27, 3) := by decide +kernel
theorem dX6_init_67 : decode cX6_init 67 = .ok (.aload_n 0, 1) := by decide +kernel
theorem dX6_init_68 : decode cX6_init 68 = .ok (.new 31, 3) := by decide +kernel
theorem dX6_init_71 : decode cX6_init 71 = .ok (.dup, 1) := by decide +kernel
theorem dX6_init_72 : decode cX6_init 72 = .ok (.invokespecial 33, 3) := by decide +kernel
theorem dX6_init_75 : decode cX6_init 75 = .ok (.putfield 34, 3) := by decide +kernel
theorem dX6_init_78 : decode cX6_init 78 = .ok (.aload_n 0, 1) := by decide +kernel
theorem dX6_init_79 : decode cX6_init 79 = .ok (.new 38, 3) := by decide +kernel
theorem dX6_init_82 : decode cX6_init 82 = .ok (.dup, 1) := by decide +kernel
theorem dX6_init_83 : decode cX6_init 83 = .ok (.aload_n 0, 1) := by decide +kernel
theorem dX6_init_84 : decode cX6_init 84 = .ok (.getfield 34, 3) := by decide +kernel
theorem dX6_init_87 : decode cX6_init 87 = .ok (.invokespecial 40, 3) := by decide +kernel
theorem dX6_init_90 : decode cX6_init 90 = .ok (.putfield 43, 3) := by decide +kernel
theorem dX6_init_93 : decode cX6_init 93 = .ok (.return_, 1) := by decide +kernel
theorem dX6_isPart_0 : decode cX6_isPart 0 = .ok (.iload_n 0, 1) := by decide +kernel
theorem dX6_isPart_1 : decode cX6_isPart 1 = .ok (.ifCond .lt 14, 3) := by decide +kernel
theorem dX6_isPart_4 : decode cX6_isPart 4 = .ok (.iload_n 0, 1) := by decide +kernel
theorem dX6_isPart_5 : decode cX6_isPart 5 = .ok (.sipush 256, 3) := by decide +kernel
theorem dX6_isPart_8 : decode cX6_isPart 8 = .ok (.if_icmp .ge 7, 3) := by decide +kernel
theorem dX6_isPart_11 : decode cX6_isPart 11 = .ok (.iconst 1, 1) := by decide +kernel
theorem dX6_isPart_12 : decode cX6_isPart 12 = .ok (.goto 4, 3) := by decide +kernel
theorem dX6_isPart_15 : decode cX6_isPart 15 = .ok (.iconst 0, 1) := by decide +kernel
theorem dX6_isPart_16 : decode cX6_isPart 16 = .ok (.ireturn, 1) := by decide +kernel
theorem dX6_isSlot_0 : decode cX6_isSlot 0 = .ok (.iload_n 0, 1) := by decide +kernel
theorem dX6_isSlot_1 : decode cX6_isSlot 1 = .ok (.ifCond .lt 12, 3) := by decide +kernel
theorem dX6_isSlot_4 : decode cX6_isSlot 4 = .ok (.iload_n 0, 1) := by decide +kernel
theorem dX6_isSlot_5 : decode cX6_isSlot 5 = .ok (.iconst 2, 1) := by decide +kernel
theorem dX6_isSlot_6 : decode cX6_isSlot 6 = .ok (.if_icmp .ge 7, 3) := by decide +kernel
theorem dX6_isSlot_9 : decode cX6_isSlot 9 = .ok (.iconst 1, 1) := by decide +kernel
theorem dX6_isSlot_10 : decode cX6_isSlot 10 = .ok (.goto 4, 3) := by decide +kernel
theorem dX6_isSlot_13 : decode cX6_isSlot 13 = .ok (.iconst 0, 1) := by decide +kernel
theorem dX6_isSlot_14 : decode cX6_isSlot 14 = .ok (.ireturn, 1) := by decide +kernel
theorem dX6_isStore_0 : decode cX6_isStore 0 = .ok (.iload_n 0, 1) := by decide +kernel
theorem dX6_isStore_1 : decode cX6_isStore 1 = .ok (.ifCond .lt 12, 3) := by decide +kernel
theorem dX6_isStore_4 : decode cX6_isStore 4 = .ok (.iload_n 0, 1) := by decide +kernel
theorem dX6_isStore_5 : decode cX6_isStore 5 = .ok (.iconst 2, 1) := by decide +kernel
theorem dX6_isStore_6 : decode cX6_isStore 6 = .ok (.if_icmp .ge 7, 3) := by decide +kernel
theorem dX6_isStore_9 : decode cX6_isStore 9 = .ok (.iconst 1, 1) := by decide +kernel
theorem dX6_isStore_10 : decode cX6_isStore 10 = .ok (.goto 4, 3) := by decide +kernel
theorem dX6_isStore_13 : decode cX6_isStore 13 = .ok (.iconst 0, 1) := by decide +kernel
theorem dX6_isStore_14 : decode cX6_isStore 14 = .ok (.ireturn, 1) := by decide +kernel
theorem dX6_isTag_0 : decode cX6_isTag 0 = .ok (.iload_n 0, 1) := by decide +kernel
theorem dX6_isTag_1 : decode cX6_isTag 1 = .ok (.ifCond .lt 14, 3) := by decide +kernel
theorem dX6_isTag_4 : decode cX6_isTag 4 = .ok (.iload_n 0, 1) := by decide +kernel
theorem dX6_isTag_5 : decode cX6_isTag 5 = .ok (.sipush 257, 3) := by decide +kernel
theorem dX6_isTag_8 : decode cX6_isTag 8 = .ok (.if_icmp .ge 7, 3) := by decide +kernel
theorem dX6_isTag_11 : decode cX6_isTag 11 = .ok (.iconst 1, 1) := by decide +kernel
theorem dX6_isTag_12 : decode cX6_isTag 12 = .ok (.goto 4, 3) := by decide +kernel
theorem dX6_isTag_15 : decode cX6_isTag 15 = .ok (.iconst 0, 1) := by decide +kernel
theorem dX6_isTag_16 : decode cX6_isTag 16 = .ok (.ireturn, 1) := by decide +kernel
theorem dX6_keep_0 : decode cX6_keep 0 = .ok (.aload_n 0, 1) := by decide +kernel
theorem dX6_keep_1 : decode cX6_keep 1 = .ok (.getfield 19, 3) := by decide +kernel
theorem dX6_keep_4 : decode cX6_keep 4 = .ok (.aload_n 0, 1) := by decide +kernel
theorem dX6_keep_5 : decode cX6_keep 5 = .ok (.getfield 12, 3) := by decide +kernel
theorem dX6_keep_8 : decode cX6_keep 8 = .ok (.invokevirtual 47, 3) := by decide +kernel
theorem dX6_keep_11 : decode cX6_keep 11 = .ok (.aload_n 0, 1) := by decide +kernel
theorem dX6_keep_12 : decode cX6_keep 12 = .ok (.aload_n 0, 1) := by decide +kernel
theorem dX6_keep_13 : decode cX6_keep 13 = .ok (.getfield 12, 3) := by decide +kernel
theorem dX6_keep_16 : decode cX6_keep 16 = .ok (.iload_n 1, 1) := by decide +kernel
theorem dX6_keep_17 : decode cX6_keep 17 = .ok (.invokevirtual 62, 3) := by decide +kernel
theorem dX6_keep_20 : decode cX6_keep 20 = .ok (.invokevirtual 55, 3) := by decide +kernel
theorem dX6_keep_23 : decode cX6_keep 23 = .ok (.ireturn, 1) := by decide +kernel
theorem dX6_lie_0 : decode cX6_lie 0 = .ok (.aload_n 0, 1) := by decide +kernel
theorem dX6_lie_1 : decode cX6_lie 1 = .ok (.getfield 19, 3) := by decide +kernel
theorem dX6_lie_4 : decode cX6_lie 4 = .ok (.aload_n 0, 1) := by decide +kernel
theorem dX6_lie_5 : decode cX6_lie 5 = .ok (.getfield 12, 3) := by decide +kernel
theorem dX6_lie_8 : decode cX6_lie 8 = .ok (.invokevirtual 47, 3) := by decide +kernel
theorem dX6_lie_11 : decode cX6_lie 11 = .ok (.aload_n 0, 1) := by decide +kernel
theorem dX6_lie_12 : decode cX6_lie 12 = .ok (.aload_n 0, 1) := by decide +kernel
theorem dX6_lie_13 : decode cX6_lie 13 = .ok (.getfield 12, 3) := by decide +kernel
theorem dX6_lie_16 : decode cX6_lie 16 = .ok (.iload_n 1, 1) := by decide +kernel
theorem dX6_lie_17 : decode cX6_lie 17 = .ok (.iload_n 2, 1) := by decide +kernel
theorem dX6_lie_18 : decode cX6_lie 18 = .ok (.iload_n 3, 1) := by decide +kernel
theorem dX6_lie_19 : decode cX6_lie 19 = .ok (.iload 4, 2) := by decide +kernel
theorem dX6_lie_21 : decode cX6_lie 21 = .ok (.invokevirtual 74, 3) := by decide +kernel
theorem dX6_lie_24 : decode cX6_lie 24 = .ok (.invokevirtual 55, 3) := by decide +kernel
theorem dX6_lie_27 : decode cX6_lie 27 = .ok (.ireturn, 1) := by decide +kernel
theorem dX6_merge_0 : decode cX6_merge 0 = .ok (.aload_n 0, 1) := by decide +kernel
theorem dX6_merge_1 : decode cX6_merge 1 = .ok (.getfield 19, 3) := by decide +kernel
theorem dX6_merge_4 : decode cX6_merge 4 = .ok (.aload_n 0, 1) := by decide +kernel
theorem dX6_merge_5 : decode cX6_merge 5 = .ok (.getfield 12, 3) := by decide +kernel
theorem dX6_merge_8 : decode cX6_merge 8 = .ok (.invokevirtual 47, 3) := by decide +kernel
theorem dX6_merge_11 : decode cX6_merge 11 = .ok (.aload_n 0, 1) := by decide +kernel
theorem dX6_merge_12 : decode cX6_merge 12 = .ok (.aload_n 0, 1) := by decide +kernel
theorem dX6_merge_13 : decode cX6_merge 13 = .ok (.getfield 12, 3) := by decide +kernel
theorem dX6_merge_16 : decode cX6_merge 16 = .ok (.iload_n 1, 1) := by decide +kernel
theorem dX6_merge_17 : decode cX6_merge 17 = .ok (.invokevirtual 78, 3) := by decide +kernel
theorem dX6_merge_20 : decode cX6_merge 20 = .ok (.invokevirtual 55, 3) := by decide +kernel
theorem dX6_merge_23 : decode cX6_merge 23 = .ok (.ireturn, 1) := by decide +kernel
theorem dX6_needed_0 : decode cX6_needed 0 = .ok (.aload_n 0, 1) := by decide +kernel
theorem dX6_needed_1 : decode cX6_needed 1 = .ok (.getfield 12, 3) := by decide +kernel
theorem dX6_needed_4 : decode cX6_needed 4 = .ok (.iload_n 1, 1) := by decide +kernel
theorem dX6_needed_5 : decode cX6_needed 5 = .ok (.invokevirtual 116, 3) := by decide +kernel
theorem dX6_needed_8 : decode cX6_needed 8 = .ok (.ireturn, 1) := by decide +kernel
theorem dX6_of_0 : decode cX6_of 0 = .ok (.aload_n 0, 1) := by decide +kernel
theorem dX6_of_1 : decode cX6_of 1 = .ok (.getfield 12, 3) := by decide +kernel
theorem dX6_of_4 : decode cX6_of 4 = .ok (.iload_n 1, 1) := by decide +kernel
theorem dX6_of_5 : decode cX6_of 5 = .ok (.iload_n 2, 1) := by decide +kernel
theorem dX6_of_6 : decode cX6_of 6 = .ok (.iload_n 3, 1) := by decide +kernel
theorem dX6_of_7 : decode cX6_of 7 = .ok (.invokevirtual 88, 3) := by decide +kernel
theorem dX6_of_10 : decode cX6_of 10 = .ok (.ireturn, 1) := by decide +kernel
theorem dX6_ofSecret_0 : decode cX6_ofSecret 0 = .ok (.aload_n 0, 1) := by decide +kernel
theorem dX6_ofSecret_1 : decode cX6_ofSecret 1 = .ok (.getfield 12, 3) := by decide +kernel
theorem dX6_ofSecret_4 : decode cX6_ofSecret 4 = .ok (.iload_n 1, 1) := by decide +kernel
theorem dX6_ofSecret_5 : decode cX6_ofSecret 5 = .ok (.iload_n 2, 1) := by decide +kernel
theorem dX6_ofSecret_6 : decode cX6_ofSecret 6 = .ok (.invokevirtual 91, 3) := by decide +kernel
theorem dX6_ofSecret_9 : decode cX6_ofSecret 9 = .ok (.ireturn, 1) := by decide +kernel
theorem dX6_old_0 : decode cX6_old 0 = .ok (.aload_n 0, 1) := by decide +kernel
theorem dX6_old_1 : decode cX6_old 1 = .ok (.getfield 12, 3) := by decide +kernel
theorem dX6_old_4 : decode cX6_old 4 = .ok (.iload_n 1, 1) := by decide +kernel
theorem dX6_old_5 : decode cX6_old 5 = .ok (.iload_n 2, 1) := by decide +kernel
theorem dX6_old_6 : decode cX6_old 6 = .ok (.iload_n 3, 1) := by decide +kernel
theorem dX6_old_7 : decode cX6_old 7 = .ok (.invokevirtual 94, 3) := by decide +kernel
theorem dX6_old_10 : decode cX6_old 10 = .ok (.ireturn, 1) := by decide +kernel
theorem dX6_otherwise_0 : decode cX6_otherwise 0 = .ok (.aload_n 0, 1) := by decide +kernel
theorem dX6_otherwise_1 : decode cX6_otherwise 1 = .ok (.getfield 12, 3) := by decide +kernel
theorem dX6_otherwise_4 : decode cX6_otherwise 4 = .ok (.iload_n 1, 1) := by decide +kernel
theorem dX6_otherwise_5 : decode cX6_otherwise 5 = .ok (.iload_n 2, 1) := by decide +kernel
theorem dX6_otherwise_6 : decode cX6_otherwise 6 = .ok (.iload_n 3, 1) := by decide +kernel
theorem dX6_otherwise_7 : decode cX6_otherwise 7 = .ok (.invokevirtual 107, 3) := by decide +kernel
theorem dX6_otherwise_10 : decode cX6_otherwise 10 = .ok (.ireturn, 1) := by decide +kernel
theorem dX6_pass_0 : decode cX6_pass 0 = .ok (.aload_n 0, 1) := by decide +kernel
theorem dX6_pass_1 : decode cX6_pass 1 = .ok (.getfield 19, 3) := by decide +kernel
theorem dX6_pass_4 : decode cX6_pass 4 = .ok (.aload_n 0, 1) := by decide +kernel
theorem dX6_pass_5 : decode cX6_pass 5 = .ok (.getfield 12, 3) := by decide +kernel
theorem dX6_pass_8 : decode cX6_pass 8 = .ok (.invokevirtual 47, 3) := by decide +kernel
theorem dX6_pass_11 : decode cX6_pass 11 = .ok (.aload_n 0, 1) := by decide +kernel
theorem dX6_pass_12 : decode cX6_pass 12 = .ok (.aload_n 0, 1) := by decide +kernel
theorem dX6_pass_13 : decode cX6_pass 13 = .ok (.getfield 12, 3) := by decide +kernel
theorem dX6_pass_16 : decode cX6_pass 16 = .ok (.iload_n 1, 1) := by decide +kernel
theorem dX6_pass_17 : decode cX6_pass 17 = .ok (.invokevirtual 85, 3) := by decide +kernel
theorem dX6_pass_20 : decode cX6_pass 20 = .ok (.invokevirtual 55, 3) := by decide +kernel
theorem dX6_pass_23 : decode cX6_pass 23 = .ok (.ireturn, 1) := by decide +kernel
theorem dX6_passes_0 : decode cX6_passes 0 = .ok (.aload_n 0, 1) := by decide +kernel
theorem dX6_passes_1 : decode cX6_passes 1 = .ok (.getfield 12, 3) := by decide +kernel
theorem dX6_passes_4 : decode cX6_passes 4 = .ok (.iload_n 1, 1) := by decide +kernel
theorem dX6_passes_5 : decode cX6_passes 5 = .ok (.iload_n 2, 1) := by decide +kernel
theorem dX6_passes_6 : decode cX6_passes 6 = .ok (.iload_n 3, 1) := by decide +kernel
theorem dX6_passes_7 : decode cX6_passes 7 = .ok (.invokevirtual 113, 3) := by decide +kernel
theorem dX6_passes_10 : decode cX6_passes 10 = .ok (.ireturn, 1) := by decide +kernel
theorem dX6_passing_0 : decode cX6_passing 0 = .ok (.aload_n 0, 1) := by decide +kernel
theorem dX6_passing_1 : decode cX6_passing 1 = .ok (.getfield 12, 3) := by decide +kernel
theorem dX6_passing_4 : decode cX6_passing 4 = .ok (.iload_n 1, 1) := by decide +kernel
theorem dX6_passing_5 : decode cX6_passing 5 = .ok (.iload_n 2, 1) := by decide +kernel
theorem dX6_passing_6 : decode cX6_passing 6 = .ok (.iload_n 3, 1) := by decide +kernel
theorem dX6_passing_7 : decode cX6_passing 7 = .ok (.invokevirtual 110, 3) := by decide +kernel
theorem dX6_passing_10 : decode cX6_passing 10 = .ok (.ireturn, 1) := by decide +kernel
theorem dX6_put_0 : decode cX6_put 0 = .ok (.aload_n 0, 1) := by decide +kernel
theorem dX6_put_1 : decode cX6_put 1 = .ok (.getfield 34, 3) := by decide +kernel
theorem dX6_put_4 : decode cX6_put 4 = .ok (.lload_n 1, 1) := by decide +kernel
theorem dX6_put_5 : decode cX6_put 5 = .ok (.invokevirtual 125, 3) := by decide +kernel
theorem dX6_put_8 : decode cX6_put 8 = .ok (.ireturn, 1) := by decide +kernel
theorem dX6_recorded_0 : decode cX6_recorded 0 = .ok (.iload_n 1, 1) := by decide +kernel
theorem dX6_recorded_1 : decode cX6_recorded 1 = .ok (.ifCond .lt 10, 3) := by decide +kernel
theorem dX6_recorded_4 : decode cX6_recorded 4 = .ok (.aload_n 0, 1) := by decide +kernel
theorem dX6_recorded_5 : decode cX6_recorded 5 = .ok (.getfield 19, 3) := by decide +kernel
theorem dX6_recorded_8 : decode cX6_recorded 8 = .ok (.invokevirtual 160, 3) := by decide +kernel
theorem dX6_recorded_11 : decode cX6_recorded 11 = .ok (.iload_n 1, 1) := by decide +kernel
theorem dX6_recorded_12 : decode cX6_recorded 12 = .ok (.ireturn, 1) := by decide +kernel
theorem dX6_refresh_0 : decode cX6_refresh 0 = .ok (.aload_n 0, 1) := by decide +kernel
theorem dX6_refresh_1 : decode cX6_refresh 1 = .ok (.getfield 19, 3) := by decide +kernel
theorem dX6_refresh_4 : decode cX6_refresh 4 = .ok (.aload_n 0, 1) := by decide +kernel
theorem dX6_refresh_5 : decode cX6_refresh 5 = .ok (.getfield 12, 3) := by decide +kernel
theorem dX6_refresh_8 : decode cX6_refresh 8 = .ok (.invokevirtual 47, 3) := by decide +kernel
theorem dX6_refresh_11 : decode cX6_refresh 11 = .ok (.aload_n 0, 1) := by decide +kernel
theorem dX6_refresh_12 : decode cX6_refresh 12 = .ok (.aload_n 0, 1) := by decide +kernel
theorem dX6_refresh_13 : decode cX6_refresh 13 = .ok (.getfield 12, 3) := by decide +kernel
theorem dX6_refresh_16 : decode cX6_refresh 16 = .ok (.iload_n 1, 1) := by decide +kernel
theorem dX6_refresh_17 : decode cX6_refresh 17 = .ok (.invokevirtual 65, 3) := by decide +kernel
theorem dX6_refresh_20 : decode cX6_refresh 20 = .ok (.invokevirtual 55, 3) := by decide +kernel
theorem dX6_refresh_23 : decode cX6_refresh 23 = .ok (.ireturn, 1) := by decide +kernel
theorem dX6_restore_0 : decode cX6_restore 0 = .ok (.iload_n 1, 1) := by decide +kernel
theorem dX6_restore_1 : decode cX6_restore 1 = .ok (.invokestatic 150, 3) := by decide +kernel
theorem dX6_restore_4 : decode cX6_restore 4 = .ok (.ifCond .ne 6, 3) := by decide +kernel
theorem dX6_restore_7 : decode cX6_restore 7 = .ok (.bipush (-2), 2) := by decide +kernel
theorem dX6_restore_9 : decode cX6_restore 9 = .ok (.ireturn, 1) := by decide +kernel
theorem dX6_restore_10 : decode cX6_restore 10 = .ok (.aload_n 0, 1) := by decide +kernel
theorem dX6_restore_11 : decode cX6_restore 11 = .ok (.getfield 27, 3) := by decide +kernel
theorem dX6_restore_14 : decode cX6_restore 14 = .ok (.iload_n 1, 1) := by decide +kernel
theorem dX6_restore_15 : decode cX6_restore 15 = .ok (.baload, 1) := by decide +kernel
theorem dX6_restore_16 : decode cX6_restore 16 = .ok (.ifCond .ne 6, 3) := by decide +kernel
theorem dX6_restore_19 : decode cX6_restore 19 = .ok (.bipush (-5), 2) := by decide +kernel
theorem dX6_restore_21 : decode cX6_restore 21 = .ok (.ireturn, 1) := by decide +kernel
theorem dX6_restore_22 : decode cX6_restore 22 = .ok (.aload_n 0, 1) := by decide +kernel
theorem dX6_restore_23 : decode cX6_restore 23 = .ok (.getfield 19, 3) := by decide +kernel
theorem dX6_restore_26 : decode cX6_restore 26 = .ok (.aload_n 0, 1) := by decide +kernel
theorem dX6_restore_27 : decode cX6_restore 27 = .ok (.getfield 12, 3) := by decide +kernel
theorem dX6_restore_30 : decode cX6_restore 30 = .ok (.invokevirtual 47, 3) := by decide +kernel
theorem dX6_restore_33 : decode cX6_restore 33 = .ok (.aload_n 0, 1) := by decide +kernel
theorem dX6_restore_34 : decode cX6_restore 34 = .ok (.getfield 12, 3) := by decide +kernel
theorem dX6_restore_37 : decode cX6_restore 37 = .ok (.aload_n 0, 1) := by decide +kernel
theorem dX6_restore_38 : decode cX6_restore 38 = .ok (.getfield 23, 3) := by decide +kernel
theorem dX6_restore_41 : decode cX6_restore 41 = .ok (.iload_n 1, 1) := by decide +kernel
theorem dX6_restore_42 : decode cX6_restore 42 = .ok (.aaload, 1) := by decide +kernel
theorem dX6_restore_43 : decode cX6_restore 43 = .ok (.invokevirtual 154, 3) := by decide +kernel
theorem dX6_restore_46 : decode cX6_restore 46 = .ok (.aload_n 0, 1) := by decide +kernel
theorem dX6_restore_47 : decode cX6_restore 47 = .ok (.aload_n 0, 1) := by decide +kernel
theorem dX6_restore_48 : decode cX6_restore 48 = .ok (.getfield 12, 3) := by decide +kernel
theorem dX6_restore_51 : decode cX6_restore 51 = .ok (.getfield 157, 3) := by decide +kernel
theorem dX6_restore_54 : decode cX6_restore 54 = .ok (.invokevirtual 55, 3) := by decide +kernel
theorem dX6_restore_57 : decode cX6_restore 57 = .ok (.ireturn, 1) := by decide +kernel
theorem dX6_save_0 : decode cX6_save 0 = .ok (.iload_n 1, 1) := by decide +kernel
theorem dX6_save_1 : decode cX6_save 1 = .ok (.invokestatic 150, 3) := by decide +kernel
theorem dX6_save_4 : decode cX6_save 4 = .ok (.ifCond .ne 6, 3) := by decide +kernel
theorem dX6_save_7 : decode cX6_save 7 = .ok (.bipush (-2), 2) := by decide +kernel
theorem dX6_save_9 : decode cX6_save 9 = .ok (.ireturn, 1) := by decide +kernel
theorem dX6_save_10 : decode cX6_save 10 = .ok (.aload_n 0, 1) := by decide +kernel
theorem dX6_save_11 : decode cX6_save 11 = .ok (.getfield 23, 3) := by decide +kernel
theorem dX6_save_14 : decode cX6_save 14 = .ok (.iload_n 1, 1) := by decide +kernel
theorem dX6_save_15 : decode cX6_save 15 = .ok (.aaload, 1) := by decide +kernel
theorem dX6_save_16 : decode cX6_save 16 = .ok (.aload_n 0, 1) := by decide +kernel
theorem dX6_save_17 : decode cX6_save 17 = .ok (.getfield 12, 3) := by decide +kernel
theorem dX6_save_20 : decode cX6_save 20 = .ok (.invokevirtual 154, 3) := by decide +kernel
theorem dX6_save_23 : decode cX6_save 23 = .ok (.aload_n 0, 1) := by decide +kernel
theorem dX6_save_24 : decode cX6_save 24 = .ok (.getfield 27, 3) := by decide +kernel
theorem dX6_save_27 : decode cX6_save 27 = .ok (.iload_n 1, 1) := by decide +kernel
theorem dX6_save_28 : decode cX6_save 28 = .ok (.iconst 1, 1) := by decide +kernel
theorem dX6_save_29 : decode cX6_save 29 = .ok (.bastore, 1) := by decide +kernel
theorem dX6_save_30 : decode cX6_save 30 = .ok (.aload_n 0, 1) := by decide +kernel
theorem dX6_save_31 : decode cX6_save 31 = .ok (.getfield 12, 3) := by decide +kernel
theorem dX6_save_34 : decode cX6_save 34 = .ok (.getfield 157, 3) := by decide +kernel
theorem dX6_save_37 : decode cX6_save 37 = .ok (.ireturn, 1) := by decide +kernel
theorem dX6_seed_0 : decode cX6_seed 0 = .ok (.aload_n 0, 1) := by decide +kernel
theorem dX6_seed_1 : decode cX6_seed 1 = .ok (.getfield 19, 3) := by decide +kernel
theorem dX6_seed_4 : decode cX6_seed 4 = .ok (.aload_n 0, 1) := by decide +kernel
theorem dX6_seed_5 : decode cX6_seed 5 = .ok (.getfield 12, 3) := by decide +kernel
theorem dX6_seed_8 : decode cX6_seed 8 = .ok (.invokevirtual 47, 3) := by decide +kernel
theorem dX6_seed_11 : decode cX6_seed 11 = .ok (.aload_n 0, 1) := by decide +kernel
theorem dX6_seed_12 : decode cX6_seed 12 = .ok (.aload_n 0, 1) := by decide +kernel
theorem dX6_seed_13 : decode cX6_seed 13 = .ok (.getfield 12, 3) := by decide +kernel
theorem dX6_seed_16 : decode cX6_seed 16 = .ok (.iload_n 1, 1) := by decide +kernel
theorem dX6_seed_17 : decode cX6_seed 17 = .ok (.invokevirtual 59, 3) := by decide +kernel
theorem dX6_seed_20 : decode cX6_seed 20 = .ok (.invokevirtual 55, 3) := by decide +kernel
theorem dX6_seed_23 : decode cX6_seed 23 = .ok (.ireturn, 1) := by decide +kernel
theorem dX6_set_0 : decode cX6_set 0 = .ok (.aload_n 0, 1) := by decide +kernel
theorem dX6_set_1 : decode cX6_set 1 = .ok (.getfield 19, 3) := by decide +kernel
theorem dX6_set_4 : decode cX6_set 4 = .ok (.aload_n 0, 1) := by decide +kernel
theorem dX6_set_5 : decode cX6_set 5 = .ok (.getfield 12, 3) := by decide +kernel
theorem dX6_set_8 : decode cX6_set 8 = .ok (.invokevirtual 47, 3) := by decide +kernel
theorem dX6_set_11 : decode cX6_set 11 = .ok (.aload_n 0, 1) := by decide +kernel
theorem dX6_set_12 : decode cX6_set 12 = .ok (.aload_n 0, 1) := by decide +kernel
theorem dX6_set_13 : decode cX6_set 13 = .ok (.getfield 12, 3) := by decide +kernel
theorem dX6_set_16 : decode cX6_set 16 = .ok (.iload_n 1, 1) := by decide +kernel
theorem dX6_set_17 : decode cX6_set 17 = .ok (.iload_n 2, 1) := by decide +kernel
theorem dX6_set_18 : decode cX6_set 18 = .ok (.invokevirtual 51, 3) := by decide +kernel
theorem dX6_set_21 : decode cX6_set 21 = .ok (.invokevirtual 55, 3) := by decide +kernel
theorem dX6_set_24 : decode cX6_set 24 = .ok (.ireturn, 1) := by decide +kernel
theorem dX6_sleep_0 : decode cX6_sleep 0 = .ok (.aload_n 0, 1) := by decide +kernel
theorem dX6_sleep_1 : decode cX6_sleep 1 = .ok (.getfield 19, 3) := by decide +kernel
theorem dX6_sleep_4 : decode cX6_sleep 4 = .ok (.aload_n 0, 1) := by decide +kernel
theorem dX6_sleep_5 : decode cX6_sleep 5 = .ok (.getfield 12, 3) := by decide +kernel
theorem dX6_sleep_8 : decode cX6_sleep 8 = .ok (.invokevirtual 47, 3) := by decide +kernel
theorem dX6_sleep_11 : decode cX6_sleep 11 = .ok (.aload_n 0, 1) := by decide +kernel
theorem dX6_sleep_12 : decode cX6_sleep 12 = .ok (.aload_n 0, 1) := by decide +kernel
theorem dX6_sleep_13 : decode cX6_sleep 13 = .ok (.getfield 12, 3) := by decide +kernel
theorem dX6_sleep_16 : decode cX6_sleep 16 = .ok (.iload_n 1, 1) := by decide +kernel
theorem dX6_sleep_17 : decode cX6_sleep 17 = .ok (.invokevirtual 71, 3) := by decide +kernel
theorem dX6_sleep_20 : decode cX6_sleep 20 = .ok (.invokevirtual 55, 3) := by decide +kernel
theorem dX6_sleep_23 : decode cX6_sleep 23 = .ok (.ireturn, 1) := by decide +kernel
theorem dX6_steal_0 : decode cX6_steal 0 = .ok (.aload_n 0, 1) := by decide +kernel
theorem dX6_steal_1 : decode cX6_steal 1 = .ok (.getfield 19, 3) := by decide +kernel
theorem dX6_steal_4 : decode cX6_steal 4 = .ok (.aload_n 0, 1) := by decide +kernel
theorem dX6_steal_5 : decode cX6_steal 5 = .ok (.getfield 12, 3) := by decide +kernel
theorem dX6_steal_8 : decode cX6_steal 8 = .ok (.invokevirtual 47, 3) := by decide +kernel
theorem dX6_steal_11 : decode cX6_steal 11 = .ok (.aload_n 0, 1) := by decide +kernel
theorem dX6_steal_12 : decode cX6_steal 12 = .ok (.aload_n 0, 1) := by decide +kernel
theorem dX6_steal_13 : decode cX6_steal 13 = .ok (.getfield 12, 3) := by decide +kernel
theorem dX6_steal_16 : decode cX6_steal 16 = .ok (.iload_n 1, 1) := by decide +kernel
theorem dX6_steal_17 : decode cX6_steal 17 = .ok (.iload_n 2, 1) := by decide +kernel
theorem dX6_steal_18 : decode cX6_steal 18 = .ok (.iload_n 3, 1) := by decide +kernel
theorem dX6_steal_19 : decode cX6_steal 19 = .ok (.invokevirtual 81, 3) := by decide +kernel
theorem dX6_steal_22 : decode cX6_steal 22 = .ok (.invokevirtual 55, 3) := by decide +kernel
theorem dX6_steal_25 : decode cX6_steal 25 = .ok (.ireturn, 1) := by decide +kernel
theorem dX6_undo_0 : decode cX6_undo 0 = .ok (.aload_n 0, 1) := by decide +kernel
theorem dX6_undo_1 : decode cX6_undo 1 = .ok (.getfield 19, 3) := by decide +kernel
theorem dX6_undo_4 : decode cX6_undo 4 = .ok (.aload_n 0, 1) := by decide +kernel
theorem dX6_undo_5 : decode cX6_undo 5 = .ok (.getfield 12, 3) := by decide +kernel
theorem dX6_undo_8 : decode cX6_undo 8 = .ok (.invokevirtual 146, 3) := by decide +kernel
theorem dX6_undo_11 : decode cX6_undo 11 = .ok (.ifCond .eq 13, 3) := by decide +kernel
theorem dX6_undo_14 : decode cX6_undo 14 = .ok (.aload_n 0, 1) := by decide +kernel
theorem dX6_undo_15 : decode cX6_undo 15 = .ok (.getfield 19, 3) := by decide +kernel
theorem dX6_undo_18 : decode cX6_undo 18 = .ok (.getfield 101, 3) := by decide +kernel
theorem dX6_undo_21 : decode cX6_undo 21 = .ok (.goto 5, 3) := by decide +kernel
theorem dX6_undo_24 : decode cX6_undo 24 = .ok (.bipush (-5), 2) := by decide +kernel
theorem dX6_undo_26 : decode cX6_undo 26 = .ok (.ireturn, 1) := by decide +kernel
theorem dX6_versionOfOrder_0 : decode cX6_versionOfOrder 0 = .ok (.aload_n 0, 1) := by decide +kernel
theorem dX6_versionOfOrder_1 : decode cX6_versionOfOrder 1 = .ok (.getfield 43, 3) := by decide +kernel
theorem dX6_versionOfOrder_4 : decode cX6_versionOfOrder 4 = .ok (.getfield 167, 3) := by decide +kernel
theorem dX6_versionOfOrder_7 : decode cX6_versionOfOrder 7 = .ok (.iconst (-1), 1) := by decide +kernel
theorem dX6_versionOfOrder_8 : decode cX6_versionOfOrder 8 = .ok (.if_icmp .ne 20, 3) := by decide +kernel
theorem dX6_versionOfOrder_11 : decode cX6_versionOfOrder 11 = .ok (.aload_n 0, 1) := by decide +kernel
theorem dX6_versionOfOrder_12 : decode cX6_versionOfOrder 12 = .ok (.getfield 12, 3) := by decide +kernel
theorem dX6_versionOfOrder_15 : decode cX6_versionOfOrder 15 = .ok (.aload_n 0, 1) := by decide +kernel
theorem dX6_versionOfOrder_16 : decode cX6_versionOfOrder 16 = .ok (.getfield 43, 3) := by decide +kernel
theorem dX6_versionOfOrder_19 : decode cX6_versionOfOrder 19 = .ok (.getfield 170, 3) := by decide +kernel
theorem dX6_versionOfOrder_22 : decode cX6_versionOfOrder 22 = .ok (.invokevirtual 182, 3) := by decide +kernel
theorem dX6_versionOfOrder_25 : decode cX6_versionOfOrder 25 = .ok (.goto 10, 3) := by decide +kernel
theorem dX6_versionOfOrder_28 : decode cX6_versionOfOrder 28 = .ok (.aload_n 0, 1) := by decide +kernel
theorem dX6_versionOfOrder_29 : decode cX6_versionOfOrder 29 = .ok (.getfield 43, 3) := by decide +kernel
theorem dX6_versionOfOrder_32 : decode cX6_versionOfOrder 32 = .ok (.getfield 167, 3) := by decide +kernel
theorem dX6_versionOfOrder_35 : decode cX6_versionOfOrder 35 = .ok (.ireturn, 1) := by decide +kernel
theorem dX6_wipe_0 : decode cX6_wipe 0 = .ok (.aload_n 0, 1) := by decide +kernel
theorem dX6_wipe_1 : decode cX6_wipe 1 = .ok (.getfield 34, 3) := by decide +kernel
theorem dX6_wipe_4 : decode cX6_wipe 4 = .ok (.invokevirtual 129, 3) := by decide +kernel
theorem dX6_wipe_7 : decode cX6_wipe 7 = .ok (.ireturn, 1) := by decide +kernel
end
section
theorem dX7_areAwake_0 : decode cX7_areAwake 0 = .ok (.aload_n 0, 1) := by decide +kernel
theorem dX7_areAwake_1 : decode cX7_areAwake 1 = .ok (.getfield 7, 3) := by decide +kernel
theorem dX7_areAwake_4 : decode cX7_areAwake 4 = .ok (.bipush 6, 2) := by decide +kernel
theorem dX7_areAwake_6 : decode cX7_areAwake 6 = .ok (.iaload, 1) := by decide +kernel
theorem dX7_areAwake_7 : decode cX7_areAwake 7 = .ok (.aload_n 0, 1) := by decide +kernel
theorem dX7_areAwake_8 : decode cX7_areAwake 8 = .ok (.getfield 7, 3) := by decide +kernel
theorem dX7_areAwake_11 : decode cX7_areAwake 11 = .ok (.bipush 7, 2) := by decide +kernel
theorem dX7_areAwake_13 : decode cX7_areAwake 13 = .ok (.iaload, 1) := by decide +kernel
theorem dX7_areAwake_14 : decode cX7_areAwake 14 = .ok (.iadd, 1) := by decide +kernel
theorem dX7_areAwake_15 : decode cX7_areAwake 15 = .ok (.ifCond .ne 7, 3) := by decide +kernel
theorem dX7_areAwake_18 : decode cX7_areAwake 18 = .ok (.iconst 1, 1) := by decide +kernel
theorem dX7_areAwake_19 : decode cX7_areAwake 19 = .ok (.goto 4, 3) := by decide +kernel
theorem dX7_areAwake_22 : decode cX7_areAwake 22 = .ok (.iconst 0, 1) := by decide +kernel
theorem dX7_areAwake_23 : decode cX7_areAwake 23 = .ok (.ireturn, 1) := by decide +kernel
theorem dX7_at_0 : decode cX7_at 0 = .ok (.iload_n 0, 1) := by decide +kernel
theorem dX7_at_1 : decode cX7_at 1 = .ok (.bipush 15, 2) := by decide +kernel
theorem dX7_at_3 : decode cX7_at 3 = .ok (.iconst 4, 1) := by decide +kernel
theorem dX7_at_4 : decode cX7_at 4 = .ok (.iload_n 1, 1) := by decide +kernel
theorem dX7_at_5 : decode cX7_at 5 = .ok (.imul, 1) := by decide +kernel
theorem dX7_at_6 : decode cX7_at 6 = .ok (.iadd, 1) := by decide +kernel
theorem dX7_at_7 : decode cX7_at 7 = .ok (.iload_n 2, 1) := by decide +kernel
theorem dX7_at_8 : decode cX7_at 8 = .ok (.iadd, 1) := by decide +kernel
theorem dX7_at_9 : decode cX7_at 9 = .ok (.invokestatic 36, 3) := by decide +kernel
theorem dX7_at_12 : decode cX7_at 12 = .ok (.ireturn, 1) := by decide +kernel
theorem dX7_atRisk_0 : decode cX7_atRisk 0 = .ok (.aload_n 0, 1) := by decide +kernel
theorem dX7_atRisk_1 : decode cX7_atRisk 1 = .ok (.iload_n 1, 1) := by decide +kernel
theorem dX7_atRisk_2 : decode cX7_atRisk 2 = .ok (.invokevirtual 87, 3) := by decide +kernel
theorem dX7_atRisk_5 : decode cX7_atRisk 5 = .ok (.ifCond .eq 11, 3) := by decide +kernel
theorem dX7_atRisk_8 : decode cX7_atRisk 8 = .ok (.aload_n 0, 1) := by decide +kernel
theorem dX7_atRisk_9 : decode cX7_atRisk 9 = .ok (.iload_n 1, 1) := by decide +kernel
theorem dX7_atRisk_10 : decode cX7_atRisk 10 = .ok (.invokevirtual 154, 3) := by decide +kernel
theorem dX7_atRisk_13 : decode cX7_atRisk 13 = .ok (.goto 4, 3) := by decide +kernel
theorem dX7_atRisk_16 : decode cX7_atRisk 16 = .ok (.iconst (-1), 1) := by decide +kernel
theorem dX7_atRisk_17 : decode cX7_atRisk 17 = .ok (.ireturn, 1) := by decide +kernel
theorem dX7_beat_0 : decode cX7_beat 0 = .ok (.iconst 0, 1) := by decide +kernel
theorem dX7_beat_1 : decode cX7_beat 1 = .ok (.istore_n 1, 1) := by decide +kernel
theorem dX7_beat_2 : decode cX7_beat 2 = .ok (.iload_n 1, 1) := by decide +kernel
theorem dX7_beat_3 : decode cX7_beat 3 = .ok (.aload_n 0, 1) := by decide +kernel
theorem dX7_beat_4 : decode cX7_beat 4 = .ok (.getfield 7, 3) := by decide +kernel
theorem dX7_beat_7 : decode cX7_beat 7 = .ok (.iconst 5, 1) := by decide +kernel
theorem dX7_beat_8 : decode cX7_beat 8 = .ok (.iaload, 1) := by decide +kernel
theorem dX7_beat_9 : decode cX7_beat 9 = .ok (.if_icmp .ge 40, 3) := by decide +kernel
theorem dX7_beat_12 : decode cX7_beat 12 = .ok (.aload_n 0, 1) := by decide +kernel
theorem dX7_beat_13 : decode cX7_beat 13 = .ok (.getfield 7, 3) := by decide +kernel
theorem dX7_beat_16 : decode cX7_beat 16 = .ok (.iload_n 1, 1) := by decide +kernel
theorem dX7_beat_17 : decode cX7_beat 17 = .ok (.iconst 2, 1) := by decide +kernel
theorem dX7_beat_18 : decode cX7_beat 18 = .ok (.invokestatic 36, 3) := by decide +kernel
theorem dX7_beat_21 : decode cX7_beat 21 = .ok (.dup2, 1) := by decide +kernel
theorem dX7_beat_22 : decode cX7_beat 22 = .ok (.iaload, 1) := by decide +kernel
theorem dX7_beat_23 : decode cX7_beat 23 = .ok (.aload_n 0, 1) := by decide +kernel
theorem dX7_beat_24 : decode cX7_beat 24 = .ok (.getfield 7, 3) := by decide +kernel
theorem dX7_beat_27 : decode cX7_beat 27 = .ok (.iload_n 1, 1) := by decide +kernel
theorem dX7_beat_28 : decode cX7_beat 28 = .ok (.iconst 2, 1) := by decide +kernel
theorem dX7_beat_29 : decode cX7_beat 29 = .ok (.invokestatic 36, 3) := by decide +kernel
theorem dX7_beat_32 : decode cX7_beat 32 = .ok (.iaload, 1) := by decide +kernel
theorem dX7_beat_33 : decode cX7_beat 33 = .ok (.ifCond .le 7, 3) := by decide +kernel
theorem dX7_beat_36 : decode cX7_beat 36 = .ok (.iconst 1, 1) := by decide +kernel
theorem dX7_beat_37 : decode cX7_beat 37 = .ok (.goto 4, 3) := by decide +kernel
theorem dX7_beat_40 : decode cX7_beat 40 = .ok (.iconst 0, 1) := by decide +kernel
theorem dX7_beat_41 : decode cX7_beat 41 = .ok (.isub, 1) := by decide +kernel
theorem dX7_beat_42 : decode cX7_beat 42 = .ok (.iastore, 1) := by decide +kernel
theorem dX7_beat_43 : decode cX7_beat 43 = .ok (.iinc 1 1, 3) := by decide +kernel
theorem dX7_beat_46 : decode cX7_beat 46 = .ok (.goto (-44), 3) := by decide +kernel
theorem dX7_beat_49 : decode cX7_beat 49 = .ok (.aload_n 0, 1) := by decide +kernel
theorem dX7_beat_50 : decode cX7_beat 50 = .ok (.getfield 7, 3) := by decide +kernel
theorem dX7_beat_53 : decode cX7_beat 53 = .ok (.iconst 4, 1) := by decide +kernel
theorem dX7_beat_54 : decode cX7_beat 54 = .ok (.dup2, 1) := by decide +kernel
theorem dX7_beat_55 : decode cX7_beat 55 = .ok (.iaload, 1) := by decide +kernel
theorem dX7_beat_56 : decode cX7_beat 56 = .ok (.iconst 1, 1) := by decide +kernel
theorem dX7_beat_57 : decode cX7_beat 57 = .ok (.iadd, 1) := by decide +kernel
theorem dX7_beat_58 : decode cX7_beat 58 = .ok (.iastore, 1) := by decide +kernel
theorem dX7_beat_59 : decode cX7_beat 59 = .ok (.iconst 0, 1) := by decide +kernel
theorem dX7_beat_60 : decode cX7_beat 60 = .ok (.istore_n 1, 1) := by decide +kernel
theorem dX7_beat_61 : decode cX7_beat 61 = .ok (.iload_n 1, 1) := by decide +kernel
theorem dX7_beat_62 : decode cX7_beat 62 = .ok (.aload_n 0, 1) := by decide +kernel
theorem dX7_beat_63 : decode cX7_beat 63 = .ok (.getfield 7, 3) := by decide +kernel
theorem dX7_beat_66 : decode cX7_beat 66 = .ok (.iconst 5, 1) := by decide +kernel
theorem dX7_beat_67 : decode cX7_beat 67 = .ok (.iaload, 1) := by decide +kernel
theorem dX7_beat_68 : decode cX7_beat 68 = .ok (.if_icmp .ge 47, 3) := by decide +kernel
theorem dX7_beat_71 : decode cX7_beat 71 = .ok (.aload_n 0, 1) := by decide +kernel
theorem dX7_beat_72 : decode cX7_beat 72 = .ok (.getfield 7, 3) := by decide +kernel
theorem dX7_beat_75 : decode cX7_beat 75 = .ok (.iconst 1, 1) := by decide +kernel
theorem dX7_beat_76 : decode cX7_beat 76 = .ok (.iaload, 1) := by decide +kernel
theorem dX7_beat_77 : decode cX7_beat 77 = .ok (.ifCond .le 38, 3) := by decide +kernel
theorem dX7_beat_80 : decode cX7_beat 80 = .ok (.aload_n 0, 1) := by decide +kernel
theorem dX7_beat_81 : decode cX7_beat 81 = .ok (.getfield 7, 3) := by decide +kernel
theorem dX7_beat_84 : decode cX7_beat 84 = .ok (.iconst 4, 1) := by decide +kernel
theorem dX7_beat_85 : decode cX7_beat 85 = .ok (.iaload, 1) := by decide +kernel
theorem dX7_beat_86 : decode cX7_beat 86 = .ok (.aload_n 0, 1) := by decide +kernel
theorem dX7_beat_87 : decode cX7_beat 87 = .ok (.getfield 7, 3) := by decide +kernel
theorem dX7_beat_90 : decode cX7_beat 90 = .ok (.iconst 1, 1) := by decide +kernel
theorem dX7_beat_91 : decode cX7_beat 91 = .ok (.iaload, 1) := by decide +kernel
theorem dX7_beat_92 : decode cX7_beat 92 = .ok (.irem, 1) := by decide +kernel
theorem dX7_beat_93 : decode cX7_beat 93 = .ok (.ifCond .ne 16, 3) := by decide +kernel
theorem dX7_beat_96 : decode cX7_beat 96 = .ok (.aload_n 0, 1) := by decide +kernel
theorem dX7_beat_97 : decode cX7_beat 97 = .ok (.iload_n 1, 1) := by decide +kernel
theorem dX7_beat_98 : decode cX7_beat 98 = .ok (.invokevirtual 91, 3) := by decide +kernel
theorem dX7_beat_101 : decode cX7_beat 101 = .ok (.ifCond .eq 8, 3) := by decide +kernel
theorem dX7_beat_104 : decode cX7_beat 104 = .ok (.aload_n 0, 1) := by decide +kernel
theorem dX7_beat_105 : decode cX7_beat 105 = .ok (.iload_n 1, 1) := by decide +kernel
theorem dX7_beat_106 : decode cX7_beat 106 = .ok (.invokevirtual 94, 3) := by decide +kernel
theorem dX7_beat_109 : decode cX7_beat 109 = .ok (.iinc 1 1, 3) := by decide +kernel
theorem dX7_beat_112 : decode cX7_beat 112 = .ok (.goto (-51), 3) := by decide +kernel
theorem dX7_beat_115 : decode cX7_beat 115 = .ok (.return_, 1) := by decide +kernel
theorem dX7_burn_0 : decode cX7_burn 0 = .ok (.aload_n 0, 1) := by decide +kernel
theorem dX7_burn_1 : decode cX7_burn 1 = .ok (.bipush 117, 2) := by decide +kernel
theorem dX7_burn_3 : decode cX7_burn 3 = .ok (.iload_n 1, 1) := by decide +kernel
theorem dX7_burn_4 : decode cX7_burn 4 = .ok (.iconst 0, 1) := by decide +kernel
theorem dX7_burn_5 : decode cX7_burn 5 = .ok (.iconst 0, 1) := by decide +kernel
theorem dX7_burn_6 : decode cX7_burn 6 = .ok (.iconst 0, 1) := by decide +kernel
theorem dX7_burn_7 : decode cX7_burn 7 = .ok (.invokevirtual 145, 3) := by decide +kernel
theorem dX7_burn_10 : decode cX7_burn 10 = .ok (.ireturn, 1) := by decide +kernel
theorem dX7_burns_0 : decode cX7_burns 0 = .ok (.iconst 0, 1) := by decide +kernel
theorem dX7_burns_1 : decode cX7_burns 1 = .ok (.istore_n 3, 1) := by decide +kernel
theorem dX7_burns_2 : decode cX7_burns 2 = .ok (.aload_n 0, 1) := by decide +kernel
theorem dX7_burns_3 : decode cX7_burns 3 = .ok (.getfield 7, 3) := by decide +kernel
theorem dX7_burns_6 : decode cX7_burns 6 = .ok (.iload_n 1, 1) := by decide +kernel
theorem dX7_burns_7 : decode cX7_burns 7 = .ok (.iconst 0, 1) := by decide +kernel
theorem dX7_burns_8 : decode cX7_burns 8 = .ok (.invokestatic 36, 3) := by decide +kernel
theorem dX7_burns_11 : decode cX7_burns 11 = .ok (.iaload, 1) := by decide +kernel
theorem dX7_burns_12 : decode cX7_burns 12 = .ok (.iload_n 2, 1) := by decide +kernel
theorem dX7_burns_13 : decode cX7_burns 13 = .ok (.if_icmp .le 60, 3) := by decide +kernel
theorem dX7_burns_16 : decode cX7_burns 16 = .ok (.iconst 0, 1) := by decide +kernel
theorem dX7_burns_17 : decode cX7_burns 17 = .ok (.istore 4, 2) := by decide +kernel
theorem dX7_burns_19 : decode cX7_burns 19 = .ok (.iload 4, 2) := by decide +kernel
theorem dX7_burns_21 : decode cX7_burns 21 = .ok (.iconst 4, 1) := by decide +kernel
theorem dX7_burns_22 : decode cX7_burns 22 = .ok (.if_icmp .ge 31, 3) := by decide +kernel
theorem dX7_burns_25 : decode cX7_burns 25 = .ok (.aload_n 0, 1) := by decide +kernel
theorem dX7_burns_26 : decode cX7_burns 26 = .ok (.getfield 7, 3) := by decide +kernel
theorem dX7_burns_29 : decode cX7_burns 29 = .ok (.iload_n 1, 1) := by decide +kernel
theorem dX7_burns_30 : decode cX7_burns 30 = .ok (.aload_n 0, 1) := by decide +kernel
theorem dX7_burns_31 : decode cX7_burns 31 = .ok (.getfield 7, 3) := by decide +kernel
theorem dX7_burns_34 : decode cX7_burns 34 = .ok (.iload_n 1, 1) := by decide +kernel
theorem dX7_burns_35 : decode cX7_burns 35 = .ok (.iconst 0, 1) := by decide +kernel
theorem dX7_burns_36 : decode cX7_burns 36 = .ok (.invokestatic 36, 3) := by decide +kernel
theorem dX7_burns_39 : decode cX7_burns 39 = .ok (.iaload, 1) := by decide +kernel
theorem dX7_burns_40 : decode cX7_burns 40 = .ok (.iload 4, 2) := by decide +kernel
theorem dX7_burns_42 : decode cX7_burns 42 = .ok (.invokestatic 40, 3) := by decide +kernel
theorem dX7_burns_45 : decode cX7_burns 45 = .ok (.iconst 0, 1) := by decide +kernel
theorem dX7_burns_46 : decode cX7_burns 46 = .ok (.iastore, 1) := by decide +kernel
theorem dX7_burns_47 : decode cX7_burns 47 = .ok (.iinc 4 1, 3) := by decide +kernel
theorem dX7_burns_50 : decode cX7_burns 50 = .ok (.goto (-31), 3) := by decide +kernel
theorem dX7_burns_53 : decode cX7_burns 53 = .ok (.aload_n 0, 1) := by decide +kernel
theorem dX7_burns_54 : decode cX7_burns 54 = .ok (.getfield 7, 3) := by decide +kernel
theorem dX7_burns_57 : decode cX7_burns 57 = .ok (.iload_n 1, 1) := by decide +kernel
theorem dX7_burns_58 : decode cX7_burns 58 = .ok (.iconst 0, 1) := by decide +kernel
theorem dX7_burns_59 : decode cX7_burns 59 = .ok (.invokestatic 36, 3) := by decide +kernel
theorem dX7_burns_62 : decode cX7_burns 62 = .ok (.dup2, 1) := by decide +kernel
theorem dX7_burns_63 : decode cX7_burns 63 = .ok (.iaload, 1) := by decide +kernel
theorem dX7_burns_64 : decode cX7_burns 64 = .ok (.iconst 1, 1) := by decide +kernel
theorem dX7_burns_65 : decode cX7_burns 65 = .ok (.isub, 1) := by decide +kernel
theorem dX7_burns_66 : decode cX7_burns 66 = .ok (.iastore, 1) := by decide +kernel
theorem dX7_burns_67 : decode cX7_burns 67 = .ok (.iinc 3 1, 3) := by decide +kernel
theorem dX7_burns_70 : decode cX7_burns 70 = .ok (.goto (-68), 3) := by decide +kernel
theorem dX7_burns_73 : decode cX7_burns 73 = .ok (.aload_n 0, 1) := by decide +kernel
theorem dX7_burns_74 : decode cX7_burns 74 = .ok (.getfield 7, 3) := by decide +kernel
theorem dX7_burns_77 : decode cX7_burns 77 = .ok (.bipush 9, 2) := by decide +kernel
theorem dX7_burns_79 : decode cX7_burns 79 = .ok (.dup2, 1) := by decide +kernel
theorem dX7_burns_80 : decode cX7_burns 80 = .ok (.iaload, 1) := by decide +kernel
theorem dX7_burns_81 : decode cX7_burns 81 = .ok (.iload_n 3, 1) := by decide +kernel
theorem dX7_burns_82 : decode cX7_burns 82 = .ok (.iadd, 1) := by decide +kernel
theorem dX7_burns_83 : decode cX7_burns 83 = .ok (.iastore, 1) := by decide +kernel
theorem dX7_burns_84 : decode cX7_burns 84 = .ok (.iload_n 3, 1) := by decide +kernel
theorem dX7_burns_85 : decode cX7_burns 85 = .ok (.ireturn, 1) := by decide +kernel
theorem dX7_burnt_0 : decode cX7_burnt 0 = .ok (.aload_n 0, 1) := by decide +kernel
theorem dX7_burnt_1 : decode cX7_burnt 1 = .ok (.iload_n 1, 1) := by decide +kernel
theorem dX7_burnt_2 : decode cX7_burnt 2 = .ok (.invokevirtual 87, 3) := by decide +kernel
theorem dX7_burnt_5 : decode cX7_burnt 5 = .ok (.ifCond .ne 7, 3) := by decide +kernel
theorem dX7_burnt_8 : decode cX7_burnt 8 = .ok (.iconst (-1), 1) := by decide +kernel
theorem dX7_burnt_9 : decode cX7_burnt 9 = .ok (.goto 21, 3) := by decide +kernel
theorem dX7_burnt_12 : decode cX7_burnt 12 = .ok (.aload_n 0, 1) := by decide +kernel
theorem dX7_burnt_13 : decode cX7_burnt 13 = .ok (.invokevirtual 59, 3) := by decide +kernel
theorem dX7_burnt_16 : decode cX7_burnt 16 = .ok (.ifCond .eq 12, 3) := by decide +kernel
theorem dX7_burnt_19 : decode cX7_burnt 19 = .ok (.aload_n 0, 1) := by decide +kernel
theorem dX7_burnt_20 : decode cX7_burnt 20 = .ok (.iload_n 1, 1) := by decide +kernel
theorem dX7_burnt_21 : decode cX7_burnt 21 = .ok (.iconst 0, 1) := by decide +kernel
theorem dX7_burnt_22 : decode cX7_burnt 22 = .ok (.invokevirtual 66, 3) := by decide +kernel
theorem dX7_burnt_25 : decode cX7_burnt 25 = .ok (.goto 5, 3) := by decide +kernel
theorem dX7_burnt_28 : decode cX7_burnt 28 = .ok (.bipush (-5), 2) := by decide +kernel
theorem dX7_burnt_30 : decode cX7_burnt 30 = .ok (.ireturn, 1) := by decide +kernel
theorem dX7_canRefresh_0 : decode cX7_canRefresh 0 = .ok (.aload_n 0, 1) := by decide +kernel
theorem dX7_canRefresh_1 : decode cX7_canRefresh 1 = .ok (.invokevirtual 59, 3) := by decide +kernel
theorem dX7_canRefresh_4 : decode cX7_canRefresh 4 = .ok (.ifCond .eq 24, 3) := by decide +kernel
theorem dX7_canRefresh_7 : decode cX7_canRefresh 7 = .ok (.aload_n 0, 1) := by decide +kernel
theorem dX7_canRefresh_8 : decode cX7_canRefresh 8 = .ok (.getfield 7, 3) := by decide +kernel
theorem dX7_canRefresh_11 : decode cX7_canRefresh 11 = .ok (.iload_n 1, 1) := by decide +kernel
theorem dX7_canRefresh_12 : decode cX7_canRefresh 12 = .ok (.iconst 0, 1) := by decide +kernel
theorem dX7_canRefresh_13 : decode cX7_canRefresh 13 = .ok (.iconst 0, 1) := by decide +kernel
theorem dX7_canRefresh_14 : decode cX7_canRefresh 14 = .ok (.invokestatic 40, 3) := by decide +kernel
theorem dX7_canRefresh_17 : decode cX7_canRefresh 17 = .ok (.iaload, 1) := by decide +kernel
theorem dX7_canRefresh_18 : decode cX7_canRefresh 18 = .ok (.sipush 999, 3) := by decide +kernel
theorem dX7_canRefresh_21 : decode cX7_canRefresh 21 = .ok (.if_icmp .ge 7, 3) := by decide +kernel
theorem dX7_canRefresh_24 : decode cX7_canRefresh 24 = .ok (.iconst 1, 1) := by decide +kernel
theorem dX7_canRefresh_25 : decode cX7_canRefresh 25 = .ok (.goto 4, 3) := by decide +kernel
theorem dX7_canRefresh_28 : decode cX7_canRefresh 28 = .ok (.iconst 0, 1) := by decide +kernel
theorem dX7_canRefresh_29 : decode cX7_canRefresh 29 = .ok (.ireturn, 1) := by decide +kernel
theorem dX7_carryOut_0 : decode cX7_carryOut 0 = .ok (.aload_n 0, 1) := by decide +kernel
theorem dX7_carryOut_1 : decode cX7_carryOut 1 = .ok (.iconst 0, 1) := by decide +kernel
theorem dX7_carryOut_2 : decode cX7_carryOut 2 = .ok (.invokevirtual 185, 3) := by decide +kernel
theorem dX7_carryOut_5 : decode cX7_carryOut 5 = .ok (.istore_n 1, 1) := by decide +kernel
theorem dX7_carryOut_6 : decode cX7_carryOut 6 = .ok (.aload_n 0, 1) := by decide +kernel
theorem dX7_carryOut_7 : decode cX7_carryOut 7 = .ok (.getfield 159, 3) := by decide +kernel
theorem dX7_carryOut_10 : decode cX7_carryOut 10 = .ok (.ifCond .eq 6, 3) := by decide +kernel
theorem dX7_carryOut_13 : decode cX7_carryOut 13 = .ok (.bipush (-3), 2) := by decide +kernel
theorem dX7_carryOut_15 : decode cX7_carryOut 15 = .ok (.ireturn, 1) := by decide +kernel
theorem dX7_carryOut_16 : decode cX7_carryOut 16 = .ok (.aload_n 0, 1) := by decide +kernel
theorem dX7_carryOut_17 : decode cX7_carryOut 17 = .ok (.invokevirtual 142, 3) := by decide +kernel
theorem dX7_carryOut_20 : decode cX7_carryOut 20 = .ok (.aload_n 0, 1) := by decide +kernel
theorem dX7_carryOut_21 : decode cX7_carryOut 21 = .ok (.iconst 1, 1) := by decide +kernel
theorem dX7_carryOut_22 : decode cX7_carryOut 22 = .ok (.invokevirtual 185, 3) := by decide +kernel
theorem dX7_carryOut_25 : decode cX7_carryOut 25 = .ok (.istore_n 2, 1) := by decide +kernel
theorem dX7_carryOut_26 : decode cX7_carryOut 26 = .ok (.aload_n 0, 1) := by decide +kernel
theorem dX7_carryOut_27 : decode cX7_carryOut 27 = .ok (.iconst 0, 1) := by decide +kernel
theorem dX7_carryOut_28 : decode cX7_carryOut 28 = .ok (.putfield 151, 3) := by decide +kernel
theorem dX7_carryOut_31 : decode cX7_carryOut 31 = .ok (.iload_n 2, 1) := by decide +kernel
theorem dX7_carryOut_32 : decode cX7_carryOut 32 = .ok (.ireturn, 1) := by decide +kernel
theorem dX7_cell_0 : decode cX7_cell 0 = .ok (.bipush 12, 2) := by decide +kernel
theorem dX7_cell_2 : decode cX7_cell 2 = .ok (.bipush 35, 2) := by decide +kernel
theorem dX7_cell_4 : decode cX7_cell 4 = .ok (.iload_n 0, 1) := by decide +kernel
theorem dX7_cell_5 : decode cX7_cell 5 = .ok (.imul, 1) := by decide +kernel
theorem dX7_cell_6 : decode cX7_cell 6 = .ok (.iadd, 1) := by decide +kernel
theorem dX7_cell_7 : decode cX7_cell 7 = .ok (.iload_n 1, 1) := by decide +kernel
theorem dX7_cell_8 : decode cX7_cell 8 = .ok (.iadd, 1) := by decide +kernel
theorem dX7_cell_9 : decode cX7_cell 9 = .ok (.ireturn, 1) := by decide +kernel
theorem dX7_count_0 : decode cX7_count 0 = .ok (.iload_n 1, 1) := by decide +kernel
theorem dX7_count_1 : decode cX7_count 1 = .ok (.iconst 0, 1) := by decide +kernel
theorem dX7_count_2 : decode cX7_count 2 = .ok (.iconst 1, 1) := by decide +kernel
theorem dX7_count_3 : decode cX7_count 3 = .ok (.invokestatic 32, 3) := by decide +kernel
theorem dX7_count_6 : decode cX7_count 6 = .ok (.ifCond .eq 12, 3) := by decide +kernel
theorem dX7_count_9 : decode cX7_count 9 = .ok (.aload_n 0, 1) := by decide +kernel
theorem dX7_count_10 : decode cX7_count 10 = .ok (.getfield 7, 3) := by decide +kernel
theorem dX7_count_13 : decode cX7_count 13 = .ok (.iconst 4, 1) := by decide +kernel
theorem dX7_count_14 : decode cX7_count 14 = .ok (.iload_n 1, 1) := by decide +kernel
theorem dX7_count_15 : decode cX7_count 15 = .ok (.iadd, 1) := by decide +kernel
theorem dX7_count_16 : decode cX7_count 16 = .ok (.iaload, 1) := by decide +kernel
theorem dX7_count_17 : decode cX7_count 17 = .ok (.ireturn, 1) := by decide +kernel
theorem dX7_count_18 : decode cX7_count 18 = .ok (.iload_n 1, 1) := by decide +kernel
theorem dX7_count_19 : decode cX7_count 19 = .ok (.iconst 4, 1) := by decide +kernel
theorem dX7_count_20 : decode cX7_count 20 = .ok (.bipush 9, 2) := by decide +kernel
theorem dX7_count_22 : decode cX7_count 22 = .ok (.invokestatic 32, 3) := by decide +kernel
theorem dX7_count_25 : decode cX7_count 25 = .ok (.ifCond .eq 15, 3) := by decide +kernel
theorem dX7_count_28 : decode cX7_count 28 = .ok (.aload_n 0, 1) := by decide +kernel
theorem dX7_count_29 : decode cX7_count 29 = .ok (.getfield 7, 3) := by decide +kernel
theorem dX7_count_32 : decode cX7_count 32 = .ok (.bipush 6, 2) := by decide +kernel
theorem dX7_count_34 : decode cX7_count 34 = .ok (.iload_n 1, 1) := by decide +kernel
theorem dX7_count_35 : decode cX7_count 35 = .ok (.iadd, 1) := by decide +kernel
theorem dX7_count_36 : decode cX7_count 36 = .ok (.iconst 4, 1) := by decide +kernel
theorem dX7_count_37 : decode cX7_count 37 = .ok (.isub, 1) := by decide +kernel
theorem dX7_count_38 : decode cX7_count 38 = .ok (.iaload, 1) := by decide +kernel
theorem dX7_count_39 : decode cX7_count 39 = .ok (.ireturn, 1) := by decide +kernel
theorem dX7_count_40 : decode cX7_count 40 = .ok (.iload_n 1, 1) := by decide +kernel
theorem dX7_count_41 : decode cX7_count 41 = .ok (.tableswitch 110 2 15 #[71, 77, 110, 110, 110, 110, 110, 110, 83, 90, 90, 90, 100, 105], 71) := by decide +kernel
theorem dX7_count_112 : decode cX7_count 112 = .ok (.aload_n 0, 1) := by decide +kernel
theorem dX7_count_113 : decode cX7_count 113 = .ok (.iconst 2, 1) := by decide +kernel
theorem dX7_count_114 : decode cX7_count 114 = .ok (.invokevirtual 148, 3) := by decide +kernel
theorem dX7_count_117 : decode cX7_count 117 = .ok (.ireturn, 1) := by decide +kernel
theorem dX7_count_118 : decode cX7_count 118 = .ok (.aload_n 0, 1) := by decide +kernel
theorem dX7_count_119 : decode cX7_count 119 = .ok (.iconst 5, 1) := by decide +kernel
theorem dX7_count_120 : decode cX7_count 120 = .ok (.invokevirtual 148, 3) := by decide +kernel
theorem dX7_count_123 : decode cX7_count 123 = .ok (.ireturn, 1) := by decide +kernel
theorem dX7_count_124 : decode cX7_count 124 = .ok (.aload_n 0, 1) := by decide +kernel
theorem dX7_count_125 : decode cX7_count 125 = .ok (.getfield 7, 3) := by decide +kernel
theorem dX7_count_128 : decode cX7_count 128 = .ok (.iconst 3, 1) := by decide +kernel
theorem dX7_count_129 : decode cX7_count 129 = .ok (.iaload, 1) := by decide +kernel
theorem dX7_count_130 : decode cX7_count 130 = .ok (.ireturn, 1) := by decide +kernel
theorem dX7_count_131 : decode cX7_count 131 = .ok (.aload_n 0, 1) := by decide +kernel
theorem dX7_count_132 : decode cX7_count 132 = .ok (.getfield 7, 3) := by decide +kernel
theorem dX7_count_135 : decode cX7_count 135 = .ok (.iload_n 1, 1) := by decide +kernel
theorem dX7_count_136 : decode cX7_count 136 = .ok (.bipush 11, 2) := by decide +kernel
theorem dX7_count_138 : decode cX7_count 138 = .ok (.isub, 1) := by decide +kernel
theorem dX7_count_139 : decode cX7_count 139 = .ok (.iaload, 1) := by decide +kernel
theorem dX7_count_140 : decode cX7_count 140 = .ok (.ireturn, 1) := by decide +kernel
theorem dX7_count_141 : decode cX7_count 141 = .ok (.aload_n 0, 1) := by decide +kernel
theorem dX7_count_142 : decode cX7_count 142 = .ok (.getfield 151, 3) := by decide +kernel
theorem dX7_count_145 : decode cX7_count 145 = .ok (.ireturn, 1) := by decide +kernel
theorem dX7_count_146 : decode cX7_count 146 = .ok (.aload_n 0, 1) := by decide +kernel
theorem dX7_count_147 : decode cX7_count 147 = .ok (.getfield 44, 3) := by decide +kernel
theorem dX7_count_150 : decode cX7_count 150 = .ok (.ireturn, 1) := by decide +kernel
theorem dX7_count_151 : decode cX7_count 151 = .ok (.bipush (-2), 2) := by decide +kernel
theorem dX7_count_153 : decode cX7_count 153 = .ok (.ireturn, 1) := by decide +kernel
theorem dX7_does_0 : decode cX7_does 0 = .ok (.iload_n 1, 1) := by decide +kernel
theorem dX7_does_1 : decode cX7_does 1 = .ok (.tableswitch 129 107 122 #[79, 109, 97, 129, 129, 129, 129, 85, 129, 120, 91, 129, 129, 129, 129, 103], 79) := by decide +kernel
theorem dX7_does_80 : decode cX7_does 80 = .ok (.aload_n 0, 1) := by decide +kernel
theorem dX7_does_81 : decode cX7_does 81 = .ok (.iload_n 2, 1) := by decide +kernel
theorem dX7_does_82 : decode cX7_does 82 = .ok (.invokevirtual 117, 3) := by decide +kernel
theorem dX7_does_85 : decode cX7_does 85 = .ok (.ireturn, 1) := by decide +kernel
theorem dX7_does_86 : decode cX7_does 86 = .ok (.aload_n 0, 1) := by decide +kernel
theorem dX7_does_87 : decode cX7_does 87 = .ok (.iload_n 2, 1) := by decide +kernel
theorem dX7_does_88 : decode cX7_does 88 = .ok (.invokevirtual 120, 3) := by decide +kernel
theorem dX7_does_91 : decode cX7_does 91 = .ok (.ireturn, 1) := by decide +kernel
theorem dX7_does_92 : decode cX7_does 92 = .ok (.aload_n 0, 1) := by decide +kernel
theorem dX7_does_93 : decode cX7_does 93 = .ok (.iload_n 2, 1) := by decide +kernel
theorem dX7_does_94 : decode cX7_does 94 = .ok (.invokevirtual 123, 3) := by decide +kernel
theorem dX7_does_97 : decode cX7_does 97 = .ok (.ireturn, 1) := by decide +kernel
theorem dX7_does_98 : decode cX7_does 98 = .ok (.aload_n 0, 1) := by decide +kernel
theorem dX7_does_99 : decode cX7_does 99 = .ok (.iload_n 2, 1) := by decide +kernel
theorem dX7_does_100 : decode cX7_does 100 = .ok (.invokevirtual 126, 3) := by decide +kernel
theorem dX7_does_103 : decode cX7_does 103 = .ok (.ireturn, 1) := by decide +kernel
theorem dX7_does_104 : decode cX7_does 104 = .ok (.aload_n 0, 1) := by decide +kernel
theorem dX7_does_105 : decode cX7_does 105 = .ok (.iload_n 2, 1) := by decide +kernel
theorem dX7_does_106 : decode cX7_does 106 = .ok (.invokevirtual 129, 3) := by decide +kernel
theorem dX7_does_109 : decode cX7_does 109 = .ok (.ireturn, 1) := by decide +kernel
theorem dX7_does_110 : decode cX7_does 110 = .ok (.aload_n 0, 1) := by decide +kernel
theorem dX7_does_111 : decode cX7_does 111 = .ok (.iload_n 2, 1) := by decide +kernel
theorem dX7_does_112 : decode cX7_does 112 = .ok (.iload_n 3, 1) := by decide +kernel
theorem dX7_does_113 : decode cX7_does 113 = .ok (.iload 4, 2) := by decide +kernel
theorem dX7_does_115 : decode cX7_does 115 = .ok (.iload 5, 2) := by decide +kernel
theorem dX7_does_117 : decode cX7_does 117 = .ok (.invokevirtual 132, 3) := by decide +kernel
theorem dX7_does_120 : decode cX7_does 120 = .ok (.ireturn, 1) := by decide +kernel
theorem dX7_does_121 : decode cX7_does 121 = .ok (.aload_n 0, 1) := by decide +kernel
theorem dX7_does_122 : decode cX7_does 122 = .ok (.iload_n 2, 1) := by decide +kernel
theorem dX7_does_123 : decode cX7_does 123 = .ok (.iload_n 3, 1) := by decide +kernel
theorem dX7_does_124 : decode cX7_does 124 = .ok (.iload 4, 2) := by decide +kernel
theorem dX7_does_126 : decode cX7_does 126 = .ok (.invokevirtual 136, 3) := by decide +kernel
theorem dX7_does_129 : decode cX7_does 129 = .ok (.ireturn, 1) := by decide +kernel
theorem dX7_does_130 : decode cX7_does 130 = .ok (.aload_n 0, 1) := by decide +kernel
theorem dX7_does_131 : decode cX7_does 131 = .ok (.iload_n 2, 1) := by decide +kernel
theorem dX7_does_132 : decode cX7_does 132 = .ok (.invokevirtual 139, 3) := by decide +kernel
theorem dX7_does_135 : decode cX7_does 135 = .ok (.ireturn, 1) := by decide +kernel
theorem dX7_draw_0 : decode cX7_draw 0 = .ok (.aload_n 0, 1) := by decide +kernel
theorem dX7_draw_1 : decode cX7_draw 1 = .ok (.getfield 7, 3) := by decide +kernel
theorem dX7_draw_4 : decode cX7_draw 4 = .ok (.iconst 3, 1) := by decide +kernel
theorem dX7_draw_5 : decode cX7_draw 5 = .ok (.bipush 75, 2) := by decide +kernel
theorem dX7_draw_7 : decode cX7_draw 7 = .ok (.aload_n 0, 1) := by decide +kernel
theorem dX7_draw_8 : decode cX7_draw 8 = .ok (.getfield 7, 3) := by decide +kernel
theorem dX7_draw_11 : decode cX7_draw 11 = .ok (.iconst 3, 1) := by decide +kernel
theorem dX7_draw_12 : decode cX7_draw 12 = .ok (.iaload, 1) := by decide +kernel
theorem dX7_draw_13 : decode cX7_draw 13 = .ok (.imul, 1) := by decide +kernel
theorem dX7_draw_14 : decode cX7_draw 14 = .ok (.bipush 74, 2) := by decide +kernel
theorem dX7_draw_16 : decode cX7_draw 16 = .ok (.iadd, 1) := by decide +kernel
theorem dX7_draw_17 : decode cX7_draw 17 = .ok (.ldc 54, 2) := by decide +kernel
theorem dX7_draw_19 : decode cX7_draw 19 = .ok (.irem, 1) := by decide +kernel
theorem dX7_draw_20 : decode cX7_draw 20 = .ok (.iastore, 1) := by decide +kernel
theorem dX7_draw_21 : decode cX7_draw 21 = .ok (.aload_n 0, 1) := by decide +kernel
theorem dX7_draw_22 : decode cX7_draw 22 = .ok (.getfield 7, 3) := by decide +kernel
theorem dX7_draw_25 : decode cX7_draw 25 = .ok (.iconst 3, 1) := by decide +kernel
theorem dX7_draw_26 : decode cX7_draw 26 = .ok (.iaload, 1) := by decide +kernel
theorem dX7_draw_27 : decode cX7_draw 27 = .ok (.bipush 16, 2) := by decide +kernel
theorem dX7_draw_29 : decode cX7_draw 29 = .ok (.idiv, 1) := by decide +kernel
theorem dX7_draw_30 : decode cX7_draw 30 = .ok (.iload_n 1, 1) := by decide +kernel
theorem dX7_draw_31 : decode cX7_draw 31 = .ok (.irem, 1) := by decide +kernel
theorem dX7_draw_32 : decode cX7_draw 32 = .ok (.ireturn, 1) := by decide +kernel
theorem dX7_fault_0 : decode cX7_fault 0 = .ok (.aload_n 0, 1) := by decide +kernel
theorem dX7_fault_1 : decode cX7_fault 1 = .ok (.iconst 0, 1) := by decide +kernel
theorem dX7_fault_2 : decode cX7_fault 2 = .ok (.invokevirtual 185, 3) := by decide +kernel
theorem dX7_fault_5 : decode cX7_fault 5 = .ok (.istore_n 1, 1) := by decide +kernel
theorem dX7_fault_6 : decode cX7_fault 6 = .ok (.aload_n 0, 1) := by decide +kernel
theorem dX7_fault_7 : decode cX7_fault 7 = .ok (.getfield 159, 3) := by decide +kernel
theorem dX7_fault_10 : decode cX7_fault 10 = .ok (.ifCond .eq 10, 3) := by decide +kernel
theorem dX7_fault_13 : decode cX7_fault 13 = .ok (.aload_n 0, 1) := by decide +kernel
theorem dX7_fault_14 : decode cX7_fault 14 = .ok (.getfield 163, 3) := by decide +kernel
theorem dX7_fault_17 : decode cX7_fault 17 = .ok (.goto 5, 3) := by decide +kernel
theorem dX7_fault_20 : decode cX7_fault 20 = .ok (.bipush (-6), 2) := by decide +kernel
theorem dX7_fault_22 : decode cX7_fault 22 = .ok (.ireturn, 1) := by decide +kernel
theorem dX7_goes_0 : decode cX7_goes 0 = .ok (.aload_n 0, 1) := by decide +kernel
theorem dX7_goes_1 : decode cX7_goes 1 = .ok (.iconst 0, 1) := by decide +kernel
theorem dX7_goes_2 : decode cX7_goes 2 = .ok (.putfield 163, 3) := by decide +kernel
theorem dX7_goes_5 : decode cX7_goes 5 = .ok (.aload_n 0, 1) := by decide +kernel
theorem dX7_goes_6 : decode cX7_goes 6 = .ok (.iconst 0, 1) := by decide +kernel
theorem dX7_goes_7 : decode cX7_goes 7 = .ok (.putfield 159, 3) := by decide +kernel
theorem dX7_goes_10 : decode cX7_goes 10 = .ok (.iconst 0, 1) := by decide +kernel
theorem dX7_goes_11 : decode cX7_goes 11 = .ok (.istore_n 2, 1) := by decide +kernel
theorem dX7_goes_12 : decode cX7_goes 12 = .ok (.iconst 1, 1) := by decide +kernel
theorem dX7_goes_13 : decode cX7_goes 13 = .ok (.istore_n 3, 1) := by decide +kernel
theorem dX7_goes_14 : decode cX7_goes 14 = .ok (.iload_n 3, 1) := by decide +kernel
theorem dX7_goes_15 : decode cX7_goes 15 = .ok (.ifCond .eq 97, 3) := by decide +kernel
theorem dX7_goes_18 : decode cX7_goes 18 = .ok (.aload_n 0, 1) := by decide +kernel
theorem dX7_goes_19 : decode cX7_goes 19 = .ok (.invokevirtual 179, 3) := by decide +kernel
theorem dX7_goes_22 : decode cX7_goes 22 = .ok (.iload_n 1, 1) := by decide +kernel
theorem dX7_goes_23 : decode cX7_goes 23 = .ok (.ifCond .eq 10, 3) := by decide +kernel
theorem dX7_goes_26 : decode cX7_goes 26 = .ok (.aload_n 0, 1) := by decide +kernel
theorem dX7_goes_27 : decode cX7_goes 27 = .ok (.invokevirtual 182, 3) := by decide +kernel
theorem dX7_goes_30 : decode cX7_goes 30 = .ok (.ifCond .eq 7, 3) := by decide +kernel
theorem dX7_goes_33 : decode cX7_goes 33 = .ok (.iconst 1, 1) := by decide +kernel
theorem dX7_goes_34 : decode cX7_goes 34 = .ok (.goto 4, 3) := by decide +kernel
theorem dX7_goes_37 : decode cX7_goes 37 = .ok (.iconst 0, 1) := by decide +kernel
theorem dX7_goes_38 : decode cX7_goes 38 = .ok (.istore 4, 2) := by decide +kernel
theorem dX7_goes_40 : decode cX7_goes 40 = .ok (.iload_n 2, 1) := by decide +kernel
theorem dX7_goes_41 : decode cX7_goes 41 = .ok (.iload 4, 2) := by decide +kernel
theorem dX7_goes_43 : decode cX7_goes 43 = .ok (.ifCond .eq 7, 3) := by decide +kernel
theorem dX7_goes_46 : decode cX7_goes 46 = .ok (.iconst 1, 1) := by decide +kernel
theorem dX7_goes_47 : decode cX7_goes 47 = .ok (.goto 4, 3) := by decide +kernel
theorem dX7_goes_50 : decode cX7_goes 50 = .ok (.iconst 0, 1) := by decide +kernel
theorem dX7_goes_51 : decode cX7_goes 51 = .ok (.iadd, 1) := by decide +kernel
theorem dX7_goes_52 : decode cX7_goes 52 = .ok (.istore_n 2, 1) := by decide +kernel
theorem dX7_goes_53 : decode cX7_goes 53 = .ok (.iload 4, 2) := by decide +kernel
theorem dX7_goes_55 : decode cX7_goes 55 = .ok (.ifCond .eq 25, 3) := by decide +kernel
theorem dX7_goes_58 : decode cX7_goes 58 = .ok (.aload_n 0, 1) := by decide +kernel
theorem dX7_goes_59 : decode cX7_goes 59 = .ok (.getfield 159, 3) := by decide +kernel
theorem dX7_goes_62 : decode cX7_goes 62 = .ok (.ifCond .ne 18, 3) := by decide +kernel
theorem dX7_goes_65 : decode cX7_goes 65 = .ok (.aload_n 0, 1) := by decide +kernel
theorem dX7_goes_66 : decode cX7_goes 66 = .ok (.getfield 163, 3) := by decide +kernel
theorem dX7_goes_69 : decode cX7_goes 69 = .ok (.aload_n 0, 1) := by decide +kernel
theorem dX7_goes_70 : decode cX7_goes 70 = .ok (.getfield 151, 3) := by decide +kernel
theorem dX7_goes_73 : decode cX7_goes 73 = .ok (.if_icmp .ge 7, 3) := by decide +kernel
theorem dX7_goes_76 : decode cX7_goes 76 = .ok (.iconst 1, 1) := by decide +kernel
theorem dX7_goes_77 : decode cX7_goes 77 = .ok (.goto 4, 3) := by decide +kernel
theorem dX7_goes_80 : decode cX7_goes 80 = .ok (.iconst 0, 1) := by decide +kernel
theorem dX7_goes_81 : decode cX7_goes 81 = .ok (.istore_n 3, 1) := by decide +kernel
theorem dX7_goes_82 : decode cX7_goes 82 = .ok (.iload_n 3, 1) := by decide +kernel
theorem dX7_goes_83 : decode cX7_goes 83 = .ok (.ifCond .eq 26, 3) := by decide +kernel
theorem dX7_goes_86 : decode cX7_goes 86 = .ok (.aload_n 0, 1) := by decide +kernel
theorem dX7_goes_87 : decode cX7_goes 87 = .ok (.bipush 59, 2) := by decide +kernel
theorem dX7_goes_89 : decode cX7_goes 89 = .ok (.bipush 59, 2) := by decide +kernel
theorem dX7_goes_91 : decode cX7_goes 91 = .ok (.invokevirtual 166, 3) := by decide +kernel
theorem dX7_goes_94 : decode cX7_goes 94 = .ok (.istore 5, 2) := by decide +kernel
theorem dX7_goes_96 : decode cX7_goes 96 = .ok (.aload_n 0, 1) := by decide +kernel
theorem dX7_goes_97 : decode cX7_goes 97 = .ok (.getfield 159, 3) := by decide +kernel
theorem dX7_goes_100 : decode cX7_goes 100 = .ok (.ifCond .ne 7, 3) := by decide +kernel
theorem dX7_goes_103 : decode cX7_goes 103 = .ok (.iconst 1, 1) := by decide +kernel
theorem dX7_goes_104 : decode cX7_goes 104 = .ok (.goto 4, 3) := by decide +kernel
theorem dX7_goes_107 : decode cX7_goes 107 = .ok (.iconst 0, 1) := by decide +kernel
theorem dX7_goes_108 : decode cX7_goes 108 = .ok (.istore_n 3, 1) := by decide +kernel
theorem dX7_goes_109 : decode cX7_goes 109 = .ok (.goto (-95), 3) := by decide +kernel
theorem dX7_goes_112 : decode cX7_goes 112 = .ok (.iload_n 2, 1) := by decide +kernel
theorem dX7_goes_113 : decode cX7_goes 113 = .ok (.ireturn, 1) := by decide +kernel
theorem dX7_ifMerged_0 : decode cX7_ifMerged 0 = .ok (.aload_n 0, 1) := by decide +kernel
theorem dX7_ifMerged_1 : decode cX7_ifMerged 1 = .ok (.iload_n 1, 1) := by decide +kernel
theorem dX7_ifMerged_2 : decode cX7_ifMerged 2 = .ok (.invokevirtual 87, 3) := by decide +kernel
theorem dX7_ifMerged_5 : decode cX7_ifMerged 5 = .ok (.ifCond .ne 7, 3) := by decide +kernel
theorem dX7_ifMerged_8 : decode cX7_ifMerged 8 = .ok (.iconst (-1), 1) := by decide +kernel
theorem dX7_ifMerged_9 : decode cX7_ifMerged 9 = .ok (.goto 20, 3) := by decide +kernel
theorem dX7_ifMerged_12 : decode cX7_ifMerged 12 = .ok (.aload_n 0, 1) := by decide +kernel
theorem dX7_ifMerged_13 : decode cX7_ifMerged 13 = .ok (.invokevirtual 59, 3) := by decide +kernel
theorem dX7_ifMerged_16 : decode cX7_ifMerged 16 = .ok (.ifCond .eq 11, 3) := by decide +kernel
theorem dX7_ifMerged_19 : decode cX7_ifMerged 19 = .ok (.aload_n 0, 1) := by decide +kernel
theorem dX7_ifMerged_20 : decode cX7_ifMerged 20 = .ok (.iload_n 1, 1) := by decide +kernel
theorem dX7_ifMerged_21 : decode cX7_ifMerged 21 = .ok (.invokevirtual 101, 3) := by decide +kernel
theorem dX7_ifMerged_24 : decode cX7_ifMerged 24 = .ok (.goto 5, 3) := by decide +kernel
theorem dX7_ifMerged_27 : decode cX7_ifMerged 27 = .ok (.bipush (-5), 2) := by decide +kernel
theorem dX7_ifMerged_29 : decode cX7_ifMerged 29 = .ok (.ireturn, 1) := by decide +kernel
theorem dX7_in_0 : decode cX7_in 0 = .ok (.iload_n 0, 1) := by decide +kernel
theorem dX7_in_1 : decode cX7_in 1 = .ok (.iload_n 1, 1) := by decide +kernel
theorem dX7_in_2 : decode cX7_in 2 = .ok (.if_icmp .lt 12, 3) := by decide +kernel
theorem dX7_in_5 : decode cX7_in 5 = .ok (.iload_n 0, 1) := by decide +kernel
theorem dX7_in_6 : decode cX7_in 6 = .ok (.iload_n 2, 1) := by decide +kernel
theorem dX7_in_7 : decode cX7_in 7 = .ok (.if_icmp .gt 7, 3) := by decide +kernel
theorem dX7_in_10 : decode cX7_in 10 = .ok (.iconst 1, 1) := by decide +kernel
theorem dX7_in_11 : decode cX7_in 11 = .ok (.goto 4, 3) := by decide +kernel
theorem dX7_in_14 : decode cX7_in 14 = .ok (.iconst 0, 1) := by decide +kernel
theorem dX7_in_15 : decode cX7_in 15 = .ok (.ireturn, 1) := by decide +kernel
theorem dX7_init_0 : decode cX7_init 0 = .ok (.aload_n 0, 1) := by decide +kernel
theorem dX7_init_1 : decode cX7_init 1 = .ok (.invokespecial 1, 3) := by decide +kernel
theorem dX7_init_4 : decode cX7_init 4 = .ok (.aload_n 0, 1) := by decide +kernel
theorem dX7_init_5 : decode cX7_init 5 = .ok (.sipush 292, 3) := by decide +kernel
theorem dX7_init_8 : decode cX7_init 8 = .ok (.newarray .int, 2) := by decide +kernel
theorem dX7_init_10 : decode cX7_init 10 = .ok (.putfield 7, 3) := by decide +kernel
theorem dX7_init_13 : decode cX7_init 13 = .ok (.aload_n 0, 1) := by decide +kernel
theorem dX7_init_14 : decode cX7_init 14 = .ok (.sipush 1752, 3) := by decide +kernel
theorem dX7_init_17 : decode cX7_init 17 = .ok (.newarray .int, 2) := by decide +kernel
theorem dX7_init_19 : decode cX7_init 19 = .ok (.putfield 13, 3) := by decide +kernel
theorem dX7_init_22 : decode cX7_init 22 = .ok (.aload_n 0, 1) := by decide +kernel
theorem dX7_init_23 : decode cX7_init 23 = .ok (.sipush 584, 3) := by decide +kernel
theorem dX7_init_26 : decode cX7_init 26 = .ok (.newarray .int, 2) := by decide +kernel
theorem dX7_init_28 : decode cX7_init 28 = .ok (.putfield 16, 3) := by decide +kernel
theorem dX7_init_31 : decode cX7_init 31 = .ok (.aload_n 0, 1) := by decide +kernel
theorem dX7_init_32 : decode cX7_init 32 = .ok (.iconst 2, 1) := by decide +kernel
theorem dX7_init_33 : decode cX7_init 33 = .ok (.newarray .boolean, 2) := by decide +kernel
theorem dX7_init_35 : decode cX7_init 35 = .ok (.putfield 19, 3) := by decide +kernel
theorem dX7_init_38 : decode cX7_init 38 = .ok (.aload_n 0, 1) := by decide +kernel
theorem dX7_init_39 : decode cX7_init 39 = .ok (.bipush 80, 2) := by decide +kernel
theorem dX7_init_41 : decode cX7_init 41 = .ok (.newarray .int, 2) := by decide +kernel
theorem dX7_init_43 : decode cX7_init 43 = .ok (.putfield 23, 3) := by decide +kernel
theorem dX7_init_46 : decode cX7_init 46 = .ok (.aload_n 0, 1) := by decide +kernel
theorem dX7_init_47 : decode cX7_init 47 = .ok (.sipush 292, 3) := by decide +kernel
theorem dX7_init_50 : decode cX7_init 50 = .ok (.newarray .int, 2) := by decide +kernel
theorem dX7_init_52 : decode cX7_init 52 = .ok (.putfield 26, 3) := by decide +kernel
theorem dX7_init_55 : decode cX7_init 55 = .ok (.aload_n 0, 1) := by decide +kernel
theorem dX7_init_56 : decode cX7_init 56 = .ok (.iconst 5, 1) := by decide +kernel
theorem dX7_init_57 : decode cX7_init 57 = .ok (.newarray .int, 2) := by decide +kernel
theorem dX7_init_59 : decode cX7_init 59 = .ok (.putfield 29, 3) := by decide +kernel
theorem dX7_init_62 : decode cX7_init 62 = .ok (.aload_n 0, 1) := by decide +kernel
theorem dX7_init_63 : decode cX7_init 63 = .ok (.getfield 7, 3) := by decide +kernel
theorem dX7_init_66 : decode cX7_init 66 = .ok (.iconst 0, 1) := by decide +kernel
theorem dX7_init_67 : decode cX7_init 67 = .ok (.iconst 1, 1) := by decide +kernel
theorem dX7_init_68 : decode cX7_init 68 = .ok (.iastore, 1) := by decide +kernel
theorem dX7_init_69 : decode cX7_init 69 = .ok (.aload_n 0, 1) := by decide +kernel
theorem dX7_init_70 : decode cX7_init 70 = .ok (.getfield 7, 3) := by decide +kernel
theorem dX7_init_73 : decode cX7_init 73 = .ok (.iconst 2, 1) := by decide +kernel
theorem dX7_init_74 : decode cX7_init 74 = .ok (.iconst 2, 1) := by decide +kernel
theorem dX7_init_75 : decode cX7_init 75 = .ok (.iastore, 1) := by decide +kernel
theorem dX7_init_76 : decode cX7_init 76 = .ok (.aload_n 0, 1) := by decide +kernel
theorem dX7_init_77 : decode cX7_init 77 = .ok (.getfield 7, 3) := by decide +kernel
theorem dX7_init_80 : decode cX7_init 80 = .ok (.iconst 3, 1) := by decide +kernel
theorem dX7_init_81 : decode cX7_init 81 = .ok (.iconst 1, 1) := by decide +kernel
theorem dX7_init_82 : decode cX7_init 82 = .ok (.iastore, 1) := by decide +kernel
theorem dX7_init_83 : decode cX7_init 83 = .ok (.return_, 1) := by decide +kernel
theorem dX7_isDone_0 : decode cX7_isDone 0 = .ok (.aload_n 0, 1) := by decide +kernel
theorem dX7_isDone_1 : decode cX7_isDone 1 = .ok (.getfield 29, 3) := by decide +kernel
theorem dX7_isDone_4 : decode cX7_isDone 4 = .ok (.iconst 0, 1) := by decide +kernel
theorem dX7_isDone_5 : decode cX7_isDone 5 = .ok (.iaload, 1) := by decide +kernel
theorem dX7_isDone_6 : decode cX7_isDone 6 = .ok (.bipush 116, 2) := by decide +kernel
theorem dX7_isDone_8 : decode cX7_isDone 8 = .ok (.if_icmp .ne 31, 3) := by decide +kernel
theorem dX7_isDone_11 : decode cX7_isDone 11 = .ok (.aload_n 0, 1) := by decide +kernel
theorem dX7_isDone_12 : decode cX7_isDone 12 = .ok (.getfield 29, 3) := by decide +kernel
theorem dX7_isDone_15 : decode cX7_isDone 15 = .ok (.iconst 3, 1) := by decide +kernel
theorem dX7_isDone_16 : decode cX7_isDone 16 = .ok (.iaload, 1) := by decide +kernel
theorem dX7_isDone_17 : decode cX7_isDone 17 = .ok (.bipush (-6), 2) := by decide +kernel
theorem dX7_isDone_19 : decode cX7_isDone 19 = .ok (.if_icmp .ne 20, 3) := by decide +kernel
theorem dX7_isDone_22 : decode cX7_isDone 22 = .ok (.aload_n 0, 1) := by decide +kernel
theorem dX7_isDone_23 : decode cX7_isDone 23 = .ok (.aload_n 0, 1) := by decide +kernel
theorem dX7_isDone_24 : decode cX7_isDone 24 = .ok (.getfield 29, 3) := by decide +kernel
theorem dX7_isDone_27 : decode cX7_isDone 27 = .ok (.iconst 2, 1) := by decide +kernel
theorem dX7_isDone_28 : decode cX7_isDone 28 = .ok (.iaload, 1) := by decide +kernel
theorem dX7_isDone_29 : decode cX7_isDone 29 = .ok (.invokevirtual 87, 3) := by decide +kernel
theorem dX7_isDone_32 : decode cX7_isDone 32 = .ok (.ifCond .eq 7, 3) := by decide +kernel
theorem dX7_isDone_35 : decode cX7_isDone 35 = .ok (.iconst 1, 1) := by decide +kernel
theorem dX7_isDone_36 : decode cX7_isDone 36 = .ok (.goto 4, 3) := by decide +kernel
theorem dX7_isDone_39 : decode cX7_isDone 39 = .ok (.iconst 0, 1) := by decide +kernel
theorem dX7_isDone_40 : decode cX7_isDone 40 = .ok (.istore_n 1, 1) := by decide +kernel
theorem dX7_isDone_41 : decode cX7_isDone 41 = .ok (.iload_n 1, 1) := by decide +kernel
theorem dX7_isDone_42 : decode cX7_isDone 42 = .ok (.ifCond .eq 22, 3) := by decide +kernel
theorem dX7_isDone_45 : decode cX7_isDone 45 = .ok (.aload_n 0, 1) := by decide +kernel
theorem dX7_isDone_46 : decode cX7_isDone 46 = .ok (.getfield 7, 3) := by decide +kernel
theorem dX7_isDone_49 : decode cX7_isDone 49 = .ok (.aload_n 0, 1) := by decide +kernel
theorem dX7_isDone_50 : decode cX7_isDone 50 = .ok (.getfield 29, 3) := by decide +kernel
theorem dX7_isDone_53 : decode cX7_isDone 53 = .ok (.iconst 2, 1) := by decide +kernel
theorem dX7_isDone_54 : decode cX7_isDone 54 = .ok (.iaload, 1) := by decide +kernel
theorem dX7_isDone_55 : decode cX7_isDone 55 = .ok (.iconst 0, 1) := by decide +kernel
theorem dX7_isDone_56 : decode cX7_isDone 56 = .ok (.iconst 0, 1) := by decide +kernel
theorem dX7_isDone_57 : decode cX7_isDone 57 = .ok (.invokestatic 40, 3) := by decide +kernel
theorem dX7_isDone_60 : decode cX7_isDone 60 = .ok (.iaload, 1) := by decide +kernel
theorem dX7_isDone_61 : decode cX7_isDone 61 = .ok (.goto 9, 3) := by decide +kernel
theorem dX7_isDone_64 : decode cX7_isDone 64 = .ok (.aload_n 0, 1) := by decide +kernel
theorem dX7_isDone_65 : decode cX7_isDone 65 = .ok (.getfield 29, 3) := by decide +kernel
theorem dX7_isDone_68 : decode cX7_isDone 68 = .ok (.iconst 3, 1) := by decide +kernel
theorem dX7_isDone_69 : decode cX7_isDone 69 = .ok (.iaload, 1) := by decide +kernel
theorem dX7_isDone_70 : decode cX7_isDone 70 = .ok (.istore_n 2, 1) := by decide +kernel
theorem dX7_isDone_71 : decode cX7_isDone 71 = .ok (.aload_n 0, 1) := by decide +kernel
theorem dX7_isDone_72 : decode cX7_isDone 72 = .ok (.aload_n 0, 1) := by decide +kernel
theorem dX7_isDone_73 : decode cX7_isDone 73 = .ok (.getfield 29, 3) := by decide +kernel
theorem dX7_isDone_76 : decode cX7_isDone 76 = .ok (.iconst 0, 1) := by decide +kernel
theorem dX7_isDone_77 : decode cX7_isDone 77 = .ok (.iaload, 1) := by decide +kernel
theorem dX7_isDone_78 : decode cX7_isDone 78 = .ok (.aload_n 0, 1) := by decide +kernel
theorem dX7_isDone_79 : decode cX7_isDone 79 = .ok (.getfield 29, 3) := by decide +kernel
theorem dX7_isDone_82 : decode cX7_isDone 82 = .ok (.iconst 1, 1) := by decide +kernel
theorem dX7_isDone_83 : decode cX7_isDone 83 = .ok (.iaload, 1) := by decide +kernel
theorem dX7_isDone_84 : decode cX7_isDone 84 = .ok (.aload_n 0, 1) := by decide +kernel
theorem dX7_isDone_85 : decode cX7_isDone 85 = .ok (.getfield 29, 3) := by decide +kernel
theorem dX7_isDone_88 : decode cX7_isDone 88 = .ok (.iconst 2, 1) := by decide +kernel
theorem dX7_isDone_89 : decode cX7_isDone 89 = .ok (.iaload, 1) := by decide +kernel
theorem dX7_isDone_90 : decode cX7_isDone 90 = .ok (.iload_n 2, 1) := by decide +kernel
theorem dX7_isDone_91 : decode cX7_isDone 91 = .ok (.aload_n 0, 1) := by decide +kernel
theorem dX7_isDone_92 : decode cX7_isDone 92 = .ok (.getfield 29, 3) := by decide +kernel
theorem dX7_isDone_95 : decode cX7_isDone 95 = .ok (.iconst 4, 1) := by decide +kernel
theorem dX7_isDone_96 : decode cX7_isDone 96 = .ok (.iaload, 1) := by decide +kernel
theorem dX7_isDone_97 : decode cX7_isDone 97 = .ok (.invokevirtual 113, 3) := by decide +kernel
theorem dX7_isDone_100 : decode cX7_isDone 100 = .ok (.ifCond .lt 7, 3) := by decide +kernel
theorem dX7_isDone_103 : decode cX7_isDone 103 = .ok (.iconst 1, 1) := by decide +kernel
theorem dX7_isDone_104 : decode cX7_isDone 104 = .ok (.goto 4, 3) := by decide +kernel
theorem dX7_isDone_107 : decode cX7_isDone 107 = .ok (.iconst 0, 1) := by decide +kernel
theorem dX7_isDone_108 : decode cX7_isDone 108 = .ok (.ireturn, 1) := by decide +kernel
theorem dX7_isLiedAbout_0 : decode cX7_isLiedAbout 0 = .ok (.aload_n 0, 1) := by decide +kernel
theorem dX7_isLiedAbout_1 : decode cX7_isLiedAbout 1 = .ok (.getfield 7, 3) := by decide +kernel
theorem dX7_isLiedAbout_4 : decode cX7_isLiedAbout 4 = .ok (.iload_n 1, 1) := by decide +kernel
theorem dX7_isLiedAbout_5 : decode cX7_isLiedAbout 5 = .ok (.bipush 7, 2) := by decide +kernel
theorem dX7_isLiedAbout_7 : decode cX7_isLiedAbout 7 = .ok (.invokestatic 36, 3) := by decide +kernel
theorem dX7_isLiedAbout_10 : decode cX7_isLiedAbout 10 = .ok (.iaload, 1) := by decide +kernel
theorem dX7_isLiedAbout_11 : decode cX7_isLiedAbout 11 = .ok (.aload_n 0, 1) := by decide +kernel
theorem dX7_isLiedAbout_12 : decode cX7_isLiedAbout 12 = .ok (.getfield 7, 3) := by decide +kernel
theorem dX7_isLiedAbout_15 : decode cX7_isLiedAbout 15 = .ok (.iload_n 1, 1) := by decide +kernel
theorem dX7_isLiedAbout_16 : decode cX7_isLiedAbout 16 = .ok (.bipush 8, 2) := by decide +kernel
theorem dX7_isLiedAbout_18 : decode cX7_isLiedAbout 18 = .ok (.invokestatic 36, 3) := by decide +kernel
theorem dX7_isLiedAbout_21 : decode cX7_isLiedAbout 21 = .ok (.iaload, 1) := by decide +kernel
theorem dX7_isLiedAbout_22 : decode cX7_isLiedAbout 22 = .ok (.iadd, 1) := by decide +kernel
theorem dX7_isLiedAbout_23 : decode cX7_isLiedAbout 23 = .ok (.aload_n 0, 1) := by decide +kernel
theorem dX7_isLiedAbout_24 : decode cX7_isLiedAbout 24 = .ok (.getfield 7, 3) := by decide +kernel
theorem dX7_isLiedAbout_27 : decode cX7_isLiedAbout 27 = .ok (.iload_n 1, 1) := by decide +kernel
theorem dX7_isLiedAbout_28 : decode cX7_isLiedAbout 28 = .ok (.bipush 9, 2) := by decide +kernel
theorem dX7_isLiedAbout_30 : decode cX7_isLiedAbout 30 = .ok (.invokestatic 36, 3) := by decide +kernel
theorem dX7_isLiedAbout_33 : decode cX7_isLiedAbout 33 = .ok (.iaload, 1) := by decide +kernel
theorem dX7_isLiedAbout_34 : decode cX7_isLiedAbout 34 = .ok (.iadd, 1) := by decide +kernel
theorem dX7_isLiedAbout_35 : decode cX7_isLiedAbout 35 = .ok (.aload_n 0, 1) := by decide +kernel
theorem dX7_isLiedAbout_36 : decode cX7_isLiedAbout 36 = .ok (.getfield 7, 3) := by decide +kernel
theorem dX7_isLiedAbout_39 : decode cX7_isLiedAbout 39 = .ok (.iload_n 1, 1) := by decide +kernel
theorem dX7_isLiedAbout_40 : decode cX7_isLiedAbout 40 = .ok (.bipush 10, 2) := by decide +kernel
theorem dX7_isLiedAbout_42 : decode cX7_isLiedAbout 42 = .ok (.invokestatic 36, 3) := by decide +kernel
theorem dX7_isLiedAbout_45 : decode cX7_isLiedAbout 45 = .ok (.iaload, 1) := by decide +kernel
theorem dX7_isLiedAbout_46 : decode cX7_isLiedAbout 46 = .ok (.iadd, 1) := by decide +kernel
theorem dX7_isLiedAbout_47 : decode cX7_isLiedAbout 47 = .ok (.ifCond .le 7, 3) := by decide +kernel
theorem dX7_isLiedAbout_50 : decode cX7_isLiedAbout 50 = .ok (.iconst 1, 1) := by decide +kernel
theorem dX7_isLiedAbout_51 : decode cX7_isLiedAbout 51 = .ok (.goto 4, 3) := by decide +kernel
theorem dX7_isLiedAbout_54 : decode cX7_isLiedAbout 54 = .ok (.iconst 0, 1) := by decide +kernel
theorem dX7_isLiedAbout_55 : decode cX7_isLiedAbout 55 = .ok (.ireturn, 1) := by decide +kernel
theorem dX7_isNext_0 : decode cX7_isNext 0 = .ok (.aload_n 0, 1) := by decide +kernel
theorem dX7_isNext_1 : decode cX7_isNext 1 = .ok (.getfield 159, 3) := by decide +kernel
theorem dX7_isNext_4 : decode cX7_isNext 4 = .ok (.ifCond .ne 31, 3) := by decide +kernel
theorem dX7_isNext_7 : decode cX7_isNext 7 = .ok (.aload_n 0, 1) := by decide +kernel
theorem dX7_isNext_8 : decode cX7_isNext 8 = .ok (.getfield 163, 3) := by decide +kernel
theorem dX7_isNext_11 : decode cX7_isNext 11 = .ok (.aload_n 0, 1) := by decide +kernel
theorem dX7_isNext_12 : decode cX7_isNext 12 = .ok (.getfield 151, 3) := by decide +kernel
theorem dX7_isNext_15 : decode cX7_isNext 15 = .ok (.if_icmp .ge 20, 3) := by decide +kernel
theorem dX7_isNext_18 : decode cX7_isNext 18 = .ok (.aload_n 0, 1) := by decide +kernel
theorem dX7_isNext_19 : decode cX7_isNext 19 = .ok (.getfield 23, 3) := by decide +kernel
theorem dX7_isNext_22 : decode cX7_isNext 22 = .ok (.aload_n 0, 1) := by decide +kernel
theorem dX7_isNext_23 : decode cX7_isNext 23 = .ok (.getfield 163, 3) := by decide +kernel
theorem dX7_isNext_26 : decode cX7_isNext 26 = .ok (.iaload, 1) := by decide +kernel
theorem dX7_isNext_27 : decode cX7_isNext 27 = .ok (.iload_n 1, 1) := by decide +kernel
theorem dX7_isNext_28 : decode cX7_isNext 28 = .ok (.if_icmp .ne 7, 3) := by decide +kernel
theorem dX7_isNext_31 : decode cX7_isNext 31 = .ok (.iconst 1, 1) := by decide +kernel
theorem dX7_isNext_32 : decode cX7_isNext 32 = .ok (.goto 4, 3) := by decide +kernel
theorem dX7_isNext_35 : decode cX7_isNext 35 = .ok (.iconst 0, 1) := by decide +kernel
theorem dX7_isNext_36 : decode cX7_isNext 36 = .ok (.ireturn, 1) := by decide +kernel
theorem dX7_isPassed_0 : decode cX7_isPassed 0 = .ok (.aload_n 0, 1) := by decide +kernel
theorem dX7_isPassed_1 : decode cX7_isPassed 1 = .ok (.getfield 7, 3) := by decide +kernel
theorem dX7_isPassed_4 : decode cX7_isPassed 4 = .ok (.iload_n 2, 1) := by decide +kernel
theorem dX7_isPassed_5 : decode cX7_isPassed 5 = .ok (.bipush 11, 2) := by decide +kernel
theorem dX7_isPassed_7 : decode cX7_isPassed 7 = .ok (.iload_n 1, 1) := by decide +kernel
theorem dX7_isPassed_8 : decode cX7_isPassed 8 = .ok (.iadd, 1) := by decide +kernel
theorem dX7_isPassed_9 : decode cX7_isPassed 9 = .ok (.invokestatic 36, 3) := by decide +kernel
theorem dX7_isPassed_12 : decode cX7_isPassed 12 = .ok (.iaload, 1) := by decide +kernel
theorem dX7_isPassed_13 : decode cX7_isPassed 13 = .ok (.aload_n 0, 1) := by decide +kernel
theorem dX7_isPassed_14 : decode cX7_isPassed 14 = .ok (.iload_n 1, 1) := by decide +kernel
theorem dX7_isPassed_15 : decode cX7_isPassed 15 = .ok (.iload_n 2, 1) := by decide +kernel
theorem dX7_isPassed_16 : decode cX7_isPassed 16 = .ok (.iload_n 3, 1) := by decide +kernel
theorem dX7_isPassed_17 : decode cX7_isPassed 17 = .ok (.invokevirtual 73, 3) := by decide +kernel
theorem dX7_isPassed_20 : decode cX7_isPassed 20 = .ok (.imul, 1) := by decide +kernel
theorem dX7_isPassed_21 : decode cX7_isPassed 21 = .ok (.aload_n 0, 1) := by decide +kernel
theorem dX7_isPassed_22 : decode cX7_isPassed 22 = .ok (.getfield 7, 3) := by decide +kernel
theorem dX7_isPassed_25 : decode cX7_isPassed 25 = .ok (.iload_n 2, 1) := by decide +kernel
theorem dX7_isPassed_26 : decode cX7_isPassed 26 = .ok (.bipush 13, 2) := by decide +kernel
theorem dX7_isPassed_28 : decode cX7_isPassed 28 = .ok (.iload_n 1, 1) := by decide +kernel
theorem dX7_isPassed_29 : decode cX7_isPassed 29 = .ok (.iadd, 1) := by decide +kernel
theorem dX7_isPassed_30 : decode cX7_isPassed 30 = .ok (.invokestatic 36, 3) := by decide +kernel
theorem dX7_isPassed_33 : decode cX7_isPassed 33 = .ok (.iaload, 1) := by decide +kernel
theorem dX7_isPassed_34 : decode cX7_isPassed 34 = .ok (.iadd, 1) := by decide +kernel
theorem dX7_isPassed_35 : decode cX7_isPassed 35 = .ok (.sipush 257, 3) := by decide +kernel
theorem dX7_isPassed_38 : decode cX7_isPassed 38 = .ok (.irem, 1) := by decide +kernel
theorem dX7_isPassed_39 : decode cX7_isPassed 39 = .ok (.istore 5, 2) := by decide +kernel
theorem dX7_isPassed_41 : decode cX7_isPassed 41 = .ok (.iload 5, 2) := by decide +kernel
theorem dX7_isPassed_43 : decode cX7_isPassed 43 = .ok (.aload_n 0, 1) := by decide +kernel
theorem dX7_isPassed_44 : decode cX7_isPassed 44 = .ok (.iload_n 1, 1) := by decide +kernel
theorem dX7_isPassed_45 : decode cX7_isPassed 45 = .ok (.iload_n 2, 1) := by decide +kernel
theorem dX7_isPassed_46 : decode cX7_isPassed 46 = .ok (.invokevirtual 76, 3) := by decide +kernel
theorem dX7_isPassed_49 : decode cX7_isPassed 49 = .ok (.iload 4, 2) := by decide +kernel
theorem dX7_isPassed_51 : decode cX7_isPassed 51 = .ok (.iadd, 1) := by decide +kernel
theorem dX7_isPassed_52 : decode cX7_isPassed 52 = .ok (.sipush 257, 3) := by decide +kernel
theorem dX7_isPassed_55 : decode cX7_isPassed 55 = .ok (.irem, 1) := by decide +kernel
theorem dX7_isPassed_56 : decode cX7_isPassed 56 = .ok (.if_icmp .ne 7, 3) := by decide +kernel
theorem dX7_isPassed_59 : decode cX7_isPassed 59 = .ok (.iconst 1, 1) := by decide +kernel
theorem dX7_isPassed_60 : decode cX7_isPassed 60 = .ok (.goto 4, 3) := by decide +kernel
theorem dX7_isPassed_63 : decode cX7_isPassed 63 = .ok (.iconst 0, 1) := by decide +kernel
theorem dX7_isPassed_64 : decode cX7_isPassed 64 = .ok (.ireturn, 1) := by decide +kernel
theorem dX7_isPassedNow_0 : decode cX7_isPassedNow 0 = .ok (.aload_n 0, 1) := by decide +kernel
theorem dX7_isPassedNow_1 : decode cX7_isPassedNow 1 = .ok (.iload_n 1, 1) := by decide +kernel
theorem dX7_isPassedNow_2 : decode cX7_isPassedNow 2 = .ok (.iload_n 2, 1) := by decide +kernel
theorem dX7_isPassedNow_3 : decode cX7_isPassedNow 3 = .ok (.aload_n 0, 1) := by decide +kernel
theorem dX7_isPassedNow_4 : decode cX7_isPassedNow 4 = .ok (.getfield 7, 3) := by decide +kernel
theorem dX7_isPassedNow_7 : decode cX7_isPassedNow 7 = .ok (.iload_n 2, 1) := by decide +kernel
theorem dX7_isPassedNow_8 : decode cX7_isPassedNow 8 = .ok (.bipush 7, 2) := by decide +kernel
theorem dX7_isPassedNow_10 : decode cX7_isPassedNow 10 = .ok (.iload_n 1, 1) := by decide +kernel
theorem dX7_isPassedNow_11 : decode cX7_isPassedNow 11 = .ok (.iadd, 1) := by decide +kernel
theorem dX7_isPassedNow_12 : decode cX7_isPassedNow 12 = .ok (.invokestatic 36, 3) := by decide +kernel
theorem dX7_isPassedNow_15 : decode cX7_isPassedNow 15 = .ok (.iaload, 1) := by decide +kernel
theorem dX7_isPassedNow_16 : decode cX7_isPassedNow 16 = .ok (.aload_n 0, 1) := by decide +kernel
theorem dX7_isPassedNow_17 : decode cX7_isPassedNow 17 = .ok (.getfield 7, 3) := by decide +kernel
theorem dX7_isPassedNow_20 : decode cX7_isPassedNow 20 = .ok (.iload_n 2, 1) := by decide +kernel
theorem dX7_isPassedNow_21 : decode cX7_isPassedNow 21 = .ok (.bipush 9, 2) := by decide +kernel
theorem dX7_isPassedNow_23 : decode cX7_isPassedNow 23 = .ok (.iload_n 1, 1) := by decide +kernel
theorem dX7_isPassedNow_24 : decode cX7_isPassedNow 24 = .ok (.iadd, 1) := by decide +kernel
theorem dX7_isPassedNow_25 : decode cX7_isPassedNow 25 = .ok (.invokestatic 36, 3) := by decide +kernel
theorem dX7_isPassedNow_28 : decode cX7_isPassedNow 28 = .ok (.iaload, 1) := by decide +kernel
theorem dX7_isPassedNow_29 : decode cX7_isPassedNow 29 = .ok (.invokevirtual 79, 3) := by decide +kernel
theorem dX7_isPassedNow_32 : decode cX7_isPassedNow 32 = .ok (.ireturn, 1) := by decide +kernel
theorem dX7_isSecret_0 : decode cX7_isSecret 0 = .ok (.iload_n 1, 1) := by decide +kernel
theorem dX7_isSecret_1 : decode cX7_isSecret 1 = .ok (.iconst 0, 1) := by decide +kernel
theorem dX7_isSecret_2 : decode cX7_isSecret 2 = .ok (.aload_n 0, 1) := by decide +kernel
theorem dX7_isSecret_3 : decode cX7_isSecret 3 = .ok (.getfield 7, 3) := by decide +kernel
theorem dX7_isSecret_6 : decode cX7_isSecret 6 = .ok (.iconst 5, 1) := by decide +kernel
theorem dX7_isSecret_7 : decode cX7_isSecret 7 = .ok (.iaload, 1) := by decide +kernel
theorem dX7_isSecret_8 : decode cX7_isSecret 8 = .ok (.iconst 1, 1) := by decide +kernel
theorem dX7_isSecret_9 : decode cX7_isSecret 9 = .ok (.isub, 1) := by decide +kernel
theorem dX7_isSecret_10 : decode cX7_isSecret 10 = .ok (.invokestatic 32, 3) := by decide +kernel
theorem dX7_isSecret_13 : decode cX7_isSecret 13 = .ok (.ireturn, 1) := by decide +kernel
theorem dX7_isStore_0 : decode cX7_isStore 0 = .ok (.iload_n 0, 1) := by decide +kernel
theorem dX7_isStore_1 : decode cX7_isStore 1 = .ok (.iconst 0, 1) := by decide +kernel
theorem dX7_isStore_2 : decode cX7_isStore 2 = .ok (.iconst 1, 1) := by decide +kernel
theorem dX7_isStore_3 : decode cX7_isStore 3 = .ok (.invokestatic 32, 3) := by decide +kernel
theorem dX7_isStore_6 : decode cX7_isStore 6 = .ok (.ireturn, 1) := by decide +kernel
theorem dX7_keep_0 : decode cX7_keep 0 = .ok (.aload_n 0, 1) := by decide +kernel
theorem dX7_keep_1 : decode cX7_keep 1 = .ok (.bipush 107, 2) := by decide +kernel
theorem dX7_keep_3 : decode cX7_keep 3 = .ok (.iload_n 1, 1) := by decide +kernel
theorem dX7_keep_4 : decode cX7_keep 4 = .ok (.iconst 0, 1) := by decide +kernel
theorem dX7_keep_5 : decode cX7_keep 5 = .ok (.iconst 0, 1) := by decide +kernel
theorem dX7_keep_6 : decode cX7_keep 6 = .ok (.iconst 0, 1) := by decide +kernel
theorem dX7_keep_7 : decode cX7_keep 7 = .ok (.invokevirtual 145, 3) := by decide +kernel
theorem dX7_keep_10 : decode cX7_keep 10 = .ok (.ireturn, 1) := by decide +kernel
theorem dX7_keeps_0 : decode cX7_keeps 0 = .ok (.iload_n 1, 1) := by decide +kernel
theorem dX7_keeps_1 : decode cX7_keeps 1 = .ok (.iconst 0, 1) := by decide +kernel
theorem dX7_keeps_2 : decode cX7_keeps 2 = .ok (.sipush 255, 3) := by decide +kernel
theorem dX7_keeps_5 : decode cX7_keeps 5 = .ok (.invokestatic 32, 3) := by decide +kernel
theorem dX7_keeps_8 : decode cX7_keeps 8 = .ok (.ifCond .ne 6, 3) := by decide +kernel
theorem dX7_keeps_11 : decode cX7_keeps 11 = .ok (.bipush (-2), 2) := by decide +kernel
theorem dX7_keeps_13 : decode cX7_keeps 13 = .ok (.ireturn, 1) := by decide +kernel
theorem dX7_keeps_14 : decode cX7_keeps 14 = .ok (.aload_n 0, 1) := by decide +kernel
theorem dX7_keeps_15 : decode cX7_keeps 15 = .ok (.getfield 7, 3) := by decide +kernel
theorem dX7_keeps_18 : decode cX7_keeps 18 = .ok (.iconst 5, 1) := by decide +kernel
theorem dX7_keeps_19 : decode cX7_keeps 19 = .ok (.iaload, 1) := by decide +kernel
theorem dX7_keeps_20 : decode cX7_keeps 20 = .ok (.bipush 8, 2) := by decide +kernel
theorem dX7_keeps_22 : decode cX7_keeps 22 = .ok (.if_icmp .ne 6, 3) := by decide +kernel
theorem dX7_keeps_25 : decode cX7_keeps 25 = .ok (.bipush (-4), 2) := by decide +kernel
theorem dX7_keeps_27 : decode cX7_keeps 27 = .ok (.ireturn, 1) := by decide +kernel
theorem dX7_keeps_28 : decode cX7_keeps 28 = .ok (.aload_n 0, 1) := by decide +kernel
theorem dX7_keeps_29 : decode cX7_keeps 29 = .ok (.invokevirtual 59, 3) := by decide +kernel
theorem dX7_keeps_32 : decode cX7_keeps 32 = .ok (.ifCond .ne 6, 3) := by decide +kernel
theorem dX7_keeps_35 : decode cX7_keeps 35 = .ok (.bipush (-5), 2) := by decide +kernel
theorem dX7_keeps_37 : decode cX7_keeps 37 = .ok (.ireturn, 1) := by decide +kernel
theorem dX7_keeps_38 : decode cX7_keeps 38 = .ok (.aload_n 0, 1) := by decide +kernel
theorem dX7_keeps_39 : decode cX7_keeps 39 = .ok (.getfield 7, 3) := by decide +kernel
theorem dX7_keeps_42 : decode cX7_keeps 42 = .ok (.iconst 5, 1) := by decide +kernel
theorem dX7_keeps_43 : decode cX7_keeps 43 = .ok (.dup2, 1) := by decide +kernel
theorem dX7_keeps_44 : decode cX7_keeps 44 = .ok (.iaload, 1) := by decide +kernel
theorem dX7_keeps_45 : decode cX7_keeps 45 = .ok (.iconst 1, 1) := by decide +kernel
theorem dX7_keeps_46 : decode cX7_keeps 46 = .ok (.iadd, 1) := by decide +kernel
theorem dX7_keeps_47 : decode cX7_keeps 47 = .ok (.iastore, 1) := by decide +kernel
theorem dX7_keeps_48 : decode cX7_keeps 48 = .ok (.aload_n 0, 1) := by decide +kernel
theorem dX7_keeps_49 : decode cX7_keeps 49 = .ok (.aload_n 0, 1) := by decide +kernel
theorem dX7_keeps_50 : decode cX7_keeps 50 = .ok (.getfield 7, 3) := by decide +kernel
theorem dX7_keeps_53 : decode cX7_keeps 53 = .ok (.iconst 5, 1) := by decide +kernel
theorem dX7_keeps_54 : decode cX7_keeps 54 = .ok (.iaload, 1) := by decide +kernel
theorem dX7_keeps_55 : decode cX7_keeps 55 = .ok (.iconst 1, 1) := by decide +kernel
theorem dX7_keeps_56 : decode cX7_keeps 56 = .ok (.isub, 1) := by decide +kernel
theorem dX7_keeps_57 : decode cX7_keeps 57 = .ok (.iload_n 1, 1) := by decide +kernel
theorem dX7_keeps_58 : decode cX7_keeps 58 = .ok (.iconst 1, 1) := by decide +kernel
theorem dX7_keeps_59 : decode cX7_keeps 59 = .ok (.invokevirtual 69, 3) := by decide +kernel
theorem dX7_keeps_62 : decode cX7_keeps 62 = .ok (.aload_n 0, 1) := by decide +kernel
theorem dX7_keeps_63 : decode cX7_keeps 63 = .ok (.getfield 7, 3) := by decide +kernel
theorem dX7_keeps_66 : decode cX7_keeps 66 = .ok (.iconst 5, 1) := by decide +kernel
theorem dX7_keeps_67 : decode cX7_keeps 67 = .ok (.iaload, 1) := by decide +kernel
theorem dX7_keeps_68 : decode cX7_keeps 68 = .ok (.iconst 1, 1) := by decide +kernel
theorem dX7_keeps_69 : decode cX7_keeps 69 = .ok (.isub, 1) := by decide +kernel
theorem dX7_keeps_70 : decode cX7_keeps 70 = .ok (.ireturn, 1) := by decide +kernel
theorem dX7_lie_0 : decode cX7_lie 0 = .ok (.aload_n 0, 1) := by decide +kernel
theorem dX7_lie_1 : decode cX7_lie 1 = .ok (.bipush 108, 2) := by decide +kernel
theorem dX7_lie_3 : decode cX7_lie 3 = .ok (.iload_n 1, 1) := by decide +kernel
theorem dX7_lie_4 : decode cX7_lie 4 = .ok (.iload_n 2, 1) := by decide +kernel
theorem dX7_lie_5 : decode cX7_lie 5 = .ok (.iload_n 3, 1) := by decide +kernel
theorem dX7_lie_6 : decode cX7_lie 6 = .ok (.iload 4, 2) := by decide +kernel
theorem dX7_lie_8 : decode cX7_lie 8 = .ok (.invokevirtual 145, 3) := by decide +kernel
theorem dX7_lie_11 : decode cX7_lie 11 = .ok (.ireturn, 1) := by decide +kernel
theorem dX7_lies_0 : decode cX7_lies 0 = .ok (.iload_n 1, 1) := by decide +kernel
theorem dX7_lies_1 : decode cX7_lies 1 = .ok (.invokestatic 98, 3) := by decide +kernel
theorem dX7_lies_4 : decode cX7_lies 4 = .ok (.ifCond .eq 11, 3) := by decide +kernel
theorem dX7_lies_7 : decode cX7_lies 7 = .ok (.aload_n 0, 1) := by decide +kernel
theorem dX7_lies_8 : decode cX7_lies 8 = .ok (.iload_n 2, 1) := by decide +kernel
theorem dX7_lies_9 : decode cX7_lies 9 = .ok (.invokevirtual 87, 3) := by decide +kernel
theorem dX7_lies_12 : decode cX7_lies 12 = .ok (.ifCond .ne 5, 3) := by decide +kernel
theorem dX7_lies_15 : decode cX7_lies 15 = .ok (.iconst (-1), 1) := by decide +kernel
theorem dX7_lies_16 : decode cX7_lies 16 = .ok (.ireturn, 1) := by decide +kernel
theorem dX7_lies_17 : decode cX7_lies 17 = .ok (.iload_n 3, 1) := by decide +kernel
theorem dX7_lies_18 : decode cX7_lies 18 = .ok (.iconst 0, 1) := by decide +kernel
theorem dX7_lies_19 : decode cX7_lies 19 = .ok (.sipush 255, 3) := by decide +kernel
theorem dX7_lies_22 : decode cX7_lies 22 = .ok (.invokestatic 32, 3) := by decide +kernel
theorem dX7_lies_25 : decode cX7_lies 25 = .ok (.ifCond .eq 15, 3) := by decide +kernel
theorem dX7_lies_28 : decode cX7_lies 28 = .ok (.iload 4, 2) := by decide +kernel
theorem dX7_lies_30 : decode cX7_lies 30 = .ok (.iconst 0, 1) := by decide +kernel
theorem dX7_lies_31 : decode cX7_lies 31 = .ok (.sipush 256, 3) := by decide +kernel
theorem dX7_lies_34 : decode cX7_lies 34 = .ok (.invokestatic 32, 3) := by decide +kernel
theorem dX7_lies_37 : decode cX7_lies 37 = .ok (.ifCond .ne 6, 3) := by decide +kernel
theorem dX7_lies_40 : decode cX7_lies 40 = .ok (.bipush (-2), 2) := by decide +kernel
theorem dX7_lies_42 : decode cX7_lies 42 = .ok (.ireturn, 1) := by decide +kernel
theorem dX7_lies_43 : decode cX7_lies 43 = .ok (.aload_n 0, 1) := by decide +kernel
theorem dX7_lies_44 : decode cX7_lies 44 = .ok (.getfield 7, 3) := by decide +kernel
theorem dX7_lies_47 : decode cX7_lies 47 = .ok (.iload_n 2, 1) := by decide +kernel
theorem dX7_lies_48 : decode cX7_lies 48 = .ok (.bipush 7, 2) := by decide +kernel
theorem dX7_lies_50 : decode cX7_lies 50 = .ok (.iload_n 1, 1) := by decide +kernel
theorem dX7_lies_51 : decode cX7_lies 51 = .ok (.iadd, 1) := by decide +kernel
theorem dX7_lies_52 : decode cX7_lies 52 = .ok (.invokestatic 36, 3) := by decide +kernel
theorem dX7_lies_55 : decode cX7_lies 55 = .ok (.iaload, 1) := by decide +kernel
theorem dX7_lies_56 : decode cX7_lies 56 = .ok (.istore 5, 2) := by decide +kernel
theorem dX7_lies_58 : decode cX7_lies 58 = .ok (.aload_n 0, 1) := by decide +kernel
theorem dX7_lies_59 : decode cX7_lies 59 = .ok (.getfield 7, 3) := by decide +kernel
theorem dX7_lies_62 : decode cX7_lies 62 = .ok (.iload_n 2, 1) := by decide +kernel
theorem dX7_lies_63 : decode cX7_lies 63 = .ok (.bipush 7, 2) := by decide +kernel
theorem dX7_lies_65 : decode cX7_lies 65 = .ok (.iload_n 1, 1) := by decide +kernel
theorem dX7_lies_66 : decode cX7_lies 66 = .ok (.iadd, 1) := by decide +kernel
theorem dX7_lies_67 : decode cX7_lies 67 = .ok (.invokestatic 36, 3) := by decide +kernel
theorem dX7_lies_70 : decode cX7_lies 70 = .ok (.iload_n 3, 1) := by decide +kernel
theorem dX7_lies_71 : decode cX7_lies 71 = .ok (.iastore, 1) := by decide +kernel
theorem dX7_lies_72 : decode cX7_lies 72 = .ok (.aload_n 0, 1) := by decide +kernel
theorem dX7_lies_73 : decode cX7_lies 73 = .ok (.getfield 7, 3) := by decide +kernel
theorem dX7_lies_76 : decode cX7_lies 76 = .ok (.iload_n 2, 1) := by decide +kernel
theorem dX7_lies_77 : decode cX7_lies 77 = .ok (.bipush 9, 2) := by decide +kernel
theorem dX7_lies_79 : decode cX7_lies 79 = .ok (.iload_n 1, 1) := by decide +kernel
theorem dX7_lies_80 : decode cX7_lies 80 = .ok (.iadd, 1) := by decide +kernel
theorem dX7_lies_81 : decode cX7_lies 81 = .ok (.invokestatic 36, 3) := by decide +kernel
theorem dX7_lies_84 : decode cX7_lies 84 = .ok (.iload 4, 2) := by decide +kernel
theorem dX7_lies_86 : decode cX7_lies 86 = .ok (.iastore, 1) := by decide +kernel
theorem dX7_lies_87 : decode cX7_lies 87 = .ok (.iload 5, 2) := by decide +kernel
theorem dX7_lies_89 : decode cX7_lies 89 = .ok (.ireturn, 1) := by decide +kernel
theorem dX7_looks_0 : decode cX7_looks 0 = .ok (.iconst 0, 1) := by decide +kernel
theorem dX7_looks_1 : decode cX7_looks 1 = .ok (.istore_n 1, 1) := by decide +kernel
theorem dX7_looks_2 : decode cX7_looks 2 = .ok (.iload_n 1, 1) := by decide +kernel
theorem dX7_looks_3 : decode cX7_looks 3 = .ok (.sipush 292, 3) := by decide +kernel
theorem dX7_looks_6 : decode cX7_looks 6 = .ok (.if_icmp .ge 21, 3) := by decide +kernel
theorem dX7_looks_9 : decode cX7_looks 9 = .ok (.aload_n 0, 1) := by decide +kernel
theorem dX7_looks_10 : decode cX7_looks 10 = .ok (.getfield 26, 3) := by decide +kernel
theorem dX7_looks_13 : decode cX7_looks 13 = .ok (.iload_n 1, 1) := by decide +kernel
theorem dX7_looks_14 : decode cX7_looks 14 = .ok (.aload_n 0, 1) := by decide +kernel
theorem dX7_looks_15 : decode cX7_looks 15 = .ok (.getfield 7, 3) := by decide +kernel
theorem dX7_looks_18 : decode cX7_looks 18 = .ok (.iload_n 1, 1) := by decide +kernel
theorem dX7_looks_19 : decode cX7_looks 19 = .ok (.iaload, 1) := by decide +kernel
theorem dX7_looks_20 : decode cX7_looks 20 = .ok (.iastore, 1) := by decide +kernel
theorem dX7_looks_21 : decode cX7_looks 21 = .ok (.iinc 1 1, 3) := by decide +kernel
theorem dX7_looks_24 : decode cX7_looks 24 = .ok (.goto (-22), 3) := by decide +kernel
theorem dX7_looks_27 : decode cX7_looks 27 = .ok (.return_, 1) := by decide +kernel
theorem dX7_makes_0 : decode cX7_makes 0 = .ok (.aload_n 0, 1) := by decide +kernel
theorem dX7_makes_1 : decode cX7_makes 1 = .ok (.sipush 256, 3) := by decide +kernel
theorem dX7_makes_4 : decode cX7_makes 4 = .ok (.invokevirtual 55, 3) := by decide +kernel
theorem dX7_makes_7 : decode cX7_makes 7 = .ok (.istore 4, 2) := by decide +kernel
theorem dX7_makes_9 : decode cX7_makes 9 = .ok (.aload_n 0, 1) := by decide +kernel
theorem dX7_makes_10 : decode cX7_makes 10 = .ok (.getfield 7, 3) := by decide +kernel
theorem dX7_makes_13 : decode cX7_makes 13 = .ok (.iload_n 1, 1) := by decide +kernel
theorem dX7_makes_14 : decode cX7_makes 14 = .ok (.iconst 0, 1) := by decide +kernel
theorem dX7_makes_15 : decode cX7_makes 15 = .ok (.iconst 0, 1) := by decide +kernel
theorem dX7_makes_16 : decode cX7_makes 16 = .ok (.invokestatic 40, 3) := by decide +kernel
theorem dX7_makes_19 : decode cX7_makes 19 = .ok (.iload_n 3, 1) := by decide +kernel
theorem dX7_makes_20 : decode cX7_makes 20 = .ok (.iastore, 1) := by decide +kernel
theorem dX7_makes_21 : decode cX7_makes 21 = .ok (.aload_n 0, 1) := by decide +kernel
theorem dX7_makes_22 : decode cX7_makes 22 = .ok (.getfield 7, 3) := by decide +kernel
theorem dX7_makes_25 : decode cX7_makes 25 = .ok (.iload_n 1, 1) := by decide +kernel
theorem dX7_makes_26 : decode cX7_makes 26 = .ok (.iconst 0, 1) := by decide +kernel
theorem dX7_makes_27 : decode cX7_makes 27 = .ok (.iconst 1, 1) := by decide +kernel
theorem dX7_makes_28 : decode cX7_makes 28 = .ok (.invokestatic 40, 3) := by decide +kernel
theorem dX7_makes_31 : decode cX7_makes 31 = .ok (.iload 4, 2) := by decide +kernel
theorem dX7_makes_33 : decode cX7_makes 33 = .ok (.iastore, 1) := by decide +kernel
theorem dX7_makes_34 : decode cX7_makes 34 = .ok (.aload_n 0, 1) := by decide +kernel
theorem dX7_makes_35 : decode cX7_makes 35 = .ok (.getfield 7, 3) := by decide +kernel
theorem dX7_makes_38 : decode cX7_makes 38 = .ok (.iload_n 1, 1) := by decide +kernel
theorem dX7_makes_39 : decode cX7_makes 39 = .ok (.iconst 0, 1) := by decide +kernel
theorem dX7_makes_40 : decode cX7_makes 40 = .ok (.iconst 2, 1) := by decide +kernel
theorem dX7_makes_41 : decode cX7_makes 41 = .ok (.invokestatic 40, 3) := by decide +kernel
theorem dX7_makes_44 : decode cX7_makes 44 = .ok (.iload_n 2, 1) := by decide +kernel
theorem dX7_makes_45 : decode cX7_makes 45 = .ok (.sipush 256, 3) := by decide +kernel
theorem dX7_makes_48 : decode cX7_makes 48 = .ok (.iadd, 1) := by decide +kernel
theorem dX7_makes_49 : decode cX7_makes 49 = .ok (.iload 4, 2) := by decide +kernel
theorem dX7_makes_51 : decode cX7_makes 51 = .ok (.isub, 1) := by decide +kernel
theorem dX7_makes_52 : decode cX7_makes 52 = .ok (.sipush 256, 3) := by decide +kernel
theorem dX7_makes_55 : decode cX7_makes 55 = .ok (.irem, 1) := by decide +kernel
theorem dX7_makes_56 : decode cX7_makes 56 = .ok (.iastore, 1) := by decide +kernel
theorem dX7_makes_57 : decode cX7_makes 57 = .ok (.aload_n 0, 1) := by decide +kernel
theorem dX7_makes_58 : decode cX7_makes 58 = .ok (.getfield 7, 3) := by decide +kernel
theorem dX7_makes_61 : decode cX7_makes 61 = .ok (.iload_n 1, 1) := by decide +kernel
theorem dX7_makes_62 : decode cX7_makes 62 = .ok (.iconst 0, 1) := by decide +kernel
theorem dX7_makes_63 : decode cX7_makes 63 = .ok (.iconst 3, 1) := by decide +kernel
theorem dX7_makes_64 : decode cX7_makes 64 = .ok (.invokestatic 40, 3) := by decide +kernel
theorem dX7_makes_67 : decode cX7_makes 67 = .ok (.iconst 0, 1) := by decide +kernel
theorem dX7_makes_68 : decode cX7_makes 68 = .ok (.iastore, 1) := by decide +kernel
theorem dX7_makes_69 : decode cX7_makes 69 = .ok (.iconst 0, 1) := by decide +kernel
theorem dX7_makes_70 : decode cX7_makes 70 = .ok (.istore 5, 2) := by decide +kernel
theorem dX7_makes_72 : decode cX7_makes 72 = .ok (.iload 5, 2) := by decide +kernel
theorem dX7_makes_74 : decode cX7_makes 74 = .ok (.iconst 2, 1) := by decide +kernel
theorem dX7_makes_75 : decode cX7_makes 75 = .ok (.if_icmp .ge 53, 3) := by decide +kernel
theorem dX7_makes_78 : decode cX7_makes 78 = .ok (.aload_n 0, 1) := by decide +kernel
theorem dX7_makes_79 : decode cX7_makes 79 = .ok (.getfield 7, 3) := by decide +kernel
theorem dX7_makes_82 : decode cX7_makes 82 = .ok (.iload_n 1, 1) := by decide +kernel
theorem dX7_makes_83 : decode cX7_makes 83 = .ok (.bipush 11, 2) := by decide +kernel
theorem dX7_makes_85 : decode cX7_makes 85 = .ok (.iload 5, 2) := by decide +kernel
theorem dX7_makes_87 : decode cX7_makes 87 = .ok (.iadd, 1) := by decide +kernel
theorem dX7_makes_88 : decode cX7_makes 88 = .ok (.invokestatic 36, 3) := by decide +kernel
theorem dX7_makes_91 : decode cX7_makes 91 = .ok (.aload_n 0, 1) := by decide +kernel
theorem dX7_makes_92 : decode cX7_makes 92 = .ok (.sipush 256, 3) := by decide +kernel
theorem dX7_makes_95 : decode cX7_makes 95 = .ok (.invokevirtual 55, 3) := by decide +kernel
theorem dX7_makes_98 : decode cX7_makes 98 = .ok (.iconst 1, 1) := by decide +kernel
theorem dX7_makes_99 : decode cX7_makes 99 = .ok (.iadd, 1) := by decide +kernel
theorem dX7_makes_100 : decode cX7_makes 100 = .ok (.iastore, 1) := by decide +kernel
theorem dX7_makes_101 : decode cX7_makes 101 = .ok (.aload_n 0, 1) := by decide +kernel
theorem dX7_makes_102 : decode cX7_makes 102 = .ok (.getfield 7, 3) := by decide +kernel
theorem dX7_makes_105 : decode cX7_makes 105 = .ok (.iload_n 1, 1) := by decide +kernel
theorem dX7_makes_106 : decode cX7_makes 106 = .ok (.bipush 13, 2) := by decide +kernel
theorem dX7_makes_108 : decode cX7_makes 108 = .ok (.iload 5, 2) := by decide +kernel
theorem dX7_makes_110 : decode cX7_makes 110 = .ok (.iadd, 1) := by decide +kernel
theorem dX7_makes_111 : decode cX7_makes 111 = .ok (.invokestatic 36, 3) := by decide +kernel
theorem dX7_makes_114 : decode cX7_makes 114 = .ok (.aload_n 0, 1) := by decide +kernel
theorem dX7_makes_115 : decode cX7_makes 115 = .ok (.sipush 257, 3) := by decide +kernel
theorem dX7_makes_118 : decode cX7_makes 118 = .ok (.invokevirtual 55, 3) := by decide +kernel
theorem dX7_makes_121 : decode cX7_makes 121 = .ok (.iastore, 1) := by decide +kernel
theorem dX7_makes_122 : decode cX7_makes 122 = .ok (.iinc 5 1, 3) := by decide +kernel
theorem dX7_makes_125 : decode cX7_makes 125 = .ok (.goto (-53), 3) := by decide +kernel
theorem dX7_makes_128 : decode cX7_makes 128 = .ok (.aload_n 0, 1) := by decide +kernel
theorem dX7_makes_129 : decode cX7_makes 129 = .ok (.getfield 7, 3) := by decide +kernel
theorem dX7_makes_132 : decode cX7_makes 132 = .ok (.bipush 8, 2) := by decide +kernel
theorem dX7_makes_134 : decode cX7_makes 134 = .ok (.dup2, 1) := by decide +kernel
theorem dX7_makes_135 : decode cX7_makes 135 = .ok (.iaload, 1) := by decide +kernel
theorem dX7_makes_136 : decode cX7_makes 136 = .ok (.iconst 1, 1) := by decide +kernel
theorem dX7_makes_137 : decode cX7_makes 137 = .ok (.iadd, 1) := by decide +kernel
theorem dX7_makes_138 : decode cX7_makes 138 = .ok (.iastore, 1) := by decide +kernel
theorem dX7_makes_139 : decode cX7_makes 139 = .ok (.return_, 1) := by decide +kernel
theorem dX7_merge_0 : decode cX7_merge 0 = .ok (.aload_n 0, 1) := by decide +kernel
theorem dX7_merge_1 : decode cX7_merge 1 = .ok (.bipush 109, 2) := by decide +kernel
theorem dX7_merge_3 : decode cX7_merge 3 = .ok (.iload_n 1, 1) := by decide +kernel
theorem dX7_merge_4 : decode cX7_merge 4 = .ok (.iconst 0, 1) := by decide +kernel
theorem dX7_merge_5 : decode cX7_merge 5 = .ok (.iconst 0, 1) := by decide +kernel
theorem dX7_merge_6 : decode cX7_merge 6 = .ok (.iconst 0, 1) := by decide +kernel
theorem dX7_merge_7 : decode cX7_merge 7 = .ok (.invokevirtual 145, 3) := by decide +kernel
theorem dX7_merge_10 : decode cX7_merge 10 = .ok (.ireturn, 1) := by decide +kernel
theorem dX7_merged_0 : decode cX7_merged 0 = .ok (.aload_n 0, 1) := by decide +kernel
theorem dX7_merged_1 : decode cX7_merged 1 = .ok (.iconst 1, 1) := by decide +kernel
theorem dX7_merged_2 : decode cX7_merged 2 = .ok (.iload_n 1, 1) := by decide +kernel
theorem dX7_merged_3 : decode cX7_merged 3 = .ok (.invokevirtual 83, 3) := by decide +kernel
theorem dX7_merged_6 : decode cX7_merged 6 = .ok (.ifCond .ne 7, 3) := by decide +kernel
theorem dX7_merged_9 : decode cX7_merged 9 = .ok (.sipush 1000, 3) := by decide +kernel
theorem dX7_merged_12 : decode cX7_merged 12 = .ok (.ireturn, 1) := by decide +kernel
theorem dX7_merged_13 : decode cX7_merged 13 = .ok (.aload_n 0, 1) := by decide +kernel
theorem dX7_merged_14 : decode cX7_merged 14 = .ok (.iconst 0, 1) := by decide +kernel
theorem dX7_merged_15 : decode cX7_merged 15 = .ok (.iload_n 1, 1) := by decide +kernel
theorem dX7_merged_16 : decode cX7_merged 16 = .ok (.invokevirtual 83, 3) := by decide +kernel
theorem dX7_merged_19 : decode cX7_merged 19 = .ok (.ifCond .ne 7, 3) := by decide +kernel
theorem dX7_merged_22 : decode cX7_merged 22 = .ok (.sipush 1001, 3) := by decide +kernel
theorem dX7_merged_25 : decode cX7_merged 25 = .ok (.ireturn, 1) := by decide +kernel
theorem dX7_merged_26 : decode cX7_merged 26 = .ok (.aload_n 0, 1) := by decide +kernel
theorem dX7_merged_27 : decode cX7_merged 27 = .ok (.iconst 0, 1) := by decide +kernel
theorem dX7_merged_28 : decode cX7_merged 28 = .ok (.iload_n 1, 1) := by decide +kernel
theorem dX7_merged_29 : decode cX7_merged 29 = .ok (.aload_n 0, 1) := by decide +kernel
theorem dX7_merged_30 : decode cX7_merged 30 = .ok (.getfield 7, 3) := by decide +kernel
theorem dX7_merged_33 : decode cX7_merged 33 = .ok (.iload_n 1, 1) := by decide +kernel
theorem dX7_merged_34 : decode cX7_merged 34 = .ok (.bipush 7, 2) := by decide +kernel
theorem dX7_merged_36 : decode cX7_merged 36 = .ok (.invokestatic 36, 3) := by decide +kernel
theorem dX7_merged_39 : decode cX7_merged 39 = .ok (.iaload, 1) := by decide +kernel
theorem dX7_merged_40 : decode cX7_merged 40 = .ok (.invokevirtual 73, 3) := by decide +kernel
theorem dX7_merged_43 : decode cX7_merged 43 = .ok (.aload_n 0, 1) := by decide +kernel
theorem dX7_merged_44 : decode cX7_merged 44 = .ok (.iconst 1, 1) := by decide +kernel
theorem dX7_merged_45 : decode cX7_merged 45 = .ok (.iload_n 1, 1) := by decide +kernel
theorem dX7_merged_46 : decode cX7_merged 46 = .ok (.aload_n 0, 1) := by decide +kernel
theorem dX7_merged_47 : decode cX7_merged 47 = .ok (.getfield 7, 3) := by decide +kernel
theorem dX7_merged_50 : decode cX7_merged 50 = .ok (.iload_n 1, 1) := by decide +kernel
theorem dX7_merged_51 : decode cX7_merged 51 = .ok (.bipush 8, 2) := by decide +kernel
theorem dX7_merged_53 : decode cX7_merged 53 = .ok (.invokestatic 36, 3) := by decide +kernel
theorem dX7_merged_56 : decode cX7_merged 56 = .ok (.iaload, 1) := by decide +kernel
theorem dX7_merged_57 : decode cX7_merged 57 = .ok (.invokevirtual 73, 3) := by decide +kernel
theorem dX7_merged_60 : decode cX7_merged 60 = .ok (.iadd, 1) := by decide +kernel
theorem dX7_merged_61 : decode cX7_merged 61 = .ok (.sipush 256, 3) := by decide +kernel
theorem dX7_merged_64 : decode cX7_merged 64 = .ok (.irem, 1) := by decide +kernel
theorem dX7_merged_65 : decode cX7_merged 65 = .ok (.ireturn, 1) := by decide +kernel
theorem dX7_merges_0 : decode cX7_merges 0 = .ok (.aload_n 0, 1) := by decide +kernel
theorem dX7_merges_1 : decode cX7_merges 1 = .ok (.iload_n 1, 1) := by decide +kernel
theorem dX7_merges_2 : decode cX7_merges 2 = .ok (.invokevirtual 87, 3) := by decide +kernel
theorem dX7_merges_5 : decode cX7_merges 5 = .ok (.ifCond .ne 5, 3) := by decide +kernel
theorem dX7_merges_8 : decode cX7_merges 8 = .ok (.iconst (-1), 1) := by decide +kernel
theorem dX7_merges_9 : decode cX7_merges 9 = .ok (.ireturn, 1) := by decide +kernel
theorem dX7_merges_10 : decode cX7_merges 10 = .ok (.aload_n 0, 1) := by decide +kernel
theorem dX7_merges_11 : decode cX7_merges 11 = .ok (.invokevirtual 59, 3) := by decide +kernel
theorem dX7_merges_14 : decode cX7_merges 14 = .ok (.ifCond .ne 6, 3) := by decide +kernel
theorem dX7_merges_17 : decode cX7_merges 17 = .ok (.bipush (-5), 2) := by decide +kernel
theorem dX7_merges_19 : decode cX7_merges 19 = .ok (.ireturn, 1) := by decide +kernel
theorem dX7_merges_20 : decode cX7_merges 20 = .ok (.aload_n 0, 1) := by decide +kernel
theorem dX7_merges_21 : decode cX7_merges 21 = .ok (.iload_n 1, 1) := by decide +kernel
theorem dX7_merges_22 : decode cX7_merges 22 = .ok (.invokevirtual 101, 3) := by decide +kernel
theorem dX7_merges_25 : decode cX7_merges 25 = .ok (.istore_n 2, 1) := by decide +kernel
theorem dX7_merges_26 : decode cX7_merges 26 = .ok (.iload_n 2, 1) := by decide +kernel
theorem dX7_merges_27 : decode cX7_merges 27 = .ok (.sipush 1000, 3) := by decide +kernel
theorem dX7_merges_30 : decode cX7_merges 30 = .ok (.if_icmp .lt 31, 3) := by decide +kernel
theorem dX7_merges_33 : decode cX7_merges 33 = .ok (.aload_n 0, 1) := by decide +kernel
theorem dX7_merges_34 : decode cX7_merges 34 = .ok (.getfield 7, 3) := by decide +kernel
theorem dX7_merges_37 : decode cX7_merges 37 = .ok (.iload_n 1, 1) := by decide +kernel
theorem dX7_merges_38 : decode cX7_merges 38 = .ok (.iconst 3, 1) := by decide +kernel
theorem dX7_merges_39 : decode cX7_merges 39 = .ok (.invokestatic 36, 3) := by decide +kernel
theorem dX7_merges_42 : decode cX7_merges 42 = .ok (.dup2, 1) := by decide +kernel
theorem dX7_merges_43 : decode cX7_merges 43 = .ok (.iaload, 1) := by decide +kernel
theorem dX7_merges_44 : decode cX7_merges 44 = .ok (.iconst 1, 1) := by decide +kernel
theorem dX7_merges_45 : decode cX7_merges 45 = .ok (.iadd, 1) := by decide +kernel
theorem dX7_merges_46 : decode cX7_merges 46 = .ok (.iastore, 1) := by decide +kernel
theorem dX7_merges_47 : decode cX7_merges 47 = .ok (.aload_n 0, 1) := by decide +kernel
theorem dX7_merges_48 : decode cX7_merges 48 = .ok (.getfield 7, 3) := by decide +kernel
theorem dX7_merges_51 : decode cX7_merges 51 = .ok (.bipush 10, 2) := by decide +kernel
theorem dX7_merges_53 : decode cX7_merges 53 = .ok (.dup2, 1) := by decide +kernel
theorem dX7_merges_54 : decode cX7_merges 54 = .ok (.iaload, 1) := by decide +kernel
theorem dX7_merges_55 : decode cX7_merges 55 = .ok (.iconst 1, 1) := by decide +kernel
theorem dX7_merges_56 : decode cX7_merges 56 = .ok (.iadd, 1) := by decide +kernel
theorem dX7_merges_57 : decode cX7_merges 57 = .ok (.iastore, 1) := by decide +kernel
theorem dX7_merges_58 : decode cX7_merges 58 = .ok (.goto 67, 3) := by decide +kernel
theorem dX7_merges_61 : decode cX7_merges 61 = .ok (.aload_n 0, 1) := by decide +kernel
theorem dX7_merges_62 : decode cX7_merges 62 = .ok (.getfield 7, 3) := by decide +kernel
theorem dX7_merges_65 : decode cX7_merges 65 = .ok (.iload_n 1, 1) := by decide +kernel
theorem dX7_merges_66 : decode cX7_merges 66 = .ok (.iconst 1, 1) := by decide +kernel
theorem dX7_merges_67 : decode cX7_merges 67 = .ok (.invokestatic 36, 3) := by decide +kernel
theorem dX7_merges_70 : decode cX7_merges 70 = .ok (.iload_n 2, 1) := by decide +kernel
theorem dX7_merges_71 : decode cX7_merges 71 = .ok (.iastore, 1) := by decide +kernel
theorem dX7_merges_72 : decode cX7_merges 72 = .ok (.aload_n 0, 1) := by decide +kernel
theorem dX7_merges_73 : decode cX7_merges 73 = .ok (.getfield 7, 3) := by decide +kernel
theorem dX7_merges_76 : decode cX7_merges 76 = .ok (.iload_n 1, 1) := by decide +kernel
theorem dX7_merges_77 : decode cX7_merges 77 = .ok (.iconst 2, 1) := by decide +kernel
theorem dX7_merges_78 : decode cX7_merges 78 = .ok (.invokestatic 36, 3) := by decide +kernel
theorem dX7_merges_81 : decode cX7_merges 81 = .ok (.aload_n 0, 1) := by decide +kernel
theorem dX7_merges_82 : decode cX7_merges 82 = .ok (.getfield 7, 3) := by decide +kernel
theorem dX7_merges_85 : decode cX7_merges 85 = .ok (.iconst 0, 1) := by decide +kernel
theorem dX7_merges_86 : decode cX7_merges 86 = .ok (.iaload, 1) := by decide +kernel
theorem dX7_merges_87 : decode cX7_merges 87 = .ok (.iastore, 1) := by decide +kernel
theorem dX7_merges_88 : decode cX7_merges 88 = .ok (.aload_n 0, 1) := by decide +kernel
theorem dX7_merges_89 : decode cX7_merges 89 = .ok (.getfield 7, 3) := by decide +kernel
theorem dX7_merges_92 : decode cX7_merges 92 = .ok (.iload_n 1, 1) := by decide +kernel
theorem dX7_merges_93 : decode cX7_merges 93 = .ok (.iconst 4, 1) := by decide +kernel
theorem dX7_merges_94 : decode cX7_merges 94 = .ok (.invokestatic 36, 3) := by decide +kernel
theorem dX7_merges_97 : decode cX7_merges 97 = .ok (.dup2, 1) := by decide +kernel
theorem dX7_merges_98 : decode cX7_merges 98 = .ok (.iaload, 1) := by decide +kernel
theorem dX7_merges_99 : decode cX7_merges 99 = .ok (.iconst 1, 1) := by decide +kernel
theorem dX7_merges_100 : decode cX7_merges 100 = .ok (.iadd, 1) := by decide +kernel
theorem dX7_merges_101 : decode cX7_merges 101 = .ok (.iastore, 1) := by decide +kernel
theorem dX7_merges_102 : decode cX7_merges 102 = .ok (.aload_n 0, 1) := by decide +kernel
theorem dX7_merges_103 : decode cX7_merges 103 = .ok (.getfield 7, 3) := by decide +kernel
theorem dX7_merges_106 : decode cX7_merges 106 = .ok (.bipush 11, 2) := by decide +kernel
theorem dX7_merges_108 : decode cX7_merges 108 = .ok (.dup2, 1) := by decide +kernel
theorem dX7_merges_109 : decode cX7_merges 109 = .ok (.iaload, 1) := by decide +kernel
theorem dX7_merges_110 : decode cX7_merges 110 = .ok (.aload_n 0, 1) := by decide +kernel
theorem dX7_merges_111 : decode cX7_merges 111 = .ok (.iload_n 1, 1) := by decide +kernel
theorem dX7_merges_112 : decode cX7_merges 112 = .ok (.invokevirtual 104, 3) := by decide +kernel
theorem dX7_merges_115 : decode cX7_merges 115 = .ok (.ifCond .eq 7, 3) := by decide +kernel
theorem dX7_merges_118 : decode cX7_merges 118 = .ok (.iconst 1, 1) := by decide +kernel
theorem dX7_merges_119 : decode cX7_merges 119 = .ok (.goto 4, 3) := by decide +kernel
theorem dX7_merges_122 : decode cX7_merges 122 = .ok (.iconst 0, 1) := by decide +kernel
theorem dX7_merges_123 : decode cX7_merges 123 = .ok (.iadd, 1) := by decide +kernel
theorem dX7_merges_124 : decode cX7_merges 124 = .ok (.iastore, 1) := by decide +kernel
theorem dX7_merges_125 : decode cX7_merges 125 = .ok (.iload_n 2, 1) := by decide +kernel
theorem dX7_merges_126 : decode cX7_merges 126 = .ok (.ireturn, 1) := by decide +kernel
theorem dX7_needed_0 : decode cX7_needed 0 = .ok (.aload_n 0, 1) := by decide +kernel
theorem dX7_needed_1 : decode cX7_needed 1 = .ok (.iload_n 1, 1) := by decide +kernel
theorem dX7_needed_2 : decode cX7_needed 2 = .ok (.invokevirtual 87, 3) := by decide +kernel
theorem dX7_needed_5 : decode cX7_needed 5 = .ok (.ifCond .ne 5, 3) := by decide +kernel
theorem dX7_needed_8 : decode cX7_needed 8 = .ok (.iconst (-1), 1) := by decide +kernel
theorem dX7_needed_9 : decode cX7_needed 9 = .ok (.ireturn, 1) := by decide +kernel
theorem dX7_needed_10 : decode cX7_needed 10 = .ok (.aload_n 0, 1) := by decide +kernel
theorem dX7_needed_11 : decode cX7_needed 11 = .ok (.getfield 7, 3) := by decide +kernel
theorem dX7_needed_14 : decode cX7_needed 14 = .ok (.iload_n 1, 1) := by decide +kernel
theorem dX7_needed_15 : decode cX7_needed 15 = .ok (.iconst 5, 1) := by decide +kernel
theorem dX7_needed_16 : decode cX7_needed 16 = .ok (.invokestatic 36, 3) := by decide +kernel
theorem dX7_needed_19 : decode cX7_needed 19 = .ok (.iaload, 1) := by decide +kernel
theorem dX7_needed_20 : decode cX7_needed 20 = .ok (.iconst 1, 1) := by decide +kernel
theorem dX7_needed_21 : decode cX7_needed 21 = .ok (.if_icmp .ne 7, 3) := by decide +kernel
theorem dX7_needed_24 : decode cX7_needed 24 = .ok (.iconst 0, 1) := by decide +kernel
theorem dX7_needed_25 : decode cX7_needed 25 = .ok (.goto 16, 3) := by decide +kernel
theorem dX7_needed_28 : decode cX7_needed 28 = .ok (.aload_n 0, 1) := by decide +kernel
theorem dX7_needed_29 : decode cX7_needed 29 = .ok (.iload_n 1, 1) := by decide +kernel
theorem dX7_needed_30 : decode cX7_needed 30 = .ok (.invokevirtual 154, 3) := by decide +kernel
theorem dX7_needed_33 : decode cX7_needed 33 = .ok (.ifCond .le 7, 3) := by decide +kernel
theorem dX7_needed_36 : decode cX7_needed 36 = .ok (.iconst 1, 1) := by decide +kernel
theorem dX7_needed_37 : decode cX7_needed 37 = .ok (.goto 4, 3) := by decide +kernel
theorem dX7_needed_40 : decode cX7_needed 40 = .ok (.iconst 2, 1) := by decide +kernel
theorem dX7_needed_41 : decode cX7_needed 41 = .ok (.ireturn, 1) := by decide +kernel
theorem dX7_of_0 : decode cX7_of 0 = .ok (.iload_n 1, 1) := by decide +kernel
theorem dX7_of_1 : decode cX7_of 1 = .ok (.invokestatic 98, 3) := by decide +kernel
theorem dX7_of_4 : decode cX7_of 4 = .ok (.ifCond .eq 11, 3) := by decide +kernel
theorem dX7_of_7 : decode cX7_of 7 = .ok (.aload_n 0, 1) := by decide +kernel
theorem dX7_of_8 : decode cX7_of 8 = .ok (.iload_n 2, 1) := by decide +kernel
theorem dX7_of_9 : decode cX7_of 9 = .ok (.invokevirtual 87, 3) := by decide +kernel
theorem dX7_of_12 : decode cX7_of 12 = .ok (.ifCond .ne 5, 3) := by decide +kernel
theorem dX7_of_15 : decode cX7_of 15 = .ok (.iconst (-1), 1) := by decide +kernel
theorem dX7_of_16 : decode cX7_of 16 = .ok (.ireturn, 1) := by decide +kernel
theorem dX7_of_17 : decode cX7_of 17 = .ok (.aload_n 0, 1) := by decide +kernel
theorem dX7_of_18 : decode cX7_of 18 = .ok (.getfield 7, 3) := by decide +kernel
theorem dX7_of_21 : decode cX7_of 21 = .ok (.iload_n 2, 1) := by decide +kernel
theorem dX7_of_22 : decode cX7_of 22 = .ok (.bipush 7, 2) := by decide +kernel
theorem dX7_of_24 : decode cX7_of 24 = .ok (.iload_n 1, 1) := by decide +kernel
theorem dX7_of_25 : decode cX7_of 25 = .ok (.iadd, 1) := by decide +kernel
theorem dX7_of_26 : decode cX7_of 26 = .ok (.invokestatic 36, 3) := by decide +kernel
theorem dX7_of_29 : decode cX7_of 29 = .ok (.iaload, 1) := by decide +kernel
theorem dX7_of_30 : decode cX7_of 30 = .ok (.istore 4, 2) := by decide +kernel
theorem dX7_of_32 : decode cX7_of 32 = .ok (.aload_n 0, 1) := by decide +kernel
theorem dX7_of_33 : decode cX7_of 33 = .ok (.getfield 7, 3) := by decide +kernel
theorem dX7_of_36 : decode cX7_of 36 = .ok (.iload_n 2, 1) := by decide +kernel
theorem dX7_of_37 : decode cX7_of 37 = .ok (.bipush 9, 2) := by decide +kernel
theorem dX7_of_39 : decode cX7_of 39 = .ok (.iload_n 1, 1) := by decide +kernel
theorem dX7_of_40 : decode cX7_of 40 = .ok (.iadd, 1) := by decide +kernel
theorem dX7_of_41 : decode cX7_of 41 = .ok (.invokestatic 36, 3) := by decide +kernel
theorem dX7_of_44 : decode cX7_of 44 = .ok (.iaload, 1) := by decide +kernel
theorem dX7_of_45 : decode cX7_of 45 = .ok (.istore 5, 2) := by decide +kernel
theorem dX7_of_47 : decode cX7_of 47 = .ok (.iload_n 3, 1) := by decide +kernel
theorem dX7_of_48 : decode cX7_of 48 = .ok (.tableswitch 119 0 7 #[48, 55, 62, 76, 90, 93, 96, 105], 48) := by decide +kernel
theorem dX7_of_96 : decode cX7_of 96 = .ok (.aload_n 0, 1) := by decide +kernel
theorem dX7_of_97 : decode cX7_of 97 = .ok (.iload_n 1, 1) := by decide +kernel
theorem dX7_of_98 : decode cX7_of 98 = .ok (.iload_n 2, 1) := by decide +kernel
theorem dX7_of_99 : decode cX7_of 99 = .ok (.invokevirtual 63, 3) := by decide +kernel
theorem dX7_of_102 : decode cX7_of 102 = .ok (.ireturn, 1) := by decide +kernel
theorem dX7_of_103 : decode cX7_of 103 = .ok (.aload_n 0, 1) := by decide +kernel
theorem dX7_of_104 : decode cX7_of 104 = .ok (.iload_n 1, 1) := by decide +kernel
theorem dX7_of_105 : decode cX7_of 105 = .ok (.iload_n 2, 1) := by decide +kernel
theorem dX7_of_106 : decode cX7_of 106 = .ok (.invokevirtual 76, 3) := by decide +kernel
theorem dX7_of_109 : decode cX7_of 109 = .ok (.ireturn, 1) := by decide +kernel
theorem dX7_of_110 : decode cX7_of 110 = .ok (.aload_n 0, 1) := by decide +kernel
theorem dX7_of_111 : decode cX7_of 111 = .ok (.getfield 7, 3) := by decide +kernel
theorem dX7_of_114 : decode cX7_of 114 = .ok (.iload_n 2, 1) := by decide +kernel
theorem dX7_of_115 : decode cX7_of 115 = .ok (.bipush 12, 2) := by decide +kernel
theorem dX7_of_117 : decode cX7_of 117 = .ok (.iload_n 1, 1) := by decide +kernel
theorem dX7_of_118 : decode cX7_of 118 = .ok (.isub, 1) := by decide +kernel
theorem dX7_of_119 : decode cX7_of 119 = .ok (.invokestatic 36, 3) := by decide +kernel
theorem dX7_of_122 : decode cX7_of 122 = .ok (.iaload, 1) := by decide +kernel
theorem dX7_of_123 : decode cX7_of 123 = .ok (.ireturn, 1) := by decide +kernel
theorem dX7_of_124 : decode cX7_of 124 = .ok (.aload_n 0, 1) := by decide +kernel
theorem dX7_of_125 : decode cX7_of 125 = .ok (.getfield 7, 3) := by decide +kernel
theorem dX7_of_128 : decode cX7_of 128 = .ok (.iload_n 2, 1) := by decide +kernel
theorem dX7_of_129 : decode cX7_of 129 = .ok (.bipush 14, 2) := by decide +kernel
theorem dX7_of_131 : decode cX7_of 131 = .ok (.iload_n 1, 1) := by decide +kernel
theorem dX7_of_132 : decode cX7_of 132 = .ok (.isub, 1) := by decide +kernel
theorem dX7_of_133 : decode cX7_of 133 = .ok (.invokestatic 36, 3) := by decide +kernel
theorem dX7_of_136 : decode cX7_of 136 = .ok (.iaload, 1) := by decide +kernel
theorem dX7_of_137 : decode cX7_of 137 = .ok (.ireturn, 1) := by decide +kernel
theorem dX7_of_138 : decode cX7_of 138 = .ok (.iload 4, 2) := by decide +kernel
theorem dX7_of_140 : decode cX7_of 140 = .ok (.ireturn, 1) := by decide +kernel
theorem dX7_of_141 : decode cX7_of 141 = .ok (.iload 5, 2) := by decide +kernel
theorem dX7_of_143 : decode cX7_of 143 = .ok (.ireturn, 1) := by decide +kernel
theorem dX7_of_144 : decode cX7_of 144 = .ok (.aload_n 0, 1) := by decide +kernel
theorem dX7_of_145 : decode cX7_of 145 = .ok (.iload_n 1, 1) := by decide +kernel
theorem dX7_of_146 : decode cX7_of 146 = .ok (.iload_n 2, 1) := by decide +kernel
theorem dX7_of_147 : decode cX7_of 147 = .ok (.iload 4, 2) := by decide +kernel
theorem dX7_of_149 : decode cX7_of 149 = .ok (.invokevirtual 73, 3) := by decide +kernel
theorem dX7_of_152 : decode cX7_of 152 = .ok (.ireturn, 1) := by decide +kernel
theorem dX7_of_153 : decode cX7_of 153 = .ok (.aload_n 0, 1) := by decide +kernel
theorem dX7_of_154 : decode cX7_of 154 = .ok (.iload_n 1, 1) := by decide +kernel
theorem dX7_of_155 : decode cX7_of 155 = .ok (.iload_n 2, 1) := by decide +kernel
theorem dX7_of_156 : decode cX7_of 156 = .ok (.invokevirtual 76, 3) := by decide +kernel
theorem dX7_of_159 : decode cX7_of 159 = .ok (.iload 5, 2) := by decide +kernel
theorem dX7_of_161 : decode cX7_of 161 = .ok (.iadd, 1) := by decide +kernel
theorem dX7_of_162 : decode cX7_of 162 = .ok (.sipush 257, 3) := by decide +kernel
theorem dX7_of_165 : decode cX7_of 165 = .ok (.irem, 1) := by decide +kernel
theorem dX7_of_166 : decode cX7_of 166 = .ok (.ireturn, 1) := by decide +kernel
theorem dX7_of_167 : decode cX7_of 167 = .ok (.bipush (-2), 2) := by decide +kernel
theorem dX7_of_169 : decode cX7_of 169 = .ok (.ireturn, 1) := by decide +kernel
theorem dX7_ofSecret_0 : decode cX7_ofSecret 0 = .ok (.aload_n 0, 1) := by decide +kernel
theorem dX7_ofSecret_1 : decode cX7_ofSecret 1 = .ok (.iload_n 1, 1) := by decide +kernel
theorem dX7_ofSecret_2 : decode cX7_ofSecret 2 = .ok (.invokevirtual 87, 3) := by decide +kernel
theorem dX7_ofSecret_5 : decode cX7_ofSecret 5 = .ok (.ifCond .ne 5, 3) := by decide +kernel
theorem dX7_ofSecret_8 : decode cX7_ofSecret 8 = .ok (.iconst (-1), 1) := by decide +kernel
theorem dX7_ofSecret_9 : decode cX7_ofSecret 9 = .ok (.ireturn, 1) := by decide +kernel
theorem dX7_ofSecret_10 : decode cX7_ofSecret 10 = .ok (.iload_n 2, 1) := by decide +kernel
theorem dX7_ofSecret_11 : decode cX7_ofSecret 11 = .ok (.tableswitch 153 0 7 #[45, 57, 68, 97, 108, 119, 130, 142], 45) := by decide +kernel
theorem dX7_ofSecret_56 : decode cX7_ofSecret 56 = .ok (.aload_n 0, 1) := by decide +kernel
theorem dX7_ofSecret_57 : decode cX7_ofSecret 57 = .ok (.getfield 7, 3) := by decide +kernel
theorem dX7_ofSecret_60 : decode cX7_ofSecret 60 = .ok (.iload_n 1, 1) := by decide +kernel
theorem dX7_ofSecret_61 : decode cX7_ofSecret 61 = .ok (.iconst 0, 1) := by decide +kernel
theorem dX7_ofSecret_62 : decode cX7_ofSecret 62 = .ok (.iconst 0, 1) := by decide +kernel
theorem dX7_ofSecret_63 : decode cX7_ofSecret 63 = .ok (.invokestatic 40, 3) := by decide +kernel
theorem dX7_ofSecret_66 : decode cX7_ofSecret 66 = .ok (.iaload, 1) := by decide +kernel
theorem dX7_ofSecret_67 : decode cX7_ofSecret 67 = .ok (.ireturn, 1) := by decide +kernel
theorem dX7_ofSecret_68 : decode cX7_ofSecret 68 = .ok (.aload_n 0, 1) := by decide +kernel
theorem dX7_ofSecret_69 : decode cX7_ofSecret 69 = .ok (.getfield 7, 3) := by decide +kernel
theorem dX7_ofSecret_72 : decode cX7_ofSecret 72 = .ok (.iload_n 1, 1) := by decide +kernel
theorem dX7_ofSecret_73 : decode cX7_ofSecret 73 = .ok (.iconst 0, 1) := by decide +kernel
theorem dX7_ofSecret_74 : decode cX7_ofSecret 74 = .ok (.invokestatic 36, 3) := by decide +kernel
theorem dX7_ofSecret_77 : decode cX7_ofSecret 77 = .ok (.iaload, 1) := by decide +kernel
theorem dX7_ofSecret_78 : decode cX7_ofSecret 78 = .ok (.ireturn, 1) := by decide +kernel
theorem dX7_ofSecret_79 : decode cX7_ofSecret 79 = .ok (.aload_n 0, 1) := by decide +kernel
theorem dX7_ofSecret_80 : decode cX7_ofSecret 80 = .ok (.getfield 7, 3) := by decide +kernel
theorem dX7_ofSecret_83 : decode cX7_ofSecret 83 = .ok (.iload_n 1, 1) := by decide +kernel
theorem dX7_ofSecret_84 : decode cX7_ofSecret 84 = .ok (.iconst 2, 1) := by decide +kernel
theorem dX7_ofSecret_85 : decode cX7_ofSecret 85 = .ok (.invokestatic 36, 3) := by decide +kernel
theorem dX7_ofSecret_88 : decode cX7_ofSecret 88 = .ok (.iaload, 1) := by decide +kernel
theorem dX7_ofSecret_89 : decode cX7_ofSecret 89 = .ok (.ifCond .le 16, 3) := by decide +kernel
theorem dX7_ofSecret_92 : decode cX7_ofSecret 92 = .ok (.aload_n 0, 1) := by decide +kernel
theorem dX7_ofSecret_93 : decode cX7_ofSecret 93 = .ok (.getfield 7, 3) := by decide +kernel
theorem dX7_ofSecret_96 : decode cX7_ofSecret 96 = .ok (.iload_n 1, 1) := by decide +kernel
theorem dX7_ofSecret_97 : decode cX7_ofSecret 97 = .ok (.iconst 1, 1) := by decide +kernel
theorem dX7_ofSecret_98 : decode cX7_ofSecret 98 = .ok (.invokestatic 36, 3) := by decide +kernel
theorem dX7_ofSecret_101 : decode cX7_ofSecret 101 = .ok (.iaload, 1) := by decide +kernel
theorem dX7_ofSecret_102 : decode cX7_ofSecret 102 = .ok (.goto 5, 3) := by decide +kernel
theorem dX7_ofSecret_105 : decode cX7_ofSecret 105 = .ok (.bipush (-6), 2) := by decide +kernel
theorem dX7_ofSecret_107 : decode cX7_ofSecret 107 = .ok (.ireturn, 1) := by decide +kernel
theorem dX7_ofSecret_108 : decode cX7_ofSecret 108 = .ok (.aload_n 0, 1) := by decide +kernel
theorem dX7_ofSecret_109 : decode cX7_ofSecret 109 = .ok (.getfield 7, 3) := by decide +kernel
theorem dX7_ofSecret_112 : decode cX7_ofSecret 112 = .ok (.iload_n 1, 1) := by decide +kernel
theorem dX7_ofSecret_113 : decode cX7_ofSecret 113 = .ok (.iconst 2, 1) := by decide +kernel
theorem dX7_ofSecret_114 : decode cX7_ofSecret 114 = .ok (.invokestatic 36, 3) := by decide +kernel
theorem dX7_ofSecret_117 : decode cX7_ofSecret 117 = .ok (.iaload, 1) := by decide +kernel
theorem dX7_ofSecret_118 : decode cX7_ofSecret 118 = .ok (.ireturn, 1) := by decide +kernel
theorem dX7_ofSecret_119 : decode cX7_ofSecret 119 = .ok (.aload_n 0, 1) := by decide +kernel
theorem dX7_ofSecret_120 : decode cX7_ofSecret 120 = .ok (.getfield 7, 3) := by decide +kernel
theorem dX7_ofSecret_123 : decode cX7_ofSecret 123 = .ok (.iload_n 1, 1) := by decide +kernel
theorem dX7_ofSecret_124 : decode cX7_ofSecret 124 = .ok (.iconst 3, 1) := by decide +kernel
theorem dX7_ofSecret_125 : decode cX7_ofSecret 125 = .ok (.invokestatic 36, 3) := by decide +kernel
theorem dX7_ofSecret_128 : decode cX7_ofSecret 128 = .ok (.iaload, 1) := by decide +kernel
theorem dX7_ofSecret_129 : decode cX7_ofSecret 129 = .ok (.ireturn, 1) := by decide +kernel
theorem dX7_ofSecret_130 : decode cX7_ofSecret 130 = .ok (.aload_n 0, 1) := by decide +kernel
theorem dX7_ofSecret_131 : decode cX7_ofSecret 131 = .ok (.getfield 7, 3) := by decide +kernel
theorem dX7_ofSecret_134 : decode cX7_ofSecret 134 = .ok (.iload_n 1, 1) := by decide +kernel
theorem dX7_ofSecret_135 : decode cX7_ofSecret 135 = .ok (.iconst 5, 1) := by decide +kernel
theorem dX7_ofSecret_136 : decode cX7_ofSecret 136 = .ok (.invokestatic 36, 3) := by decide +kernel
theorem dX7_ofSecret_139 : decode cX7_ofSecret 139 = .ok (.iaload, 1) := by decide +kernel
theorem dX7_ofSecret_140 : decode cX7_ofSecret 140 = .ok (.ireturn, 1) := by decide +kernel
theorem dX7_ofSecret_141 : decode cX7_ofSecret 141 = .ok (.aload_n 0, 1) := by decide +kernel
theorem dX7_ofSecret_142 : decode cX7_ofSecret 142 = .ok (.getfield 7, 3) := by decide +kernel
theorem dX7_ofSecret_145 : decode cX7_ofSecret 145 = .ok (.iload_n 1, 1) := by decide +kernel
theorem dX7_ofSecret_146 : decode cX7_ofSecret 146 = .ok (.bipush 6, 2) := by decide +kernel
theorem dX7_ofSecret_148 : decode cX7_ofSecret 148 = .ok (.invokestatic 36, 3) := by decide +kernel
theorem dX7_ofSecret_151 : decode cX7_ofSecret 151 = .ok (.iaload, 1) := by decide +kernel
theorem dX7_ofSecret_152 : decode cX7_ofSecret 152 = .ok (.ireturn, 1) := by decide +kernel
theorem dX7_ofSecret_153 : decode cX7_ofSecret 153 = .ok (.aload_n 0, 1) := by decide +kernel
theorem dX7_ofSecret_154 : decode cX7_ofSecret 154 = .ok (.getfield 7, 3) := by decide +kernel
theorem dX7_ofSecret_157 : decode cX7_ofSecret 157 = .ok (.iload_n 1, 1) := by decide +kernel
theorem dX7_ofSecret_158 : decode cX7_ofSecret 158 = .ok (.iconst 4, 1) := by decide +kernel
theorem dX7_ofSecret_159 : decode cX7_ofSecret 159 = .ok (.invokestatic 36, 3) := by decide +kernel
theorem dX7_ofSecret_162 : decode cX7_ofSecret 162 = .ok (.iaload, 1) := by decide +kernel
theorem dX7_ofSecret_163 : decode cX7_ofSecret 163 = .ok (.ireturn, 1) := by decide +kernel
theorem dX7_ofSecret_164 : decode cX7_ofSecret 164 = .ok (.bipush (-2), 2) := by decide +kernel
theorem dX7_ofSecret_166 : decode cX7_ofSecret 166 = .ok (.ireturn, 1) := by decide +kernel
theorem dX7_old_0 : decode cX7_old 0 = .ok (.aload_n 0, 1) := by decide +kernel
theorem dX7_old_1 : decode cX7_old 1 = .ok (.iload_n 1, 1) := by decide +kernel
theorem dX7_old_2 : decode cX7_old 2 = .ok (.invokevirtual 87, 3) := by decide +kernel
theorem dX7_old_5 : decode cX7_old 5 = .ok (.ifCond .eq 23, 3) := by decide +kernel
theorem dX7_old_8 : decode cX7_old 8 = .ok (.iload_n 2, 1) := by decide +kernel
theorem dX7_old_9 : decode cX7_old 9 = .ok (.iconst 0, 1) := by decide +kernel
theorem dX7_old_10 : decode cX7_old 10 = .ok (.aload_n 0, 1) := by decide +kernel
theorem dX7_old_11 : decode cX7_old 11 = .ok (.getfield 7, 3) := by decide +kernel
theorem dX7_old_14 : decode cX7_old 14 = .ok (.iload_n 1, 1) := by decide +kernel
theorem dX7_old_15 : decode cX7_old 15 = .ok (.iconst 0, 1) := by decide +kernel
theorem dX7_old_16 : decode cX7_old 16 = .ok (.invokestatic 36, 3) := by decide +kernel
theorem dX7_old_19 : decode cX7_old 19 = .ok (.iaload, 1) := by decide +kernel
theorem dX7_old_20 : decode cX7_old 20 = .ok (.iconst 1, 1) := by decide +kernel
theorem dX7_old_21 : decode cX7_old 21 = .ok (.isub, 1) := by decide +kernel
theorem dX7_old_22 : decode cX7_old 22 = .ok (.invokestatic 32, 3) := by decide +kernel
theorem dX7_old_25 : decode cX7_old 25 = .ok (.ifCond .ne 5, 3) := by decide +kernel
theorem dX7_old_28 : decode cX7_old 28 = .ok (.iconst (-1), 1) := by decide +kernel
theorem dX7_old_29 : decode cX7_old 29 = .ok (.ireturn, 1) := by decide +kernel
theorem dX7_old_30 : decode cX7_old 30 = .ok (.iload_n 3, 1) := by decide +kernel
theorem dX7_old_31 : decode cX7_old 31 = .ok (.iconst 0, 1) := by decide +kernel
theorem dX7_old_32 : decode cX7_old 32 = .ok (.iconst 3, 1) := by decide +kernel
theorem dX7_old_33 : decode cX7_old 33 = .ok (.invokestatic 32, 3) := by decide +kernel
theorem dX7_old_36 : decode cX7_old 36 = .ok (.ifCond .eq 19, 3) := by decide +kernel
theorem dX7_old_39 : decode cX7_old 39 = .ok (.aload_n 0, 1) := by decide +kernel
theorem dX7_old_40 : decode cX7_old 40 = .ok (.getfield 7, 3) := by decide +kernel
theorem dX7_old_43 : decode cX7_old 43 = .ok (.iload_n 1, 1) := by decide +kernel
theorem dX7_old_44 : decode cX7_old 44 = .ok (.iload_n 2, 1) := by decide +kernel
theorem dX7_old_45 : decode cX7_old 45 = .ok (.iconst 1, 1) := by decide +kernel
theorem dX7_old_46 : decode cX7_old 46 = .ok (.iadd, 1) := by decide +kernel
theorem dX7_old_47 : decode cX7_old 47 = .ok (.iload_n 3, 1) := by decide +kernel
theorem dX7_old_48 : decode cX7_old 48 = .ok (.invokestatic 40, 3) := by decide +kernel
theorem dX7_old_51 : decode cX7_old 51 = .ok (.iaload, 1) := by decide +kernel
theorem dX7_old_52 : decode cX7_old 52 = .ok (.goto 5, 3) := by decide +kernel
theorem dX7_old_55 : decode cX7_old 55 = .ok (.bipush (-2), 2) := by decide +kernel
theorem dX7_old_57 : decode cX7_old 57 = .ok (.ireturn, 1) := by decide +kernel
theorem dX7_otherwise_0 : decode cX7_otherwise 0 = .ok (.iload_n 1, 1) := by decide +kernel
theorem dX7_otherwise_1 : decode cX7_otherwise 1 = .ok (.invokestatic 98, 3) := by decide +kernel
theorem dX7_otherwise_4 : decode cX7_otherwise 4 = .ok (.ifCond .eq 11, 3) := by decide +kernel
theorem dX7_otherwise_7 : decode cX7_otherwise 7 = .ok (.aload_n 0, 1) := by decide +kernel
theorem dX7_otherwise_8 : decode cX7_otherwise 8 = .ok (.iload_n 2, 1) := by decide +kernel
theorem dX7_otherwise_9 : decode cX7_otherwise 9 = .ok (.invokevirtual 87, 3) := by decide +kernel
theorem dX7_otherwise_12 : decode cX7_otherwise 12 = .ok (.ifCond .ne 5, 3) := by decide +kernel
theorem dX7_otherwise_15 : decode cX7_otherwise 15 = .ok (.iconst (-1), 1) := by decide +kernel
theorem dX7_otherwise_16 : decode cX7_otherwise 16 = .ok (.ireturn, 1) := by decide +kernel
theorem dX7_otherwise_17 : decode cX7_otherwise 17 = .ok (.iload_n 3, 1) := by decide +kernel
theorem dX7_otherwise_18 : decode cX7_otherwise 18 = .ok (.iconst 0, 1) := by decide +kernel
theorem dX7_otherwise_19 : decode cX7_otherwise 19 = .ok (.sipush 255, 3) := by decide +kernel
theorem dX7_otherwise_22 : decode cX7_otherwise 22 = .ok (.invokestatic 32, 3) := by decide +kernel
theorem dX7_otherwise_25 : decode cX7_otherwise 25 = .ok (.ifCond .eq 22, 3) := by decide +kernel
theorem dX7_otherwise_28 : decode cX7_otherwise 28 = .ok (.iload_n 3, 1) := by decide +kernel
theorem dX7_otherwise_29 : decode cX7_otherwise 29 = .ok (.sipush 256, 3) := by decide +kernel
theorem dX7_otherwise_32 : decode cX7_otherwise 32 = .ok (.iadd, 1) := by decide +kernel
theorem dX7_otherwise_33 : decode cX7_otherwise 33 = .ok (.aload_n 0, 1) := by decide +kernel
theorem dX7_otherwise_34 : decode cX7_otherwise 34 = .ok (.iload_n 1, 1) := by decide +kernel
theorem dX7_otherwise_35 : decode cX7_otherwise 35 = .ok (.iload_n 2, 1) := by decide +kernel
theorem dX7_otherwise_36 : decode cX7_otherwise 36 = .ok (.invokevirtual 63, 3) := by decide +kernel
theorem dX7_otherwise_39 : decode cX7_otherwise 39 = .ok (.isub, 1) := by decide +kernel
theorem dX7_otherwise_40 : decode cX7_otherwise 40 = .ok (.sipush 256, 3) := by decide +kernel
theorem dX7_otherwise_43 : decode cX7_otherwise 43 = .ok (.irem, 1) := by decide +kernel
theorem dX7_otherwise_44 : decode cX7_otherwise 44 = .ok (.goto 5, 3) := by decide +kernel
theorem dX7_otherwise_47 : decode cX7_otherwise 47 = .ok (.bipush (-2), 2) := by decide +kernel
theorem dX7_otherwise_49 : decode cX7_otherwise 49 = .ok (.ireturn, 1) := by decide +kernel
theorem dX7_partOf_0 : decode cX7_partOf 0 = .ok (.aload_n 0, 1) := by decide +kernel
theorem dX7_partOf_1 : decode cX7_partOf 1 = .ok (.getfield 7, 3) := by decide +kernel
theorem dX7_partOf_4 : decode cX7_partOf 4 = .ok (.iload_n 2, 1) := by decide +kernel
theorem dX7_partOf_5 : decode cX7_partOf 5 = .ok (.iconst 0, 1) := by decide +kernel
theorem dX7_partOf_6 : decode cX7_partOf 6 = .ok (.iconst 1, 1) := by decide +kernel
theorem dX7_partOf_7 : decode cX7_partOf 7 = .ok (.iload_n 1, 1) := by decide +kernel
theorem dX7_partOf_8 : decode cX7_partOf 8 = .ok (.iadd, 1) := by decide +kernel
theorem dX7_partOf_9 : decode cX7_partOf 9 = .ok (.invokestatic 40, 3) := by decide +kernel
theorem dX7_partOf_12 : decode cX7_partOf 12 = .ok (.iaload, 1) := by decide +kernel
theorem dX7_partOf_13 : decode cX7_partOf 13 = .ok (.ireturn, 1) := by decide +kernel
theorem dX7_pass_0 : decode cX7_pass 0 = .ok (.aload_n 0, 1) := by decide +kernel
theorem dX7_pass_1 : decode cX7_pass 1 = .ok (.bipush 98, 2) := by decide +kernel
theorem dX7_pass_3 : decode cX7_pass 3 = .ok (.iload_n 1, 1) := by decide +kernel
theorem dX7_pass_4 : decode cX7_pass 4 = .ok (.iconst 0, 1) := by decide +kernel
theorem dX7_pass_5 : decode cX7_pass 5 = .ok (.iconst 0, 1) := by decide +kernel
theorem dX7_pass_6 : decode cX7_pass 6 = .ok (.iconst 0, 1) := by decide +kernel
theorem dX7_pass_7 : decode cX7_pass 7 = .ok (.invokevirtual 145, 3) := by decide +kernel
theorem dX7_pass_10 : decode cX7_pass 10 = .ok (.ireturn, 1) := by decide +kernel
theorem dX7_passes_0 : decode cX7_passes 0 = .ok (.iload_n 1, 1) := by decide +kernel
theorem dX7_passes_1 : decode cX7_passes 1 = .ok (.iconst 1, 1) := by decide +kernel
theorem dX7_passes_2 : decode cX7_passes 2 = .ok (.bipush 99, 2) := by decide +kernel
theorem dX7_passes_4 : decode cX7_passes 4 = .ok (.invokestatic 32, 3) := by decide +kernel
theorem dX7_passes_7 : decode cX7_passes 7 = .ok (.ifCond .ne 6, 3) := by decide +kernel
theorem dX7_passes_10 : decode cX7_passes 10 = .ok (.bipush (-2), 2) := by decide +kernel
theorem dX7_passes_12 : decode cX7_passes 12 = .ok (.ireturn, 1) := by decide +kernel
theorem dX7_passes_13 : decode cX7_passes 13 = .ok (.aload_n 0, 1) := by decide +kernel
theorem dX7_passes_14 : decode cX7_passes 14 = .ok (.getfield 7, 3) := by decide +kernel
theorem dX7_passes_17 : decode cX7_passes 17 = .ok (.iconst 4, 1) := by decide +kernel
theorem dX7_passes_18 : decode cX7_passes 18 = .ok (.iaload, 1) := by decide +kernel
theorem dX7_passes_19 : decode cX7_passes 19 = .ok (.iload_n 1, 1) := by decide +kernel
theorem dX7_passes_20 : decode cX7_passes 20 = .ok (.iadd, 1) := by decide +kernel
theorem dX7_passes_21 : decode cX7_passes 21 = .ok (.sipush 9999, 3) := by decide +kernel
theorem dX7_passes_24 : decode cX7_passes 24 = .ok (.if_icmp .le 6, 3) := by decide +kernel
theorem dX7_passes_27 : decode cX7_passes 27 = .ok (.bipush (-5), 2) := by decide +kernel
theorem dX7_passes_29 : decode cX7_passes 29 = .ok (.ireturn, 1) := by decide +kernel
theorem dX7_passes_30 : decode cX7_passes 30 = .ok (.aload_n 0, 1) := by decide +kernel
theorem dX7_passes_31 : decode cX7_passes 31 = .ok (.getfield 7, 3) := by decide +kernel
theorem dX7_passes_34 : decode cX7_passes 34 = .ok (.bipush 8, 2) := by decide +kernel
theorem dX7_passes_36 : decode cX7_passes 36 = .ok (.iaload, 1) := by decide +kernel
theorem dX7_passes_37 : decode cX7_passes 37 = .ok (.istore_n 2, 1) := by decide +kernel
theorem dX7_passes_38 : decode cX7_passes 38 = .ok (.iconst 0, 1) := by decide +kernel
theorem dX7_passes_39 : decode cX7_passes 39 = .ok (.istore_n 3, 1) := by decide +kernel
theorem dX7_passes_40 : decode cX7_passes 40 = .ok (.iload_n 3, 1) := by decide +kernel
theorem dX7_passes_41 : decode cX7_passes 41 = .ok (.iload_n 1, 1) := by decide +kernel
theorem dX7_passes_42 : decode cX7_passes 42 = .ok (.if_icmp .ge 13, 3) := by decide +kernel
theorem dX7_passes_45 : decode cX7_passes 45 = .ok (.aload_n 0, 1) := by decide +kernel
theorem dX7_passes_46 : decode cX7_passes 46 = .ok (.invokevirtual 110, 3) := by decide +kernel
theorem dX7_passes_49 : decode cX7_passes 49 = .ok (.iinc 3 1, 3) := by decide +kernel
theorem dX7_passes_52 : decode cX7_passes 52 = .ok (.goto (-12), 3) := by decide +kernel
theorem dX7_passes_55 : decode cX7_passes 55 = .ok (.aload_n 0, 1) := by decide +kernel
theorem dX7_passes_56 : decode cX7_passes 56 = .ok (.getfield 7, 3) := by decide +kernel
theorem dX7_passes_59 : decode cX7_passes 59 = .ok (.bipush 8, 2) := by decide +kernel
theorem dX7_passes_61 : decode cX7_passes 61 = .ok (.iaload, 1) := by decide +kernel
theorem dX7_passes_62 : decode cX7_passes 62 = .ok (.iload_n 2, 1) := by decide +kernel
theorem dX7_passes_63 : decode cX7_passes 63 = .ok (.isub, 1) := by decide +kernel
theorem dX7_passes_64 : decode cX7_passes 64 = .ok (.ireturn, 1) := by decide +kernel
theorem dX7_passes__0 : decode cX7_passes_ 0 = .ok (.iload_n 1, 1) := by decide +kernel
theorem dX7_passes__1 : decode cX7_passes_ 1 = .ok (.invokestatic 98, 3) := by decide +kernel
theorem dX7_passes__4 : decode cX7_passes_ 4 = .ok (.ifCond .eq 11, 3) := by decide +kernel
theorem dX7_passes__7 : decode cX7_passes_ 7 = .ok (.aload_n 0, 1) := by decide +kernel
theorem dX7_passes__8 : decode cX7_passes_ 8 = .ok (.iload_n 2, 1) := by decide +kernel
theorem dX7_passes__9 : decode cX7_passes_ 9 = .ok (.invokevirtual 87, 3) := by decide +kernel
theorem dX7_passes__12 : decode cX7_passes_ 12 = .ok (.ifCond .ne 5, 3) := by decide +kernel
theorem dX7_passes__15 : decode cX7_passes_ 15 = .ok (.iconst (-1), 1) := by decide +kernel
theorem dX7_passes__16 : decode cX7_passes_ 16 = .ok (.ireturn, 1) := by decide +kernel
theorem dX7_passes__17 : decode cX7_passes_ 17 = .ok (.iload_n 3, 1) := by decide +kernel
theorem dX7_passes__18 : decode cX7_passes_ 18 = .ok (.iconst 0, 1) := by decide +kernel
theorem dX7_passes__19 : decode cX7_passes_ 19 = .ok (.sipush 256, 3) := by decide +kernel
theorem dX7_passes__22 : decode cX7_passes_ 22 = .ok (.invokestatic 32, 3) := by decide +kernel
theorem dX7_passes__25 : decode cX7_passes_ 25 = .ok (.ifCond .ne 6, 3) := by decide +kernel
theorem dX7_passes__28 : decode cX7_passes_ 28 = .ok (.bipush (-2), 2) := by decide +kernel
theorem dX7_passes__30 : decode cX7_passes_ 30 = .ok (.ireturn, 1) := by decide +kernel
theorem dX7_passes__31 : decode cX7_passes_ 31 = .ok (.iconst 0, 1) := by decide +kernel
theorem dX7_passes__32 : decode cX7_passes_ 32 = .ok (.istore 4, 2) := by decide +kernel
theorem dX7_passes__34 : decode cX7_passes_ 34 = .ok (.iconst 1, 1) := by decide +kernel
theorem dX7_passes__35 : decode cX7_passes_ 35 = .ok (.istore 5, 2) := by decide +kernel
theorem dX7_passes__37 : decode cX7_passes_ 37 = .ok (.iload 5, 2) := by decide +kernel
theorem dX7_passes__39 : decode cX7_passes_ 39 = .ok (.sipush 256, 3) := by decide +kernel
theorem dX7_passes__42 : decode cX7_passes_ 42 = .ok (.if_icmp .ge 31, 3) := by decide +kernel
theorem dX7_passes__45 : decode cX7_passes_ 45 = .ok (.iload 4, 2) := by decide +kernel
theorem dX7_passes__47 : decode cX7_passes_ 47 = .ok (.aload_n 0, 1) := by decide +kernel
theorem dX7_passes__48 : decode cX7_passes_ 48 = .ok (.iload_n 1, 1) := by decide +kernel
theorem dX7_passes__49 : decode cX7_passes_ 49 = .ok (.iload_n 2, 1) := by decide +kernel
theorem dX7_passes__50 : decode cX7_passes_ 50 = .ok (.iload 5, 2) := by decide +kernel
theorem dX7_passes__52 : decode cX7_passes_ 52 = .ok (.iload_n 3, 1) := by decide +kernel
theorem dX7_passes__53 : decode cX7_passes_ 53 = .ok (.invokevirtual 79, 3) := by decide +kernel
theorem dX7_passes__56 : decode cX7_passes_ 56 = .ok (.ifCond .eq 7, 3) := by decide +kernel
theorem dX7_passes__59 : decode cX7_passes_ 59 = .ok (.iconst 1, 1) := by decide +kernel
theorem dX7_passes__60 : decode cX7_passes_ 60 = .ok (.goto 4, 3) := by decide +kernel
theorem dX7_passes__63 : decode cX7_passes_ 63 = .ok (.iconst 0, 1) := by decide +kernel
theorem dX7_passes__64 : decode cX7_passes_ 64 = .ok (.iadd, 1) := by decide +kernel
theorem dX7_passes__65 : decode cX7_passes_ 65 = .ok (.istore 4, 2) := by decide +kernel
theorem dX7_passes__67 : decode cX7_passes_ 67 = .ok (.iinc 5 1, 3) := by decide +kernel
theorem dX7_passes__70 : decode cX7_passes_ 70 = .ok (.goto (-33), 3) := by decide +kernel
theorem dX7_passes__73 : decode cX7_passes_ 73 = .ok (.iload 4, 2) := by decide +kernel
theorem dX7_passes__75 : decode cX7_passes_ 75 = .ok (.ireturn, 1) := by decide +kernel
theorem dX7_passing_0 : decode cX7_passing 0 = .ok (.iload_n 1, 1) := by decide +kernel
theorem dX7_passing_1 : decode cX7_passing 1 = .ok (.invokestatic 98, 3) := by decide +kernel
theorem dX7_passing_4 : decode cX7_passing 4 = .ok (.ifCond .eq 11, 3) := by decide +kernel
theorem dX7_passing_7 : decode cX7_passing 7 = .ok (.aload_n 0, 1) := by decide +kernel
theorem dX7_passing_8 : decode cX7_passing 8 = .ok (.iload_n 2, 1) := by decide +kernel
theorem dX7_passing_9 : decode cX7_passing 9 = .ok (.invokevirtual 87, 3) := by decide +kernel
theorem dX7_passing_12 : decode cX7_passing 12 = .ok (.ifCond .ne 5, 3) := by decide +kernel
theorem dX7_passing_15 : decode cX7_passing 15 = .ok (.iconst (-1), 1) := by decide +kernel
theorem dX7_passing_16 : decode cX7_passing 16 = .ok (.ireturn, 1) := by decide +kernel
theorem dX7_passing_17 : decode cX7_passing 17 = .ok (.iload_n 3, 1) := by decide +kernel
theorem dX7_passing_18 : decode cX7_passing 18 = .ok (.iconst 0, 1) := by decide +kernel
theorem dX7_passing_19 : decode cX7_passing 19 = .ok (.sipush 255, 3) := by decide +kernel
theorem dX7_passing_22 : decode cX7_passing 22 = .ok (.invokestatic 32, 3) := by decide +kernel
theorem dX7_passing_25 : decode cX7_passing 25 = .ok (.ifCond .ne 6, 3) := by decide +kernel
theorem dX7_passing_28 : decode cX7_passing 28 = .ok (.bipush (-2), 2) := by decide +kernel
theorem dX7_passing_30 : decode cX7_passing 30 = .ok (.ireturn, 1) := by decide +kernel
theorem dX7_passing_31 : decode cX7_passing 31 = .ok (.iconst 0, 1) := by decide +kernel
theorem dX7_passing_32 : decode cX7_passing 32 = .ok (.istore 4, 2) := by decide +kernel
theorem dX7_passing_34 : decode cX7_passing 34 = .ok (.aload_n 0, 1) := by decide +kernel
theorem dX7_passing_35 : decode cX7_passing 35 = .ok (.iload_n 1, 1) := by decide +kernel
theorem dX7_passing_36 : decode cX7_passing 36 = .ok (.iload_n 2, 1) := by decide +kernel
theorem dX7_passing_37 : decode cX7_passing 37 = .ok (.iload_n 3, 1) := by decide +kernel
theorem dX7_passing_38 : decode cX7_passing 38 = .ok (.iload 4, 2) := by decide +kernel
theorem dX7_passing_40 : decode cX7_passing 40 = .ok (.invokevirtual 79, 3) := by decide +kernel
theorem dX7_passing_43 : decode cX7_passing 43 = .ok (.ifCond .ne 17, 3) := by decide +kernel
theorem dX7_passing_46 : decode cX7_passing 46 = .ok (.iload 4, 2) := by decide +kernel
theorem dX7_passing_48 : decode cX7_passing 48 = .ok (.sipush 256, 3) := by decide +kernel
theorem dX7_passing_51 : decode cX7_passing 51 = .ok (.if_icmp .ge 9, 3) := by decide +kernel
theorem dX7_passing_54 : decode cX7_passing 54 = .ok (.iinc 4 1, 3) := by decide +kernel
theorem dX7_passing_57 : decode cX7_passing 57 = .ok (.goto (-23), 3) := by decide +kernel
theorem dX7_passing_60 : decode cX7_passing 60 = .ok (.iload 4, 2) := by decide +kernel
theorem dX7_passing_62 : decode cX7_passing 62 = .ok (.ireturn, 1) := by decide +kernel
theorem dX7_pushes_0 : decode cX7_pushes 0 = .ok (.aload_n 0, 1) := by decide +kernel
theorem dX7_pushes_1 : decode cX7_pushes 1 = .ok (.getfield 44, 3) := by decide +kernel
theorem dX7_pushes_4 : decode cX7_pushes 4 = .ok (.bipush 6, 2) := by decide +kernel
theorem dX7_pushes_6 : decode cX7_pushes 6 = .ok (.if_icmp .ne 44, 3) := by decide +kernel
theorem dX7_pushes_9 : decode cX7_pushes 9 = .ok (.iconst 0, 1) := by decide +kernel
theorem dX7_pushes_10 : decode cX7_pushes 10 = .ok (.istore_n 1, 1) := by decide +kernel
theorem dX7_pushes_11 : decode cX7_pushes 11 = .ok (.iload_n 1, 1) := by decide +kernel
theorem dX7_pushes_12 : decode cX7_pushes 12 = .ok (.sipush 1460, 3) := by decide +kernel
theorem dX7_pushes_15 : decode cX7_pushes 15 = .ok (.if_icmp .ge 25, 3) := by decide +kernel
theorem dX7_pushes_18 : decode cX7_pushes 18 = .ok (.aload_n 0, 1) := by decide +kernel
theorem dX7_pushes_19 : decode cX7_pushes 19 = .ok (.getfield 13, 3) := by decide +kernel
theorem dX7_pushes_22 : decode cX7_pushes 22 = .ok (.iload_n 1, 1) := by decide +kernel
theorem dX7_pushes_23 : decode cX7_pushes 23 = .ok (.aload_n 0, 1) := by decide +kernel
theorem dX7_pushes_24 : decode cX7_pushes 24 = .ok (.getfield 13, 3) := by decide +kernel
theorem dX7_pushes_27 : decode cX7_pushes 27 = .ok (.iload_n 1, 1) := by decide +kernel
theorem dX7_pushes_28 : decode cX7_pushes 28 = .ok (.sipush 292, 3) := by decide +kernel
theorem dX7_pushes_31 : decode cX7_pushes 31 = .ok (.iadd, 1) := by decide +kernel
theorem dX7_pushes_32 : decode cX7_pushes 32 = .ok (.iaload, 1) := by decide +kernel
theorem dX7_pushes_33 : decode cX7_pushes 33 = .ok (.iastore, 1) := by decide +kernel
theorem dX7_pushes_34 : decode cX7_pushes 34 = .ok (.iinc 1 1, 3) := by decide +kernel
theorem dX7_pushes_37 : decode cX7_pushes 37 = .ok (.goto (-26), 3) := by decide +kernel
theorem dX7_pushes_40 : decode cX7_pushes 40 = .ok (.aload_n 0, 1) := by decide +kernel
theorem dX7_pushes_41 : decode cX7_pushes 41 = .ok (.dup, 1) := by decide +kernel
theorem dX7_pushes_42 : decode cX7_pushes 42 = .ok (.getfield 44, 3) := by decide +kernel
theorem dX7_pushes_45 : decode cX7_pushes 45 = .ok (.iconst 1, 1) := by decide +kernel
theorem dX7_pushes_46 : decode cX7_pushes 46 = .ok (.isub, 1) := by decide +kernel
theorem dX7_pushes_47 : decode cX7_pushes 47 = .ok (.putfield 44, 3) := by decide +kernel
theorem dX7_pushes_50 : decode cX7_pushes 50 = .ok (.iconst 0, 1) := by decide +kernel
theorem dX7_pushes_51 : decode cX7_pushes 51 = .ok (.istore_n 1, 1) := by decide +kernel
theorem dX7_pushes_52 : decode cX7_pushes 52 = .ok (.iload_n 1, 1) := by decide +kernel
theorem dX7_pushes_53 : decode cX7_pushes 53 = .ok (.sipush 292, 3) := by decide +kernel
theorem dX7_pushes_56 : decode cX7_pushes 56 = .ok (.if_icmp .ge 30, 3) := by decide +kernel
theorem dX7_pushes_59 : decode cX7_pushes 59 = .ok (.aload_n 0, 1) := by decide +kernel
theorem dX7_pushes_60 : decode cX7_pushes 60 = .ok (.getfield 13, 3) := by decide +kernel
theorem dX7_pushes_63 : decode cX7_pushes 63 = .ok (.sipush 292, 3) := by decide +kernel
theorem dX7_pushes_66 : decode cX7_pushes 66 = .ok (.aload_n 0, 1) := by decide +kernel
theorem dX7_pushes_67 : decode cX7_pushes 67 = .ok (.getfield 44, 3) := by decide +kernel
theorem dX7_pushes_70 : decode cX7_pushes 70 = .ok (.imul, 1) := by decide +kernel
theorem dX7_pushes_71 : decode cX7_pushes 71 = .ok (.iload_n 1, 1) := by decide +kernel
theorem dX7_pushes_72 : decode cX7_pushes 72 = .ok (.iadd, 1) := by decide +kernel
theorem dX7_pushes_73 : decode cX7_pushes 73 = .ok (.aload_n 0, 1) := by decide +kernel
theorem dX7_pushes_74 : decode cX7_pushes 74 = .ok (.getfield 26, 3) := by decide +kernel
theorem dX7_pushes_77 : decode cX7_pushes 77 = .ok (.iload_n 1, 1) := by decide +kernel
theorem dX7_pushes_78 : decode cX7_pushes 78 = .ok (.iaload, 1) := by decide +kernel
theorem dX7_pushes_79 : decode cX7_pushes 79 = .ok (.iastore, 1) := by decide +kernel
theorem dX7_pushes_80 : decode cX7_pushes 80 = .ok (.iinc 1 1, 3) := by decide +kernel
theorem dX7_pushes_83 : decode cX7_pushes 83 = .ok (.goto (-31), 3) := by decide +kernel
theorem dX7_pushes_86 : decode cX7_pushes 86 = .ok (.aload_n 0, 1) := by decide +kernel
theorem dX7_pushes_87 : decode cX7_pushes 87 = .ok (.dup, 1) := by decide +kernel
theorem dX7_pushes_88 : decode cX7_pushes 88 = .ok (.getfield 44, 3) := by decide +kernel
theorem dX7_pushes_91 : decode cX7_pushes 91 = .ok (.iconst 1, 1) := by decide +kernel
theorem dX7_pushes_92 : decode cX7_pushes 92 = .ok (.iadd, 1) := by decide +kernel
theorem dX7_pushes_93 : decode cX7_pushes 93 = .ok (.putfield 44, 3) := by decide +kernel
theorem dX7_pushes_96 : decode cX7_pushes 96 = .ok (.return_, 1) := by decide +kernel
theorem dX7_put_0 : decode cX7_put 0 = .ok (.iconst 0, 1) := by decide +kernel
theorem dX7_put_1 : decode cX7_put 1 = .ok (.istore_n 3, 1) := by decide +kernel
theorem dX7_put_2 : decode cX7_put 2 = .ok (.iconst 0, 1) := by decide +kernel
theorem dX7_put_3 : decode cX7_put 3 = .ok (.istore 4, 2) := by decide +kernel
theorem dX7_put_5 : decode cX7_put 5 = .ok (.iconst 0, 1) := by decide +kernel
theorem dX7_put_6 : decode cX7_put 6 = .ok (.istore 5, 2) := by decide +kernel
theorem dX7_put_8 : decode cX7_put 8 = .ok (.iload 5, 2) := by decide +kernel
theorem dX7_put_10 : decode cX7_put 10 = .ok (.bipush 8, 2) := by decide +kernel
theorem dX7_put_12 : decode cX7_put 12 = .ok (.if_icmp .ge 89, 3) := by decide +kernel
theorem dX7_put_15 : decode cX7_put 15 = .ok (.lload_n 1, 1) := by decide +kernel
theorem dX7_put_16 : decode cX7_put 16 = .ok (.bipush 8, 2) := by decide +kernel
theorem dX7_put_18 : decode cX7_put 18 = .ok (.iload 5, 2) := by decide +kernel
theorem dX7_put_20 : decode cX7_put 20 = .ok (.imul, 1) := by decide +kernel
theorem dX7_put_21 : decode cX7_put 21 = .ok (.lushr, 1) := by decide +kernel
theorem dX7_put_22 : decode cX7_put 22 = .ok (.ldc2_w 157, 3) := by decide +kernel
theorem dX7_put_25 : decode cX7_put 25 = .ok (.land, 1) := by decide +kernel
theorem dX7_put_26 : decode cX7_put 26 = .ok (.l2i, 1) := by decide +kernel
theorem dX7_put_27 : decode cX7_put 27 = .ok (.istore 6, 2) := by decide +kernel
theorem dX7_put_29 : decode cX7_put 29 = .ok (.iload 5, 2) := by decide +kernel
theorem dX7_put_31 : decode cX7_put 31 = .ok (.ifCond .le 19, 3) := by decide +kernel
theorem dX7_put_34 : decode cX7_put 34 = .ok (.lload_n 1, 1) := by decide +kernel
theorem dX7_put_35 : decode cX7_put 35 = .ok (.bipush 8, 2) := by decide +kernel
theorem dX7_put_37 : decode cX7_put 37 = .ok (.iload 5, 2) := by decide +kernel
theorem dX7_put_39 : decode cX7_put 39 = .ok (.imul, 1) := by decide +kernel
theorem dX7_put_40 : decode cX7_put 40 = .ok (.lushr, 1) := by decide +kernel
theorem dX7_put_41 : decode cX7_put 41 = .ok (.lconst 0, 1) := by decide +kernel
theorem dX7_put_42 : decode cX7_put 42 = .ok (.lcmp, 1) := by decide +kernel
theorem dX7_put_43 : decode cX7_put 43 = .ok (.ifCond .ne 7, 3) := by decide +kernel
theorem dX7_put_46 : decode cX7_put 46 = .ok (.iconst 1, 1) := by decide +kernel
theorem dX7_put_47 : decode cX7_put 47 = .ok (.goto 4, 3) := by decide +kernel
theorem dX7_put_50 : decode cX7_put 50 = .ok (.iconst 0, 1) := by decide +kernel
theorem dX7_put_51 : decode cX7_put 51 = .ok (.istore 7, 2) := by decide +kernel
theorem dX7_put_53 : decode cX7_put 53 = .ok (.iload 4, 2) := by decide +kernel
theorem dX7_put_55 : decode cX7_put 55 = .ok (.ifCond .ne 20, 3) := by decide +kernel
theorem dX7_put_58 : decode cX7_put 58 = .ok (.iload 7, 2) := by decide +kernel
theorem dX7_put_60 : decode cX7_put 60 = .ok (.ifCond .ne 19, 3) := by decide +kernel
theorem dX7_put_63 : decode cX7_put 63 = .ok (.iload 6, 2) := by decide +kernel
theorem dX7_put_65 : decode cX7_put 65 = .ok (.bipush 33, 2) := by decide +kernel
theorem dX7_put_67 : decode cX7_put 67 = .ok (.bipush 126, 2) := by decide +kernel
theorem dX7_put_69 : decode cX7_put 69 = .ok (.invokestatic 32, 3) := by decide +kernel
theorem dX7_put_72 : decode cX7_put 72 = .ok (.ifCond .ne 7, 3) := by decide +kernel
theorem dX7_put_75 : decode cX7_put 75 = .ok (.iconst 1, 1) := by decide +kernel
theorem dX7_put_76 : decode cX7_put 76 = .ok (.goto 4, 3) := by decide +kernel
theorem dX7_put_79 : decode cX7_put 79 = .ok (.iconst 0, 1) := by decide +kernel
theorem dX7_put_80 : decode cX7_put 80 = .ok (.istore 4, 2) := by decide +kernel
theorem dX7_put_82 : decode cX7_put 82 = .ok (.iload_n 3, 1) := by decide +kernel
theorem dX7_put_83 : decode cX7_put 83 = .ok (.iload 7, 2) := by decide +kernel
theorem dX7_put_85 : decode cX7_put 85 = .ok (.ifCond .eq 7, 3) := by decide +kernel
theorem dX7_put_88 : decode cX7_put 88 = .ok (.iconst 0, 1) := by decide +kernel
theorem dX7_put_89 : decode cX7_put 89 = .ok (.goto 4, 3) := by decide +kernel
theorem dX7_put_92 : decode cX7_put 92 = .ok (.iconst 1, 1) := by decide +kernel
theorem dX7_put_93 : decode cX7_put 93 = .ok (.iadd, 1) := by decide +kernel
theorem dX7_put_94 : decode cX7_put 94 = .ok (.istore_n 3, 1) := by decide +kernel
theorem dX7_put_95 : decode cX7_put 95 = .ok (.iinc 5 1, 3) := by decide +kernel
theorem dX7_put_98 : decode cX7_put 98 = .ok (.goto (-90), 3) := by decide +kernel
theorem dX7_put_101 : decode cX7_put 101 = .ok (.iload 4, 2) := by decide +kernel
theorem dX7_put_103 : decode cX7_put 103 = .ok (.ifCond .eq 6, 3) := by decide +kernel
theorem dX7_put_106 : decode cX7_put 106 = .ok (.bipush (-2), 2) := by decide +kernel
theorem dX7_put_108 : decode cX7_put 108 = .ok (.ireturn, 1) := by decide +kernel
theorem dX7_put_109 : decode cX7_put 109 = .ok (.aload_n 0, 1) := by decide +kernel
theorem dX7_put_110 : decode cX7_put 110 = .ok (.getfield 151, 3) := by decide +kernel
theorem dX7_put_113 : decode cX7_put 113 = .ok (.iload_n 3, 1) := by decide +kernel
theorem dX7_put_114 : decode cX7_put 114 = .ok (.iadd, 1) := by decide +kernel
theorem dX7_put_115 : decode cX7_put 115 = .ok (.bipush 80, 2) := by decide +kernel
theorem dX7_put_117 : decode cX7_put 117 = .ok (.if_icmp .le 6, 3) := by decide +kernel
theorem dX7_put_120 : decode cX7_put 120 = .ok (.bipush (-4), 2) := by decide +kernel
theorem dX7_put_122 : decode cX7_put 122 = .ok (.ireturn, 1) := by decide +kernel
theorem dX7_put_123 : decode cX7_put 123 = .ok (.iconst 0, 1) := by decide +kernel
theorem dX7_put_124 : decode cX7_put 124 = .ok (.istore 5, 2) := by decide +kernel
theorem dX7_put_126 : decode cX7_put 126 = .ok (.iload 5, 2) := by decide +kernel
theorem dX7_put_128 : decode cX7_put 128 = .ok (.iload_n 3, 1) := by decide +kernel
theorem dX7_put_129 : decode cX7_put 129 = .ok (.if_icmp .ge 37, 3) := by decide +kernel
theorem dX7_put_132 : decode cX7_put 132 = .ok (.aload_n 0, 1) := by decide +kernel
theorem dX7_put_133 : decode cX7_put 133 = .ok (.getfield 23, 3) := by decide +kernel
theorem dX7_put_136 : decode cX7_put 136 = .ok (.aload_n 0, 1) := by decide +kernel
theorem dX7_put_137 : decode cX7_put 137 = .ok (.getfield 151, 3) := by decide +kernel
theorem dX7_put_140 : decode cX7_put 140 = .ok (.iload_n 3, 1) := by decide +kernel
theorem dX7_put_141 : decode cX7_put 141 = .ok (.iadd, 1) := by decide +kernel
theorem dX7_put_142 : decode cX7_put 142 = .ok (.iconst 1, 1) := by decide +kernel
theorem dX7_put_143 : decode cX7_put 143 = .ok (.isub, 1) := by decide +kernel
theorem dX7_put_144 : decode cX7_put 144 = .ok (.iload 5, 2) := by decide +kernel
theorem dX7_put_146 : decode cX7_put 146 = .ok (.isub, 1) := by decide +kernel
theorem dX7_put_147 : decode cX7_put 147 = .ok (.lload_n 1, 1) := by decide +kernel
theorem dX7_put_148 : decode cX7_put 148 = .ok (.bipush 8, 2) := by decide +kernel
theorem dX7_put_150 : decode cX7_put 150 = .ok (.iload 5, 2) := by decide +kernel
theorem dX7_put_152 : decode cX7_put 152 = .ok (.imul, 1) := by decide +kernel
theorem dX7_put_153 : decode cX7_put 153 = .ok (.lushr, 1) := by decide +kernel
theorem dX7_put_154 : decode cX7_put 154 = .ok (.ldc2_w 157, 3) := by decide +kernel
theorem dX7_put_157 : decode cX7_put 157 = .ok (.land, 1) := by decide +kernel
theorem dX7_put_158 : decode cX7_put 158 = .ok (.l2i, 1) := by decide +kernel
theorem dX7_put_159 : decode cX7_put 159 = .ok (.iastore, 1) := by decide +kernel
theorem dX7_put_160 : decode cX7_put 160 = .ok (.iinc 5 1, 3) := by decide +kernel
theorem dX7_put_163 : decode cX7_put 163 = .ok (.goto (-37), 3) := by decide +kernel
theorem dX7_put_166 : decode cX7_put 166 = .ok (.aload_n 0, 1) := by decide +kernel
theorem dX7_put_167 : decode cX7_put 167 = .ok (.dup, 1) := by decide +kernel
theorem dX7_put_168 : decode cX7_put 168 = .ok (.getfield 151, 3) := by decide +kernel
theorem dX7_put_171 : decode cX7_put 171 = .ok (.iload_n 3, 1) := by decide +kernel
theorem dX7_put_172 : decode cX7_put 172 = .ok (.iadd, 1) := by decide +kernel
theorem dX7_put_173 : decode cX7_put 173 = .ok (.putfield 151, 3) := by decide +kernel
theorem dX7_put_176 : decode cX7_put 176 = .ok (.aload_n 0, 1) := by decide +kernel
theorem dX7_put_177 : decode cX7_put 177 = .ok (.getfield 151, 3) := by decide +kernel
theorem dX7_put_180 : decode cX7_put 180 = .ok (.ireturn, 1) := by decide +kernel
theorem dX7_rankOf_0 : decode cX7_rankOf 0 = .ok (.bipush (-6), 2) := by decide +kernel
theorem dX7_rankOf_2 : decode cX7_rankOf 2 = .ok (.istore_n 3, 1) := by decide +kernel
theorem dX7_rankOf_3 : decode cX7_rankOf 3 = .ok (.iconst 0, 1) := by decide +kernel
theorem dX7_rankOf_4 : decode cX7_rankOf 4 = .ok (.istore 4, 2) := by decide +kernel
theorem dX7_rankOf_6 : decode cX7_rankOf 6 = .ok (.iload 4, 2) := by decide +kernel
theorem dX7_rankOf_8 : decode cX7_rankOf 8 = .ok (.aload_n 0, 1) := by decide +kernel
theorem dX7_rankOf_9 : decode cX7_rankOf 9 = .ok (.getfield 7, 3) := by decide +kernel
theorem dX7_rankOf_12 : decode cX7_rankOf 12 = .ok (.iload_n 1, 1) := by decide +kernel
theorem dX7_rankOf_13 : decode cX7_rankOf 13 = .ok (.iconst 0, 1) := by decide +kernel
theorem dX7_rankOf_14 : decode cX7_rankOf 14 = .ok (.invokestatic 36, 3) := by decide +kernel
theorem dX7_rankOf_17 : decode cX7_rankOf 17 = .ok (.iaload, 1) := by decide +kernel
theorem dX7_rankOf_18 : decode cX7_rankOf 18 = .ok (.if_icmp .gt 32, 3) := by decide +kernel
theorem dX7_rankOf_21 : decode cX7_rankOf 21 = .ok (.aload_n 0, 1) := by decide +kernel
theorem dX7_rankOf_22 : decode cX7_rankOf 22 = .ok (.getfield 7, 3) := by decide +kernel
theorem dX7_rankOf_25 : decode cX7_rankOf 25 = .ok (.iload_n 1, 1) := by decide +kernel
theorem dX7_rankOf_26 : decode cX7_rankOf 26 = .ok (.iload 4, 2) := by decide +kernel
theorem dX7_rankOf_28 : decode cX7_rankOf 28 = .ok (.iconst 0, 1) := by decide +kernel
theorem dX7_rankOf_29 : decode cX7_rankOf 29 = .ok (.invokestatic 40, 3) := by decide +kernel
theorem dX7_rankOf_32 : decode cX7_rankOf 32 = .ok (.iaload, 1) := by decide +kernel
theorem dX7_rankOf_33 : decode cX7_rankOf 33 = .ok (.iload_n 2, 1) := by decide +kernel
theorem dX7_rankOf_34 : decode cX7_rankOf 34 = .ok (.if_icmp .ne 8, 3) := by decide +kernel
theorem dX7_rankOf_37 : decode cX7_rankOf 37 = .ok (.iload 4, 2) := by decide +kernel
theorem dX7_rankOf_39 : decode cX7_rankOf 39 = .ok (.goto 4, 3) := by decide +kernel
theorem dX7_rankOf_42 : decode cX7_rankOf 42 = .ok (.iload_n 3, 1) := by decide +kernel
theorem dX7_rankOf_43 : decode cX7_rankOf 43 = .ok (.istore_n 3, 1) := by decide +kernel
theorem dX7_rankOf_44 : decode cX7_rankOf 44 = .ok (.iinc 4 1, 3) := by decide +kernel
theorem dX7_rankOf_47 : decode cX7_rankOf 47 = .ok (.goto (-41), 3) := by decide +kernel
theorem dX7_rankOf_50 : decode cX7_rankOf 50 = .ok (.iload_n 3, 1) := by decide +kernel
theorem dX7_rankOf_51 : decode cX7_rankOf 51 = .ok (.ireturn, 1) := by decide +kernel
theorem dX7_readOrder_0 : decode cX7_readOrder 0 = .ok (.aload_n 0, 1) := by decide +kernel
theorem dX7_readOrder_1 : decode cX7_readOrder 1 = .ok (.getfield 163, 3) := by decide +kernel
theorem dX7_readOrder_4 : decode cX7_readOrder 4 = .ok (.aload_n 0, 1) := by decide +kernel
theorem dX7_readOrder_5 : decode cX7_readOrder 5 = .ok (.getfield 151, 3) := by decide +kernel
theorem dX7_readOrder_8 : decode cX7_readOrder 8 = .ok (.if_icmp .ge 15, 3) := by decide +kernel
theorem dX7_readOrder_11 : decode cX7_readOrder 11 = .ok (.aload_n 0, 1) := by decide +kernel
theorem dX7_readOrder_12 : decode cX7_readOrder 12 = .ok (.getfield 23, 3) := by decide +kernel
theorem dX7_readOrder_15 : decode cX7_readOrder 15 = .ok (.aload_n 0, 1) := by decide +kernel
theorem dX7_readOrder_16 : decode cX7_readOrder 16 = .ok (.getfield 163, 3) := by decide +kernel
theorem dX7_readOrder_19 : decode cX7_readOrder 19 = .ok (.iaload, 1) := by decide +kernel
theorem dX7_readOrder_20 : decode cX7_readOrder 20 = .ok (.goto 4, 3) := by decide +kernel
theorem dX7_readOrder_23 : decode cX7_readOrder 23 = .ok (.iconst 0, 1) := by decide +kernel
theorem dX7_readOrder_24 : decode cX7_readOrder 24 = .ok (.istore_n 1, 1) := by decide +kernel
theorem dX7_readOrder_25 : decode cX7_readOrder 25 = .ok (.iload_n 1, 1) := by decide +kernel
theorem dX7_readOrder_26 : decode cX7_readOrder 26 = .ok (.bipush 107, 2) := by decide +kernel
theorem dX7_readOrder_28 : decode cX7_readOrder 28 = .ok (.if_icmp .eq 45, 3) := by decide +kernel
theorem dX7_readOrder_31 : decode cX7_readOrder 31 = .ok (.iload_n 1, 1) := by decide +kernel
theorem dX7_readOrder_32 : decode cX7_readOrder 32 = .ok (.bipush 114, 2) := by decide +kernel
theorem dX7_readOrder_34 : decode cX7_readOrder 34 = .ok (.if_icmp .eq 39, 3) := by decide +kernel
theorem dX7_readOrder_37 : decode cX7_readOrder 37 = .ok (.iload_n 1, 1) := by decide +kernel
theorem dX7_readOrder_38 : decode cX7_readOrder 38 = .ok (.bipush 117, 2) := by decide +kernel
theorem dX7_readOrder_40 : decode cX7_readOrder 40 = .ok (.if_icmp .eq 33, 3) := by decide +kernel
theorem dX7_readOrder_43 : decode cX7_readOrder 43 = .ok (.iload_n 1, 1) := by decide +kernel
theorem dX7_readOrder_44 : decode cX7_readOrder 44 = .ok (.bipush 109, 2) := by decide +kernel
theorem dX7_readOrder_46 : decode cX7_readOrder 46 = .ok (.if_icmp .eq 27, 3) := by decide +kernel
theorem dX7_readOrder_49 : decode cX7_readOrder 49 = .ok (.iload_n 1, 1) := by decide +kernel
theorem dX7_readOrder_50 : decode cX7_readOrder 50 = .ok (.bipush 122, 2) := by decide +kernel
theorem dX7_readOrder_52 : decode cX7_readOrder 52 = .ok (.if_icmp .eq 21, 3) := by decide +kernel
theorem dX7_readOrder_55 : decode cX7_readOrder 55 = .ok (.iload_n 1, 1) := by decide +kernel
theorem dX7_readOrder_56 : decode cX7_readOrder 56 = .ok (.bipush 108, 2) := by decide +kernel
theorem dX7_readOrder_58 : decode cX7_readOrder 58 = .ok (.if_icmp .eq 15, 3) := by decide +kernel
theorem dX7_readOrder_61 : decode cX7_readOrder 61 = .ok (.iload_n 1, 1) := by decide +kernel
theorem dX7_readOrder_62 : decode cX7_readOrder 62 = .ok (.bipush 116, 2) := by decide +kernel
theorem dX7_readOrder_64 : decode cX7_readOrder 64 = .ok (.if_icmp .eq 9, 3) := by decide +kernel
theorem dX7_readOrder_67 : decode cX7_readOrder 67 = .ok (.iload_n 1, 1) := by decide +kernel
theorem dX7_readOrder_68 : decode cX7_readOrder 68 = .ok (.bipush 98, 2) := by decide +kernel
theorem dX7_readOrder_70 : decode cX7_readOrder 70 = .ok (.if_icmp .ne 7, 3) := by decide +kernel
theorem dX7_readOrder_73 : decode cX7_readOrder 73 = .ok (.iconst 1, 1) := by decide +kernel
theorem dX7_readOrder_74 : decode cX7_readOrder 74 = .ok (.goto 4, 3) := by decide +kernel
theorem dX7_readOrder_77 : decode cX7_readOrder 77 = .ok (.iconst 0, 1) := by decide +kernel
theorem dX7_readOrder_78 : decode cX7_readOrder 78 = .ok (.istore_n 2, 1) := by decide +kernel
theorem dX7_readOrder_79 : decode cX7_readOrder 79 = .ok (.aload_n 0, 1) := by decide +kernel
theorem dX7_readOrder_80 : decode cX7_readOrder 80 = .ok (.aload_n 0, 1) := by decide +kernel
theorem dX7_readOrder_81 : decode cX7_readOrder 81 = .ok (.getfield 159, 3) := by decide +kernel
theorem dX7_readOrder_84 : decode cX7_readOrder 84 = .ok (.ifCond .ne 7, 3) := by decide +kernel
theorem dX7_readOrder_87 : decode cX7_readOrder 87 = .ok (.iload_n 2, 1) := by decide +kernel
theorem dX7_readOrder_88 : decode cX7_readOrder 88 = .ok (.ifCond .ne 7, 3) := by decide +kernel
theorem dX7_readOrder_91 : decode cX7_readOrder 91 = .ok (.iconst 1, 1) := by decide +kernel
theorem dX7_readOrder_92 : decode cX7_readOrder 92 = .ok (.goto 4, 3) := by decide +kernel
theorem dX7_readOrder_95 : decode cX7_readOrder 95 = .ok (.iconst 0, 1) := by decide +kernel
theorem dX7_readOrder_96 : decode cX7_readOrder 96 = .ok (.putfield 159, 3) := by decide +kernel
theorem dX7_readOrder_99 : decode cX7_readOrder 99 = .ok (.aload_n 0, 1) := by decide +kernel
theorem dX7_readOrder_100 : decode cX7_readOrder 100 = .ok (.dup, 1) := by decide +kernel
theorem dX7_readOrder_101 : decode cX7_readOrder 101 = .ok (.getfield 163, 3) := by decide +kernel
theorem dX7_readOrder_104 : decode cX7_readOrder 104 = .ok (.aload_n 0, 1) := by decide +kernel
theorem dX7_readOrder_105 : decode cX7_readOrder 105 = .ok (.getfield 159, 3) := by decide +kernel
theorem dX7_readOrder_108 : decode cX7_readOrder 108 = .ok (.ifCond .eq 7, 3) := by decide +kernel
theorem dX7_readOrder_111 : decode cX7_readOrder 111 = .ok (.iconst 0, 1) := by decide +kernel
theorem dX7_readOrder_112 : decode cX7_readOrder 112 = .ok (.goto 4, 3) := by decide +kernel
theorem dX7_readOrder_115 : decode cX7_readOrder 115 = .ok (.iconst 1, 1) := by decide +kernel
theorem dX7_readOrder_116 : decode cX7_readOrder 116 = .ok (.iadd, 1) := by decide +kernel
theorem dX7_readOrder_117 : decode cX7_readOrder 117 = .ok (.putfield 163, 3) := by decide +kernel
theorem dX7_readOrder_120 : decode cX7_readOrder 120 = .ok (.aload_n 0, 1) := by decide +kernel
theorem dX7_readOrder_121 : decode cX7_readOrder 121 = .ok (.getfield 29, 3) := by decide +kernel
theorem dX7_readOrder_124 : decode cX7_readOrder 124 = .ok (.iconst 0, 1) := by decide +kernel
theorem dX7_readOrder_125 : decode cX7_readOrder 125 = .ok (.iload_n 1, 1) := by decide +kernel
theorem dX7_readOrder_126 : decode cX7_readOrder 126 = .ok (.iastore, 1) := by decide +kernel
theorem dX7_readOrder_127 : decode cX7_readOrder 127 = .ok (.aload_n 0, 1) := by decide +kernel
theorem dX7_readOrder_128 : decode cX7_readOrder 128 = .ok (.getfield 29, 3) := by decide +kernel
theorem dX7_readOrder_131 : decode cX7_readOrder 131 = .ok (.iconst 1, 1) := by decide +kernel
theorem dX7_readOrder_132 : decode cX7_readOrder 132 = .ok (.iload_n 1, 1) := by decide +kernel
theorem dX7_readOrder_133 : decode cX7_readOrder 133 = .ok (.bipush 122, 2) := by decide +kernel
theorem dX7_readOrder_135 : decode cX7_readOrder 135 = .ok (.if_icmp .eq 15, 3) := by decide +kernel
theorem dX7_readOrder_138 : decode cX7_readOrder 138 = .ok (.iload_n 1, 1) := by decide +kernel
theorem dX7_readOrder_139 : decode cX7_readOrder 139 = .ok (.bipush 108, 2) := by decide +kernel
theorem dX7_readOrder_141 : decode cX7_readOrder 141 = .ok (.if_icmp .eq 9, 3) := by decide +kernel
theorem dX7_readOrder_144 : decode cX7_readOrder 144 = .ok (.iload_n 1, 1) := by decide +kernel
theorem dX7_readOrder_145 : decode cX7_readOrder 145 = .ok (.bipush 116, 2) := by decide +kernel
theorem dX7_readOrder_147 : decode cX7_readOrder 147 = .ok (.if_icmp .ne 14, 3) := by decide +kernel
theorem dX7_readOrder_150 : decode cX7_readOrder 150 = .ok (.aload_n 0, 1) := by decide +kernel
theorem dX7_readOrder_151 : decode cX7_readOrder 151 = .ok (.bipush 97, 2) := by decide +kernel
theorem dX7_readOrder_153 : decode cX7_readOrder 153 = .ok (.bipush 98, 2) := by decide +kernel
theorem dX7_readOrder_155 : decode cX7_readOrder 155 = .ok (.invokevirtual 166, 3) := by decide +kernel
theorem dX7_readOrder_158 : decode cX7_readOrder 158 = .ok (.goto 30, 3) := by decide +kernel
theorem dX7_readOrder_161 : decode cX7_readOrder 161 = .ok (.iload_n 1, 1) := by decide +kernel
theorem dX7_readOrder_162 : decode cX7_readOrder 162 = .ok (.bipush 107, 2) := by decide +kernel
theorem dX7_readOrder_164 : decode cX7_readOrder 164 = .ok (.if_icmp .eq 9, 3) := by decide +kernel
theorem dX7_readOrder_167 : decode cX7_readOrder 167 = .ok (.iload_n 1, 1) := by decide +kernel
theorem dX7_readOrder_168 : decode cX7_readOrder 168 = .ok (.bipush 98, 2) := by decide +kernel
theorem dX7_readOrder_170 : decode cX7_readOrder 170 = .ok (.if_icmp .ne 10, 3) := by decide +kernel
theorem dX7_readOrder_173 : decode cX7_readOrder 173 = .ok (.aload_n 0, 1) := by decide +kernel
theorem dX7_readOrder_174 : decode cX7_readOrder 174 = .ok (.invokevirtual 172, 3) := by decide +kernel
theorem dX7_readOrder_177 : decode cX7_readOrder 177 = .ok (.goto 11, 3) := by decide +kernel
theorem dX7_readOrder_180 : decode cX7_readOrder 180 = .ok (.aload_n 0, 1) := by decide +kernel
theorem dX7_readOrder_181 : decode cX7_readOrder 181 = .ok (.bipush 48, 2) := by decide +kernel
theorem dX7_readOrder_183 : decode cX7_readOrder 183 = .ok (.bipush 57, 2) := by decide +kernel
theorem dX7_readOrder_185 : decode cX7_readOrder 185 = .ok (.invokevirtual 166, 3) := by decide +kernel
theorem dX7_readOrder_188 : decode cX7_readOrder 188 = .ok (.iastore, 1) := by decide +kernel
theorem dX7_readOrder_189 : decode cX7_readOrder 189 = .ok (.aload_n 0, 1) := by decide +kernel
theorem dX7_readOrder_190 : decode cX7_readOrder 190 = .ok (.getfield 29, 3) := by decide +kernel
theorem dX7_readOrder_193 : decode cX7_readOrder 193 = .ok (.iconst 2, 1) := by decide +kernel
theorem dX7_readOrder_194 : decode cX7_readOrder 194 = .ok (.iload_n 1, 1) := by decide +kernel
theorem dX7_readOrder_195 : decode cX7_readOrder 195 = .ok (.bipush 108, 2) := by decide +kernel
theorem dX7_readOrder_197 : decode cX7_readOrder 197 = .ok (.if_icmp .eq 9, 3) := by decide +kernel
theorem dX7_readOrder_200 : decode cX7_readOrder 200 = .ok (.iload_n 1, 1) := by decide +kernel
theorem dX7_readOrder_201 : decode cX7_readOrder 201 = .ok (.bipush 116, 2) := by decide +kernel
theorem dX7_readOrder_203 : decode cX7_readOrder 203 = .ok (.if_icmp .ne 14, 3) := by decide +kernel
theorem dX7_readOrder_206 : decode cX7_readOrder 206 = .ok (.aload_n 0, 1) := by decide +kernel
theorem dX7_readOrder_207 : decode cX7_readOrder 207 = .ok (.bipush 48, 2) := by decide +kernel
theorem dX7_readOrder_209 : decode cX7_readOrder 209 = .ok (.bipush 57, 2) := by decide +kernel
theorem dX7_readOrder_211 : decode cX7_readOrder 211 = .ok (.invokevirtual 166, 3) := by decide +kernel
theorem dX7_readOrder_214 : decode cX7_readOrder 214 = .ok (.goto 4, 3) := by decide +kernel
theorem dX7_readOrder_217 : decode cX7_readOrder 217 = .ok (.iconst 0, 1) := by decide +kernel
theorem dX7_readOrder_218 : decode cX7_readOrder 218 = .ok (.iastore, 1) := by decide +kernel
theorem dX7_readOrder_219 : decode cX7_readOrder 219 = .ok (.aload_n 0, 1) := by decide +kernel
theorem dX7_readOrder_220 : decode cX7_readOrder 220 = .ok (.getfield 29, 3) := by decide +kernel
theorem dX7_readOrder_223 : decode cX7_readOrder 223 = .ok (.iconst 3, 1) := by decide +kernel
theorem dX7_readOrder_224 : decode cX7_readOrder 224 = .ok (.iconst 0, 1) := by decide +kernel
theorem dX7_readOrder_225 : decode cX7_readOrder 225 = .ok (.iastore, 1) := by decide +kernel
theorem dX7_readOrder_226 : decode cX7_readOrder 226 = .ok (.aload_n 0, 1) := by decide +kernel
theorem dX7_readOrder_227 : decode cX7_readOrder 227 = .ok (.getfield 29, 3) := by decide +kernel
theorem dX7_readOrder_230 : decode cX7_readOrder 230 = .ok (.iconst 4, 1) := by decide +kernel
theorem dX7_readOrder_231 : decode cX7_readOrder 231 = .ok (.iconst 0, 1) := by decide +kernel
theorem dX7_readOrder_232 : decode cX7_readOrder 232 = .ok (.iastore, 1) := by decide +kernel
theorem dX7_readOrder_233 : decode cX7_readOrder 233 = .ok (.iload_n 1, 1) := by decide +kernel
theorem dX7_readOrder_234 : decode cX7_readOrder 234 = .ok (.bipush 108, 2) := by decide +kernel
theorem dX7_readOrder_236 : decode cX7_readOrder 236 = .ok (.if_icmp .ne 38, 3) := by decide +kernel
theorem dX7_readOrder_239 : decode cX7_readOrder 239 = .ok (.aload_n 0, 1) := by decide +kernel
theorem dX7_readOrder_240 : decode cX7_readOrder 240 = .ok (.bipush 43, 2) := by decide +kernel
theorem dX7_readOrder_242 : decode cX7_readOrder 242 = .ok (.bipush 43, 2) := by decide +kernel
theorem dX7_readOrder_244 : decode cX7_readOrder 244 = .ok (.invokevirtual 166, 3) := by decide +kernel
theorem dX7_readOrder_247 : decode cX7_readOrder 247 = .ok (.istore_n 3, 1) := by decide +kernel
theorem dX7_readOrder_248 : decode cX7_readOrder 248 = .ok (.aload_n 0, 1) := by decide +kernel
theorem dX7_readOrder_249 : decode cX7_readOrder 249 = .ok (.getfield 29, 3) := by decide +kernel
theorem dX7_readOrder_252 : decode cX7_readOrder 252 = .ok (.iconst 3, 1) := by decide +kernel
theorem dX7_readOrder_253 : decode cX7_readOrder 253 = .ok (.aload_n 0, 1) := by decide +kernel
theorem dX7_readOrder_254 : decode cX7_readOrder 254 = .ok (.invokevirtual 172, 3) := by decide +kernel
theorem dX7_readOrder_257 : decode cX7_readOrder 257 = .ok (.iastore, 1) := by decide +kernel
theorem dX7_readOrder_258 : decode cX7_readOrder 258 = .ok (.aload_n 0, 1) := by decide +kernel
theorem dX7_readOrder_259 : decode cX7_readOrder 259 = .ok (.getfield 29, 3) := by decide +kernel
theorem dX7_readOrder_262 : decode cX7_readOrder 262 = .ok (.iconst 4, 1) := by decide +kernel
theorem dX7_readOrder_263 : decode cX7_readOrder 263 = .ok (.aload_n 0, 1) := by decide +kernel
theorem dX7_readOrder_264 : decode cX7_readOrder 264 = .ok (.bipush 44, 2) := by decide +kernel
theorem dX7_readOrder_266 : decode cX7_readOrder 266 = .ok (.iconst 0, 1) := by decide +kernel
theorem dX7_readOrder_267 : decode cX7_readOrder 267 = .ok (.invokevirtual 176, 3) := by decide +kernel
theorem dX7_readOrder_270 : decode cX7_readOrder 270 = .ok (.iastore, 1) := by decide +kernel
theorem dX7_readOrder_271 : decode cX7_readOrder 271 = .ok (.goto 23, 3) := by decide +kernel
theorem dX7_readOrder_274 : decode cX7_readOrder 274 = .ok (.iload_n 1, 1) := by decide +kernel
theorem dX7_readOrder_275 : decode cX7_readOrder 275 = .ok (.bipush 116, 2) := by decide +kernel
theorem dX7_readOrder_277 : decode cX7_readOrder 277 = .ok (.if_icmp .ne 17, 3) := by decide +kernel
theorem dX7_readOrder_280 : decode cX7_readOrder 280 = .ok (.aload_n 0, 1) := by decide +kernel
theorem dX7_readOrder_281 : decode cX7_readOrder 281 = .ok (.getfield 29, 3) := by decide +kernel
theorem dX7_readOrder_284 : decode cX7_readOrder 284 = .ok (.iconst 3, 1) := by decide +kernel
theorem dX7_readOrder_285 : decode cX7_readOrder 285 = .ok (.aload_n 0, 1) := by decide +kernel
theorem dX7_readOrder_286 : decode cX7_readOrder 286 = .ok (.bipush 46, 2) := by decide +kernel
theorem dX7_readOrder_288 : decode cX7_readOrder 288 = .ok (.bipush (-6), 2) := by decide +kernel
theorem dX7_readOrder_290 : decode cX7_readOrder 290 = .ok (.invokevirtual 176, 3) := by decide +kernel
theorem dX7_readOrder_293 : decode cX7_readOrder 293 = .ok (.iastore, 1) := by decide +kernel
theorem dX7_readOrder_294 : decode cX7_readOrder 294 = .ok (.return_, 1) := by decide +kernel
theorem dX7_record_0 : decode cX7_record 0 = .ok (.aload_n 0, 1) := by decide +kernel
theorem dX7_record_1 : decode cX7_record 1 = .ok (.invokevirtual 48, 3) := by decide +kernel
theorem dX7_record_4 : decode cX7_record 4 = .ok (.aload_n 0, 1) := by decide +kernel
theorem dX7_record_5 : decode cX7_record 5 = .ok (.invokevirtual 51, 3) := by decide +kernel
theorem dX7_record_8 : decode cX7_record 8 = .ok (.return_, 1) := by decide +kernel
theorem dX7_refresh_0 : decode cX7_refresh 0 = .ok (.aload_n 0, 1) := by decide +kernel
theorem dX7_refresh_1 : decode cX7_refresh 1 = .ok (.bipush 114, 2) := by decide +kernel
theorem dX7_refresh_3 : decode cX7_refresh 3 = .ok (.iload_n 1, 1) := by decide +kernel
theorem dX7_refresh_4 : decode cX7_refresh 4 = .ok (.iconst 0, 1) := by decide +kernel
theorem dX7_refresh_5 : decode cX7_refresh 5 = .ok (.iconst 0, 1) := by decide +kernel
theorem dX7_refresh_6 : decode cX7_refresh 6 = .ok (.iconst 0, 1) := by decide +kernel
theorem dX7_refresh_7 : decode cX7_refresh 7 = .ok (.invokevirtual 145, 3) := by decide +kernel
theorem dX7_refresh_10 : decode cX7_refresh 10 = .ok (.ireturn, 1) := by decide +kernel
theorem dX7_refreshed_0 : decode cX7_refreshed 0 = .ok (.aload_n 0, 1) := by decide +kernel
theorem dX7_refreshed_1 : decode cX7_refreshed 1 = .ok (.iload_n 1, 1) := by decide +kernel
theorem dX7_refreshed_2 : decode cX7_refreshed 2 = .ok (.invokevirtual 87, 3) := by decide +kernel
theorem dX7_refreshed_5 : decode cX7_refreshed 5 = .ok (.ifCond .ne 5, 3) := by decide +kernel
theorem dX7_refreshed_8 : decode cX7_refreshed 8 = .ok (.iconst (-1), 1) := by decide +kernel
theorem dX7_refreshed_9 : decode cX7_refreshed 9 = .ok (.ireturn, 1) := by decide +kernel
theorem dX7_refreshed_10 : decode cX7_refreshed 10 = .ok (.aload_n 0, 1) := by decide +kernel
theorem dX7_refreshed_11 : decode cX7_refreshed 11 = .ok (.iload_n 1, 1) := by decide +kernel
theorem dX7_refreshed_12 : decode cX7_refreshed 12 = .ok (.invokevirtual 91, 3) := by decide +kernel
theorem dX7_refreshed_15 : decode cX7_refreshed 15 = .ok (.ifCond .ne 6, 3) := by decide +kernel
theorem dX7_refreshed_18 : decode cX7_refreshed 18 = .ok (.bipush (-5), 2) := by decide +kernel
theorem dX7_refreshed_20 : decode cX7_refreshed 20 = .ok (.ireturn, 1) := by decide +kernel
theorem dX7_refreshed_21 : decode cX7_refreshed 21 = .ok (.aload_n 0, 1) := by decide +kernel
theorem dX7_refreshed_22 : decode cX7_refreshed 22 = .ok (.iload_n 1, 1) := by decide +kernel
theorem dX7_refreshed_23 : decode cX7_refreshed 23 = .ok (.invokevirtual 94, 3) := by decide +kernel
theorem dX7_refreshed_26 : decode cX7_refreshed 26 = .ok (.aload_n 0, 1) := by decide +kernel
theorem dX7_refreshed_27 : decode cX7_refreshed 27 = .ok (.getfield 7, 3) := by decide +kernel
theorem dX7_refreshed_30 : decode cX7_refreshed 30 = .ok (.iload_n 1, 1) := by decide +kernel
theorem dX7_refreshed_31 : decode cX7_refreshed 31 = .ok (.iconst 0, 1) := by decide +kernel
theorem dX7_refreshed_32 : decode cX7_refreshed 32 = .ok (.iconst 0, 1) := by decide +kernel
theorem dX7_refreshed_33 : decode cX7_refreshed 33 = .ok (.invokestatic 40, 3) := by decide +kernel
theorem dX7_refreshed_36 : decode cX7_refreshed 36 = .ok (.iaload, 1) := by decide +kernel
theorem dX7_refreshed_37 : decode cX7_refreshed 37 = .ok (.ireturn, 1) := by decide +kernel
theorem dX7_refreshes_0 : decode cX7_refreshes 0 = .ok (.aload_n 0, 1) := by decide +kernel
theorem dX7_refreshes_1 : decode cX7_refreshes 1 = .ok (.iconst 0, 1) := by decide +kernel
theorem dX7_refreshes_2 : decode cX7_refreshes 2 = .ok (.iload_n 1, 1) := by decide +kernel
theorem dX7_refreshes_3 : decode cX7_refreshes 3 = .ok (.invokevirtual 63, 3) := by decide +kernel
theorem dX7_refreshes_6 : decode cX7_refreshes 6 = .ok (.aload_n 0, 1) := by decide +kernel
theorem dX7_refreshes_7 : decode cX7_refreshes 7 = .ok (.iconst 1, 1) := by decide +kernel
theorem dX7_refreshes_8 : decode cX7_refreshes 8 = .ok (.iload_n 1, 1) := by decide +kernel
theorem dX7_refreshes_9 : decode cX7_refreshes 9 = .ok (.invokevirtual 63, 3) := by decide +kernel
theorem dX7_refreshes_12 : decode cX7_refreshes 12 = .ok (.iadd, 1) := by decide +kernel
theorem dX7_refreshes_13 : decode cX7_refreshes 13 = .ok (.sipush 256, 3) := by decide +kernel
theorem dX7_refreshes_16 : decode cX7_refreshes 16 = .ok (.irem, 1) := by decide +kernel
theorem dX7_refreshes_17 : decode cX7_refreshes 17 = .ok (.istore_n 2, 1) := by decide +kernel
theorem dX7_refreshes_18 : decode cX7_refreshes 18 = .ok (.aload_n 0, 1) := by decide +kernel
theorem dX7_refreshes_19 : decode cX7_refreshes 19 = .ok (.getfield 7, 3) := by decide +kernel
theorem dX7_refreshes_22 : decode cX7_refreshes 22 = .ok (.iload_n 1, 1) := by decide +kernel
theorem dX7_refreshes_23 : decode cX7_refreshes 23 = .ok (.iconst 0, 1) := by decide +kernel
theorem dX7_refreshes_24 : decode cX7_refreshes 24 = .ok (.iconst 0, 1) := by decide +kernel
theorem dX7_refreshes_25 : decode cX7_refreshes 25 = .ok (.invokestatic 40, 3) := by decide +kernel
theorem dX7_refreshes_28 : decode cX7_refreshes 28 = .ok (.iaload, 1) := by decide +kernel
theorem dX7_refreshes_29 : decode cX7_refreshes 29 = .ok (.iconst 1, 1) := by decide +kernel
theorem dX7_refreshes_30 : decode cX7_refreshes 30 = .ok (.iadd, 1) := by decide +kernel
theorem dX7_refreshes_31 : decode cX7_refreshes 31 = .ok (.istore_n 3, 1) := by decide +kernel
theorem dX7_refreshes_32 : decode cX7_refreshes 32 = .ok (.aload_n 0, 1) := by decide +kernel
theorem dX7_refreshes_33 : decode cX7_refreshes 33 = .ok (.iload_n 1, 1) := by decide +kernel
theorem dX7_refreshes_34 : decode cX7_refreshes 34 = .ok (.aload_n 0, 1) := by decide +kernel
theorem dX7_refreshes_35 : decode cX7_refreshes 35 = .ok (.getfield 7, 3) := by decide +kernel
theorem dX7_refreshes_38 : decode cX7_refreshes 38 = .ok (.iconst 2, 1) := by decide +kernel
theorem dX7_refreshes_39 : decode cX7_refreshes 39 = .ok (.iaload, 1) := by decide +kernel
theorem dX7_refreshes_40 : decode cX7_refreshes 40 = .ok (.ifCond .le 14, 3) := by decide +kernel
theorem dX7_refreshes_43 : decode cX7_refreshes 43 = .ok (.aload_n 0, 1) := by decide +kernel
theorem dX7_refreshes_44 : decode cX7_refreshes 44 = .ok (.getfield 7, 3) := by decide +kernel
theorem dX7_refreshes_47 : decode cX7_refreshes 47 = .ok (.iconst 2, 1) := by decide +kernel
theorem dX7_refreshes_48 : decode cX7_refreshes 48 = .ok (.iaload, 1) := by decide +kernel
theorem dX7_refreshes_49 : decode cX7_refreshes 49 = .ok (.iconst 1, 1) := by decide +kernel
theorem dX7_refreshes_50 : decode cX7_refreshes 50 = .ok (.isub, 1) := by decide +kernel
theorem dX7_refreshes_51 : decode cX7_refreshes 51 = .ok (.goto 4, 3) := by decide +kernel
theorem dX7_refreshes_54 : decode cX7_refreshes 54 = .ok (.iconst 0, 1) := by decide +kernel
theorem dX7_refreshes_55 : decode cX7_refreshes 55 = .ok (.invokevirtual 66, 3) := by decide +kernel
theorem dX7_refreshes_58 : decode cX7_refreshes 58 = .ok (.istore 4, 2) := by decide +kernel
theorem dX7_refreshes_60 : decode cX7_refreshes 60 = .ok (.aload_n 0, 1) := by decide +kernel
theorem dX7_refreshes_61 : decode cX7_refreshes 61 = .ok (.getfield 7, 3) := by decide +kernel
theorem dX7_refreshes_64 : decode cX7_refreshes 64 = .ok (.iconst 2, 1) := by decide +kernel
theorem dX7_refreshes_65 : decode cX7_refreshes 65 = .ok (.iaload, 1) := by decide +kernel
theorem dX7_refreshes_66 : decode cX7_refreshes 66 = .ok (.ifCond .le 66, 3) := by decide +kernel
theorem dX7_refreshes_69 : decode cX7_refreshes 69 = .ok (.bipush 19, 2) := by decide +kernel
theorem dX7_refreshes_71 : decode cX7_refreshes 71 = .ok (.istore 5, 2) := by decide +kernel
theorem dX7_refreshes_73 : decode cX7_refreshes 73 = .ok (.iload 5, 2) := by decide +kernel
theorem dX7_refreshes_75 : decode cX7_refreshes 75 = .ok (.iconst 4, 1) := by decide +kernel
theorem dX7_refreshes_76 : decode cX7_refreshes 76 = .ok (.if_icmp .lt 39, 3) := by decide +kernel
theorem dX7_refreshes_79 : decode cX7_refreshes 79 = .ok (.aload_n 0, 1) := by decide +kernel
theorem dX7_refreshes_80 : decode cX7_refreshes 80 = .ok (.getfield 7, 3) := by decide +kernel
theorem dX7_refreshes_83 : decode cX7_refreshes 83 = .ok (.iload_n 1, 1) := by decide +kernel
theorem dX7_refreshes_84 : decode cX7_refreshes 84 = .ok (.bipush 15, 2) := by decide +kernel
theorem dX7_refreshes_86 : decode cX7_refreshes 86 = .ok (.iload 5, 2) := by decide +kernel
theorem dX7_refreshes_88 : decode cX7_refreshes 88 = .ok (.iadd, 1) := by decide +kernel
theorem dX7_refreshes_89 : decode cX7_refreshes 89 = .ok (.invokestatic 36, 3) := by decide +kernel
theorem dX7_refreshes_92 : decode cX7_refreshes 92 = .ok (.aload_n 0, 1) := by decide +kernel
theorem dX7_refreshes_93 : decode cX7_refreshes 93 = .ok (.getfield 7, 3) := by decide +kernel
theorem dX7_refreshes_96 : decode cX7_refreshes 96 = .ok (.iload_n 1, 1) := by decide +kernel
theorem dX7_refreshes_97 : decode cX7_refreshes 97 = .ok (.bipush 15, 2) := by decide +kernel
theorem dX7_refreshes_99 : decode cX7_refreshes 99 = .ok (.iload 5, 2) := by decide +kernel
theorem dX7_refreshes_101 : decode cX7_refreshes 101 = .ok (.iadd, 1) := by decide +kernel
theorem dX7_refreshes_102 : decode cX7_refreshes 102 = .ok (.iconst 4, 1) := by decide +kernel
theorem dX7_refreshes_103 : decode cX7_refreshes 103 = .ok (.isub, 1) := by decide +kernel
theorem dX7_refreshes_104 : decode cX7_refreshes 104 = .ok (.invokestatic 36, 3) := by decide +kernel
theorem dX7_refreshes_107 : decode cX7_refreshes 107 = .ok (.iaload, 1) := by decide +kernel
theorem dX7_refreshes_108 : decode cX7_refreshes 108 = .ok (.iastore, 1) := by decide +kernel
theorem dX7_refreshes_109 : decode cX7_refreshes 109 = .ok (.iinc 5 (-1), 3) := by decide +kernel
theorem dX7_refreshes_112 : decode cX7_refreshes 112 = .ok (.goto (-39), 3) := by decide +kernel
theorem dX7_refreshes_115 : decode cX7_refreshes 115 = .ok (.aload_n 0, 1) := by decide +kernel
theorem dX7_refreshes_116 : decode cX7_refreshes 116 = .ok (.getfield 7, 3) := by decide +kernel
theorem dX7_refreshes_119 : decode cX7_refreshes 119 = .ok (.iload_n 1, 1) := by decide +kernel
theorem dX7_refreshes_120 : decode cX7_refreshes 120 = .ok (.iconst 0, 1) := by decide +kernel
theorem dX7_refreshes_121 : decode cX7_refreshes 121 = .ok (.invokestatic 36, 3) := by decide +kernel
theorem dX7_refreshes_124 : decode cX7_refreshes 124 = .ok (.dup2, 1) := by decide +kernel
theorem dX7_refreshes_125 : decode cX7_refreshes 125 = .ok (.iaload, 1) := by decide +kernel
theorem dX7_refreshes_126 : decode cX7_refreshes 126 = .ok (.iconst 1, 1) := by decide +kernel
theorem dX7_refreshes_127 : decode cX7_refreshes 127 = .ok (.iadd, 1) := by decide +kernel
theorem dX7_refreshes_128 : decode cX7_refreshes 128 = .ok (.iastore, 1) := by decide +kernel
theorem dX7_refreshes_129 : decode cX7_refreshes 129 = .ok (.goto 14, 3) := by decide +kernel
theorem dX7_refreshes_132 : decode cX7_refreshes 132 = .ok (.aload_n 0, 1) := by decide +kernel
theorem dX7_refreshes_133 : decode cX7_refreshes 133 = .ok (.getfield 7, 3) := by decide +kernel
theorem dX7_refreshes_136 : decode cX7_refreshes 136 = .ok (.bipush 9, 2) := by decide +kernel
theorem dX7_refreshes_138 : decode cX7_refreshes 138 = .ok (.dup2, 1) := by decide +kernel
theorem dX7_refreshes_139 : decode cX7_refreshes 139 = .ok (.iaload, 1) := by decide +kernel
theorem dX7_refreshes_140 : decode cX7_refreshes 140 = .ok (.iconst 1, 1) := by decide +kernel
theorem dX7_refreshes_141 : decode cX7_refreshes 141 = .ok (.iadd, 1) := by decide +kernel
theorem dX7_refreshes_142 : decode cX7_refreshes 142 = .ok (.iastore, 1) := by decide +kernel
theorem dX7_refreshes_143 : decode cX7_refreshes 143 = .ok (.aload_n 0, 1) := by decide +kernel
theorem dX7_refreshes_144 : decode cX7_refreshes 144 = .ok (.iload_n 1, 1) := by decide +kernel
theorem dX7_refreshes_145 : decode cX7_refreshes 145 = .ok (.iload_n 2, 1) := by decide +kernel
theorem dX7_refreshes_146 : decode cX7_refreshes 146 = .ok (.iload_n 3, 1) := by decide +kernel
theorem dX7_refreshes_147 : decode cX7_refreshes 147 = .ok (.invokevirtual 69, 3) := by decide +kernel
theorem dX7_refreshes_150 : decode cX7_refreshes 150 = .ok (.return_, 1) := by decide +kernel
theorem dX7_restore_0 : decode cX7_restore 0 = .ok (.iload_n 1, 1) := by decide +kernel
theorem dX7_restore_1 : decode cX7_restore 1 = .ok (.iconst 0, 1) := by decide +kernel
theorem dX7_restore_2 : decode cX7_restore 2 = .ok (.iconst 1, 1) := by decide +kernel
theorem dX7_restore_3 : decode cX7_restore 3 = .ok (.invokestatic 32, 3) := by decide +kernel
theorem dX7_restore_6 : decode cX7_restore 6 = .ok (.ifCond .ne 6, 3) := by decide +kernel
theorem dX7_restore_9 : decode cX7_restore 9 = .ok (.bipush (-2), 2) := by decide +kernel
theorem dX7_restore_11 : decode cX7_restore 11 = .ok (.ireturn, 1) := by decide +kernel
theorem dX7_restore_12 : decode cX7_restore 12 = .ok (.aload_n 0, 1) := by decide +kernel
theorem dX7_restore_13 : decode cX7_restore 13 = .ok (.getfield 19, 3) := by decide +kernel
theorem dX7_restore_16 : decode cX7_restore 16 = .ok (.iload_n 1, 1) := by decide +kernel
theorem dX7_restore_17 : decode cX7_restore 17 = .ok (.baload, 1) := by decide +kernel
theorem dX7_restore_18 : decode cX7_restore 18 = .ok (.ifCond .ne 6, 3) := by decide +kernel
theorem dX7_restore_21 : decode cX7_restore 21 = .ok (.bipush (-5), 2) := by decide +kernel
theorem dX7_restore_23 : decode cX7_restore 23 = .ok (.ireturn, 1) := by decide +kernel
theorem dX7_restore_24 : decode cX7_restore 24 = .ok (.aload_n 0, 1) := by decide +kernel
theorem dX7_restore_25 : decode cX7_restore 25 = .ok (.invokevirtual 142, 3) := by decide +kernel
theorem dX7_restore_28 : decode cX7_restore 28 = .ok (.iconst 0, 1) := by decide +kernel
theorem dX7_restore_29 : decode cX7_restore 29 = .ok (.istore_n 2, 1) := by decide +kernel
theorem dX7_restore_30 : decode cX7_restore 30 = .ok (.iload_n 2, 1) := by decide +kernel
theorem dX7_restore_31 : decode cX7_restore 31 = .ok (.sipush 292, 3) := by decide +kernel
theorem dX7_restore_34 : decode cX7_restore 34 = .ok (.if_icmp .ge 27, 3) := by decide +kernel
theorem dX7_restore_37 : decode cX7_restore 37 = .ok (.aload_n 0, 1) := by decide +kernel
theorem dX7_restore_38 : decode cX7_restore 38 = .ok (.getfield 7, 3) := by decide +kernel
theorem dX7_restore_41 : decode cX7_restore 41 = .ok (.iload_n 2, 1) := by decide +kernel
theorem dX7_restore_42 : decode cX7_restore 42 = .ok (.aload_n 0, 1) := by decide +kernel
theorem dX7_restore_43 : decode cX7_restore 43 = .ok (.getfield 16, 3) := by decide +kernel
theorem dX7_restore_46 : decode cX7_restore 46 = .ok (.sipush 292, 3) := by decide +kernel
theorem dX7_restore_49 : decode cX7_restore 49 = .ok (.iload_n 1, 1) := by decide +kernel
theorem dX7_restore_50 : decode cX7_restore 50 = .ok (.imul, 1) := by decide +kernel
theorem dX7_restore_51 : decode cX7_restore 51 = .ok (.iload_n 2, 1) := by decide +kernel
theorem dX7_restore_52 : decode cX7_restore 52 = .ok (.iadd, 1) := by decide +kernel
theorem dX7_restore_53 : decode cX7_restore 53 = .ok (.iaload, 1) := by decide +kernel
theorem dX7_restore_54 : decode cX7_restore 54 = .ok (.iastore, 1) := by decide +kernel
theorem dX7_restore_55 : decode cX7_restore 55 = .ok (.iinc 2 1, 3) := by decide +kernel
theorem dX7_restore_58 : decode cX7_restore 58 = .ok (.goto (-28), 3) := by decide +kernel
theorem dX7_restore_61 : decode cX7_restore 61 = .ok (.aload_n 0, 1) := by decide +kernel
theorem dX7_restore_62 : decode cX7_restore 62 = .ok (.getfield 7, 3) := by decide +kernel
theorem dX7_restore_65 : decode cX7_restore 65 = .ok (.iconst 5, 1) := by decide +kernel
theorem dX7_restore_66 : decode cX7_restore 66 = .ok (.iaload, 1) := by decide +kernel
theorem dX7_restore_67 : decode cX7_restore 67 = .ok (.ireturn, 1) := by decide +kernel
theorem dX7_save_0 : decode cX7_save 0 = .ok (.iload_n 1, 1) := by decide +kernel
theorem dX7_save_1 : decode cX7_save 1 = .ok (.iconst 0, 1) := by decide +kernel
theorem dX7_save_2 : decode cX7_save 2 = .ok (.iconst 1, 1) := by decide +kernel
theorem dX7_save_3 : decode cX7_save 3 = .ok (.invokestatic 32, 3) := by decide +kernel
theorem dX7_save_6 : decode cX7_save 6 = .ok (.ifCond .ne 6, 3) := by decide +kernel
theorem dX7_save_9 : decode cX7_save 9 = .ok (.bipush (-2), 2) := by decide +kernel
theorem dX7_save_11 : decode cX7_save 11 = .ok (.ireturn, 1) := by decide +kernel
theorem dX7_save_12 : decode cX7_save 12 = .ok (.iconst 0, 1) := by decide +kernel
theorem dX7_save_13 : decode cX7_save 13 = .ok (.istore_n 2, 1) := by decide +kernel
theorem dX7_save_14 : decode cX7_save 14 = .ok (.iload_n 2, 1) := by decide +kernel
theorem dX7_save_15 : decode cX7_save 15 = .ok (.sipush 292, 3) := by decide +kernel
theorem dX7_save_18 : decode cX7_save 18 = .ok (.if_icmp .ge 27, 3) := by decide +kernel
theorem dX7_save_21 : decode cX7_save 21 = .ok (.aload_n 0, 1) := by decide +kernel
theorem dX7_save_22 : decode cX7_save 22 = .ok (.getfield 16, 3) := by decide +kernel
theorem dX7_save_25 : decode cX7_save 25 = .ok (.sipush 292, 3) := by decide +kernel
theorem dX7_save_28 : decode cX7_save 28 = .ok (.iload_n 1, 1) := by decide +kernel
theorem dX7_save_29 : decode cX7_save 29 = .ok (.imul, 1) := by decide +kernel
theorem dX7_save_30 : decode cX7_save 30 = .ok (.iload_n 2, 1) := by decide +kernel
theorem dX7_save_31 : decode cX7_save 31 = .ok (.iadd, 1) := by decide +kernel
theorem dX7_save_32 : decode cX7_save 32 = .ok (.aload_n 0, 1) := by decide +kernel
theorem dX7_save_33 : decode cX7_save 33 = .ok (.getfield 7, 3) := by decide +kernel
theorem dX7_save_36 : decode cX7_save 36 = .ok (.iload_n 2, 1) := by decide +kernel
theorem dX7_save_37 : decode cX7_save 37 = .ok (.iaload, 1) := by decide +kernel
theorem dX7_save_38 : decode cX7_save 38 = .ok (.iastore, 1) := by decide +kernel
theorem dX7_save_39 : decode cX7_save 39 = .ok (.iinc 2 1, 3) := by decide +kernel
theorem dX7_save_42 : decode cX7_save 42 = .ok (.goto (-28), 3) := by decide +kernel
theorem dX7_save_45 : decode cX7_save 45 = .ok (.aload_n 0, 1) := by decide +kernel
theorem dX7_save_46 : decode cX7_save 46 = .ok (.getfield 19, 3) := by decide +kernel
theorem dX7_save_49 : decode cX7_save 49 = .ok (.iload_n 1, 1) := by decide +kernel
theorem dX7_save_50 : decode cX7_save 50 = .ok (.iconst 1, 1) := by decide +kernel
theorem dX7_save_51 : decode cX7_save 51 = .ok (.bastore, 1) := by decide +kernel
theorem dX7_save_52 : decode cX7_save 52 = .ok (.aload_n 0, 1) := by decide +kernel
theorem dX7_save_53 : decode cX7_save 53 = .ok (.getfield 7, 3) := by decide +kernel
theorem dX7_save_56 : decode cX7_save 56 = .ok (.iconst 5, 1) := by decide +kernel
theorem dX7_save_57 : decode cX7_save 57 = .ok (.iaload, 1) := by decide +kernel
theorem dX7_save_58 : decode cX7_save 58 = .ok (.ireturn, 1) := by decide +kernel
theorem dX7_seed_0 : decode cX7_seed 0 = .ok (.iload_n 1, 1) := by decide +kernel
theorem dX7_seed_1 : decode cX7_seed 1 = .ok (.iconst 0, 1) := by decide +kernel
theorem dX7_seed_2 : decode cX7_seed 2 = .ok (.sipush 9999, 3) := by decide +kernel
theorem dX7_seed_5 : decode cX7_seed 5 = .ok (.invokestatic 32, 3) := by decide +kernel
theorem dX7_seed_8 : decode cX7_seed 8 = .ok (.ifCond .ne 6, 3) := by decide +kernel
theorem dX7_seed_11 : decode cX7_seed 11 = .ok (.bipush (-2), 2) := by decide +kernel
theorem dX7_seed_13 : decode cX7_seed 13 = .ok (.ireturn, 1) := by decide +kernel
theorem dX7_seed_14 : decode cX7_seed 14 = .ok (.aload_n 0, 1) := by decide +kernel
theorem dX7_seed_15 : decode cX7_seed 15 = .ok (.invokevirtual 142, 3) := by decide +kernel
theorem dX7_seed_18 : decode cX7_seed 18 = .ok (.aload_n 0, 1) := by decide +kernel
theorem dX7_seed_19 : decode cX7_seed 19 = .ok (.getfield 7, 3) := by decide +kernel
theorem dX7_seed_22 : decode cX7_seed 22 = .ok (.iconst 3, 1) := by decide +kernel
theorem dX7_seed_23 : decode cX7_seed 23 = .ok (.iaload, 1) := by decide +kernel
theorem dX7_seed_24 : decode cX7_seed 24 = .ok (.istore_n 2, 1) := by decide +kernel
theorem dX7_seed_25 : decode cX7_seed 25 = .ok (.aload_n 0, 1) := by decide +kernel
theorem dX7_seed_26 : decode cX7_seed 26 = .ok (.getfield 7, 3) := by decide +kernel
theorem dX7_seed_29 : decode cX7_seed 29 = .ok (.iconst 3, 1) := by decide +kernel
theorem dX7_seed_30 : decode cX7_seed 30 = .ok (.iload_n 1, 1) := by decide +kernel
theorem dX7_seed_31 : decode cX7_seed 31 = .ok (.iastore, 1) := by decide +kernel
theorem dX7_seed_32 : decode cX7_seed 32 = .ok (.iload_n 2, 1) := by decide +kernel
theorem dX7_seed_33 : decode cX7_seed 33 = .ok (.ireturn, 1) := by decide +kernel
theorem dX7_set_0 : decode cX7_set 0 = .ok (.iload_n 1, 1) := by decide +kernel
theorem dX7_set_1 : decode cX7_set 1 = .ok (.ifCond .ne 13, 3) := by decide +kernel
theorem dX7_set_4 : decode cX7_set 4 = .ok (.iload_n 2, 1) := by decide +kernel
theorem dX7_set_5 : decode cX7_set 5 = .ok (.iconst 1, 1) := by decide +kernel
theorem dX7_set_6 : decode cX7_set 6 = .ok (.bipush 20, 2) := by decide +kernel
theorem dX7_set_8 : decode cX7_set 8 = .ok (.invokestatic 32, 3) := by decide +kernel
theorem dX7_set_11 : decode cX7_set 11 = .ok (.goto 37, 3) := by decide +kernel
theorem dX7_set_14 : decode cX7_set 14 = .ok (.iload_n 1, 1) := by decide +kernel
theorem dX7_set_15 : decode cX7_set 15 = .ok (.iconst 1, 1) := by decide +kernel
theorem dX7_set_16 : decode cX7_set 16 = .ok (.if_icmp .ne 13, 3) := by decide +kernel
theorem dX7_set_19 : decode cX7_set 19 = .ok (.iload_n 2, 1) := by decide +kernel
theorem dX7_set_20 : decode cX7_set 20 = .ok (.iconst 0, 1) := by decide +kernel
theorem dX7_set_21 : decode cX7_set 21 = .ok (.bipush 99, 2) := by decide +kernel
theorem dX7_set_23 : decode cX7_set 23 = .ok (.invokestatic 32, 3) := by decide +kernel
theorem dX7_set_26 : decode cX7_set 26 = .ok (.goto 22, 3) := by decide +kernel
theorem dX7_set_29 : decode cX7_set 29 = .ok (.iload_n 1, 1) := by decide +kernel
theorem dX7_set_30 : decode cX7_set 30 = .ok (.iconst 2, 1) := by decide +kernel
theorem dX7_set_31 : decode cX7_set 31 = .ok (.if_icmp .ne 16, 3) := by decide +kernel
theorem dX7_set_34 : decode cX7_set 34 = .ok (.iload_n 2, 1) := by decide +kernel
theorem dX7_set_35 : decode cX7_set 35 = .ok (.iconst 0, 1) := by decide +kernel
theorem dX7_set_36 : decode cX7_set 36 = .ok (.iconst 4, 1) := by decide +kernel
theorem dX7_set_37 : decode cX7_set 37 = .ok (.invokestatic 32, 3) := by decide +kernel
theorem dX7_set_40 : decode cX7_set 40 = .ok (.ifCond .eq 7, 3) := by decide +kernel
theorem dX7_set_43 : decode cX7_set 43 = .ok (.iconst 1, 1) := by decide +kernel
theorem dX7_set_44 : decode cX7_set 44 = .ok (.goto 4, 3) := by decide +kernel
theorem dX7_set_47 : decode cX7_set 47 = .ok (.iconst 0, 1) := by decide +kernel
theorem dX7_set_48 : decode cX7_set 48 = .ok (.istore_n 3, 1) := by decide +kernel
theorem dX7_set_49 : decode cX7_set 49 = .ok (.iload_n 3, 1) := by decide +kernel
theorem dX7_set_50 : decode cX7_set 50 = .ok (.ifCond .ne 6, 3) := by decide +kernel
theorem dX7_set_53 : decode cX7_set 53 = .ok (.bipush (-2), 2) := by decide +kernel
theorem dX7_set_55 : decode cX7_set 55 = .ok (.ireturn, 1) := by decide +kernel
theorem dX7_set_56 : decode cX7_set 56 = .ok (.aload_n 0, 1) := by decide +kernel
theorem dX7_set_57 : decode cX7_set 57 = .ok (.invokevirtual 142, 3) := by decide +kernel
theorem dX7_set_60 : decode cX7_set 60 = .ok (.aload_n 0, 1) := by decide +kernel
theorem dX7_set_61 : decode cX7_set 61 = .ok (.getfield 7, 3) := by decide +kernel
theorem dX7_set_64 : decode cX7_set 64 = .ok (.iload_n 1, 1) := by decide +kernel
theorem dX7_set_65 : decode cX7_set 65 = .ok (.iaload, 1) := by decide +kernel
theorem dX7_set_66 : decode cX7_set 66 = .ok (.istore 4, 2) := by decide +kernel
theorem dX7_set_68 : decode cX7_set 68 = .ok (.aload_n 0, 1) := by decide +kernel
theorem dX7_set_69 : decode cX7_set 69 = .ok (.getfield 7, 3) := by decide +kernel
theorem dX7_set_72 : decode cX7_set 72 = .ok (.iload_n 1, 1) := by decide +kernel
theorem dX7_set_73 : decode cX7_set 73 = .ok (.iload_n 2, 1) := by decide +kernel
theorem dX7_set_74 : decode cX7_set 74 = .ok (.iastore, 1) := by decide +kernel
theorem dX7_set_75 : decode cX7_set 75 = .ok (.iload 4, 2) := by decide +kernel
theorem dX7_set_77 : decode cX7_set 77 = .ok (.ireturn, 1) := by decide +kernel
theorem dX7_setOf_0 : decode cX7_setOf 0 = .ok (.iconst 0, 1) := by decide +kernel
theorem dX7_setOf_1 : decode cX7_setOf 1 = .ok (.istore_n 2, 1) := by decide +kernel
theorem dX7_setOf_2 : decode cX7_setOf 2 = .ok (.iconst 0, 1) := by decide +kernel
theorem dX7_setOf_3 : decode cX7_setOf 3 = .ok (.istore_n 3, 1) := by decide +kernel
theorem dX7_setOf_4 : decode cX7_setOf 4 = .ok (.iload_n 3, 1) := by decide +kernel
theorem dX7_setOf_5 : decode cX7_setOf 5 = .ok (.aload_n 0, 1) := by decide +kernel
theorem dX7_setOf_6 : decode cX7_setOf 6 = .ok (.getfield 7, 3) := by decide +kernel
theorem dX7_setOf_9 : decode cX7_setOf 9 = .ok (.iconst 5, 1) := by decide +kernel
theorem dX7_setOf_10 : decode cX7_setOf 10 = .ok (.iaload, 1) := by decide +kernel
theorem dX7_setOf_11 : decode cX7_setOf 11 = .ok (.if_icmp .ge 32, 3) := by decide +kernel
theorem dX7_setOf_14 : decode cX7_setOf 14 = .ok (.iload_n 2, 1) := by decide +kernel
theorem dX7_setOf_15 : decode cX7_setOf 15 = .ok (.aload_n 0, 1) := by decide +kernel
theorem dX7_setOf_16 : decode cX7_setOf 16 = .ok (.getfield 7, 3) := by decide +kernel
theorem dX7_setOf_19 : decode cX7_setOf 19 = .ok (.iload_n 3, 1) := by decide +kernel
theorem dX7_setOf_20 : decode cX7_setOf 20 = .ok (.iload_n 1, 1) := by decide +kernel
theorem dX7_setOf_21 : decode cX7_setOf 21 = .ok (.invokestatic 36, 3) := by decide +kernel
theorem dX7_setOf_24 : decode cX7_setOf 24 = .ok (.iaload, 1) := by decide +kernel
theorem dX7_setOf_25 : decode cX7_setOf 25 = .ok (.ifCond .le 9, 3) := by decide +kernel
theorem dX7_setOf_28 : decode cX7_setOf 28 = .ok (.iconst 1, 1) := by decide +kernel
theorem dX7_setOf_29 : decode cX7_setOf 29 = .ok (.iload_n 3, 1) := by decide +kernel
theorem dX7_setOf_30 : decode cX7_setOf 30 = .ok (.ishl, 1) := by decide +kernel
theorem dX7_setOf_31 : decode cX7_setOf 31 = .ok (.goto 4, 3) := by decide +kernel
theorem dX7_setOf_34 : decode cX7_setOf 34 = .ok (.iconst 0, 1) := by decide +kernel
theorem dX7_setOf_35 : decode cX7_setOf 35 = .ok (.ior, 1) := by decide +kernel
theorem dX7_setOf_36 : decode cX7_setOf 36 = .ok (.istore_n 2, 1) := by decide +kernel
theorem dX7_setOf_37 : decode cX7_setOf 37 = .ok (.iinc 3 1, 3) := by decide +kernel
theorem dX7_setOf_40 : decode cX7_setOf 40 = .ok (.goto (-36), 3) := by decide +kernel
theorem dX7_setOf_43 : decode cX7_setOf 43 = .ok (.iload_n 2, 1) := by decide +kernel
theorem dX7_setOf_44 : decode cX7_setOf 44 = .ok (.ireturn, 1) := by decide +kernel
theorem dX7_sleep_0 : decode cX7_sleep 0 = .ok (.aload_n 0, 1) := by decide +kernel
theorem dX7_sleep_1 : decode cX7_sleep 1 = .ok (.bipush 122, 2) := by decide +kernel
theorem dX7_sleep_3 : decode cX7_sleep 3 = .ok (.iload_n 1, 1) := by decide +kernel
theorem dX7_sleep_4 : decode cX7_sleep 4 = .ok (.iconst 0, 1) := by decide +kernel
theorem dX7_sleep_5 : decode cX7_sleep 5 = .ok (.iconst 0, 1) := by decide +kernel
theorem dX7_sleep_6 : decode cX7_sleep 6 = .ok (.iconst 0, 1) := by decide +kernel
theorem dX7_sleep_7 : decode cX7_sleep 7 = .ok (.invokevirtual 145, 3) := by decide +kernel
theorem dX7_sleep_10 : decode cX7_sleep 10 = .ok (.ireturn, 1) := by decide +kernel
theorem dX7_sleeps_0 : decode cX7_sleeps 0 = .ok (.iload_n 1, 1) := by decide +kernel
theorem dX7_sleeps_1 : decode cX7_sleeps 1 = .ok (.invokestatic 98, 3) := by decide +kernel
theorem dX7_sleeps_4 : decode cX7_sleeps 4 = .ok (.ifCond .ne 5, 3) := by decide +kernel
theorem dX7_sleeps_7 : decode cX7_sleeps 7 = .ok (.iconst (-1), 1) := by decide +kernel
theorem dX7_sleeps_8 : decode cX7_sleeps 8 = .ok (.ireturn, 1) := by decide +kernel
theorem dX7_sleeps_9 : decode cX7_sleeps 9 = .ok (.aload_n 0, 1) := by decide +kernel
theorem dX7_sleeps_10 : decode cX7_sleeps 10 = .ok (.getfield 7, 3) := by decide +kernel
theorem dX7_sleeps_13 : decode cX7_sleeps 13 = .ok (.bipush 6, 2) := by decide +kernel
theorem dX7_sleeps_15 : decode cX7_sleeps 15 = .ok (.iload_n 1, 1) := by decide +kernel
theorem dX7_sleeps_16 : decode cX7_sleeps 16 = .ok (.iadd, 1) := by decide +kernel
theorem dX7_sleeps_17 : decode cX7_sleeps 17 = .ok (.iconst 1, 1) := by decide +kernel
theorem dX7_sleeps_18 : decode cX7_sleeps 18 = .ok (.aload_n 0, 1) := by decide +kernel
theorem dX7_sleeps_19 : decode cX7_sleeps 19 = .ok (.getfield 7, 3) := by decide +kernel
theorem dX7_sleeps_22 : decode cX7_sleeps 22 = .ok (.bipush 6, 2) := by decide +kernel
theorem dX7_sleeps_24 : decode cX7_sleeps 24 = .ok (.iload_n 1, 1) := by decide +kernel
theorem dX7_sleeps_25 : decode cX7_sleeps 25 = .ok (.iadd, 1) := by decide +kernel
theorem dX7_sleeps_26 : decode cX7_sleeps 26 = .ok (.iaload, 1) := by decide +kernel
theorem dX7_sleeps_27 : decode cX7_sleeps 27 = .ok (.isub, 1) := by decide +kernel
theorem dX7_sleeps_28 : decode cX7_sleeps 28 = .ok (.iastore, 1) := by decide +kernel
theorem dX7_sleeps_29 : decode cX7_sleeps 29 = .ok (.aload_n 0, 1) := by decide +kernel
theorem dX7_sleeps_30 : decode cX7_sleeps 30 = .ok (.getfield 7, 3) := by decide +kernel
theorem dX7_sleeps_33 : decode cX7_sleeps 33 = .ok (.bipush 6, 2) := by decide +kernel
theorem dX7_sleeps_35 : decode cX7_sleeps 35 = .ok (.iload_n 1, 1) := by decide +kernel
theorem dX7_sleeps_36 : decode cX7_sleeps 36 = .ok (.iadd, 1) := by decide +kernel
theorem dX7_sleeps_37 : decode cX7_sleeps 37 = .ok (.iaload, 1) := by decide +kernel
theorem dX7_sleeps_38 : decode cX7_sleeps 38 = .ok (.ireturn, 1) := by decide +kernel
theorem dX7_steal_0 : decode cX7_steal 0 = .ok (.aload_n 0, 1) := by decide +kernel
theorem dX7_steal_1 : decode cX7_steal 1 = .ok (.bipush 116, 2) := by decide +kernel
theorem dX7_steal_3 : decode cX7_steal 3 = .ok (.iload_n 1, 1) := by decide +kernel
theorem dX7_steal_4 : decode cX7_steal 4 = .ok (.iload_n 2, 1) := by decide +kernel
theorem dX7_steal_5 : decode cX7_steal 5 = .ok (.iload_n 3, 1) := by decide +kernel
theorem dX7_steal_6 : decode cX7_steal 6 = .ok (.iconst 0, 1) := by decide +kernel
theorem dX7_steal_7 : decode cX7_steal 7 = .ok (.invokevirtual 145, 3) := by decide +kernel
theorem dX7_steal_10 : decode cX7_steal 10 = .ok (.ireturn, 1) := by decide +kernel
theorem dX7_steals_0 : decode cX7_steals 0 = .ok (.iload_n 1, 1) := by decide +kernel
theorem dX7_steals_1 : decode cX7_steals 1 = .ok (.invokestatic 98, 3) := by decide +kernel
theorem dX7_steals_4 : decode cX7_steals 4 = .ok (.ifCond .eq 20, 3) := by decide +kernel
theorem dX7_steals_7 : decode cX7_steals 7 = .ok (.aload_n 0, 1) := by decide +kernel
theorem dX7_steals_8 : decode cX7_steals 8 = .ok (.iload_n 2, 1) := by decide +kernel
theorem dX7_steals_9 : decode cX7_steals 9 = .ok (.invokevirtual 87, 3) := by decide +kernel
theorem dX7_steals_12 : decode cX7_steals 12 = .ok (.ifCond .eq 12, 3) := by decide +kernel
theorem dX7_steals_15 : decode cX7_steals 15 = .ok (.aload_n 0, 1) := by decide +kernel
theorem dX7_steals_16 : decode cX7_steals 16 = .ok (.iload_n 2, 1) := by decide +kernel
theorem dX7_steals_17 : decode cX7_steals 17 = .ok (.iload_n 3, 1) := by decide +kernel
theorem dX7_steals_18 : decode cX7_steals 18 = .ok (.invokevirtual 107, 3) := by decide +kernel
theorem dX7_steals_21 : decode cX7_steals 21 = .ok (.goto 5, 3) := by decide +kernel
theorem dX7_steals_24 : decode cX7_steals 24 = .ok (.bipush (-6), 2) := by decide +kernel
theorem dX7_steals_26 : decode cX7_steals 26 = .ok (.istore 4, 2) := by decide +kernel
theorem dX7_steals_28 : decode cX7_steals 28 = .ok (.iload 4, 2) := by decide +kernel
theorem dX7_steals_30 : decode cX7_steals 30 = .ok (.bipush (-6), 2) := by decide +kernel
theorem dX7_steals_32 : decode cX7_steals 32 = .ok (.if_icmp .ne 5, 3) := by decide +kernel
theorem dX7_steals_35 : decode cX7_steals 35 = .ok (.iconst (-1), 1) := by decide +kernel
theorem dX7_steals_36 : decode cX7_steals 36 = .ok (.ireturn, 1) := by decide +kernel
theorem dX7_steals_37 : decode cX7_steals 37 = .ok (.aload_n 0, 1) := by decide +kernel
theorem dX7_steals_38 : decode cX7_steals 38 = .ok (.getfield 7, 3) := by decide +kernel
theorem dX7_steals_41 : decode cX7_steals 41 = .ok (.iload_n 2, 1) := by decide +kernel
theorem dX7_steals_42 : decode cX7_steals 42 = .ok (.iload 4, 2) := by decide +kernel
theorem dX7_steals_44 : decode cX7_steals 44 = .ok (.iconst 3, 1) := by decide +kernel
theorem dX7_steals_45 : decode cX7_steals 45 = .ok (.invokestatic 40, 3) := by decide +kernel
theorem dX7_steals_48 : decode cX7_steals 48 = .ok (.iaload, 1) := by decide +kernel
theorem dX7_steals_49 : decode cX7_steals 49 = .ok (.istore 5, 2) := by decide +kernel
theorem dX7_steals_51 : decode cX7_steals 51 = .ok (.iload 5, 2) := by decide +kernel
theorem dX7_steals_53 : decode cX7_steals 53 = .ok (.iload_n 1, 1) := by decide +kernel
theorem dX7_steals_54 : decode cX7_steals 54 = .ok (.ishr, 1) := by decide +kernel
theorem dX7_steals_55 : decode cX7_steals 55 = .ok (.iconst 1, 1) := by decide +kernel
theorem dX7_steals_56 : decode cX7_steals 56 = .ok (.iand, 1) := by decide +kernel
theorem dX7_steals_57 : decode cX7_steals 57 = .ok (.ifCond .ne 7, 3) := by decide +kernel
theorem dX7_steals_60 : decode cX7_steals 60 = .ok (.iconst 1, 1) := by decide +kernel
theorem dX7_steals_61 : decode cX7_steals 61 = .ok (.goto 4, 3) := by decide +kernel
theorem dX7_steals_64 : decode cX7_steals 64 = .ok (.iconst 0, 1) := by decide +kernel
theorem dX7_steals_65 : decode cX7_steals 65 = .ok (.istore 6, 2) := by decide +kernel
theorem dX7_steals_67 : decode cX7_steals 67 = .ok (.aload_n 0, 1) := by decide +kernel
theorem dX7_steals_68 : decode cX7_steals 68 = .ok (.getfield 7, 3) := by decide +kernel
theorem dX7_steals_71 : decode cX7_steals 71 = .ok (.iload_n 2, 1) := by decide +kernel
theorem dX7_steals_72 : decode cX7_steals 72 = .ok (.iload 4, 2) := by decide +kernel
theorem dX7_steals_74 : decode cX7_steals 74 = .ok (.iconst 3, 1) := by decide +kernel
theorem dX7_steals_75 : decode cX7_steals 75 = .ok (.invokestatic 40, 3) := by decide +kernel
theorem dX7_steals_78 : decode cX7_steals 78 = .ok (.iload 5, 2) := by decide +kernel
theorem dX7_steals_80 : decode cX7_steals 80 = .ok (.iconst 1, 1) := by decide +kernel
theorem dX7_steals_81 : decode cX7_steals 81 = .ok (.iload_n 1, 1) := by decide +kernel
theorem dX7_steals_82 : decode cX7_steals 82 = .ok (.ishl, 1) := by decide +kernel
theorem dX7_steals_83 : decode cX7_steals 83 = .ok (.ior, 1) := by decide +kernel
theorem dX7_steals_84 : decode cX7_steals 84 = .ok (.iastore, 1) := by decide +kernel
theorem dX7_steals_85 : decode cX7_steals 85 = .ok (.aload_n 0, 1) := by decide +kernel
theorem dX7_steals_86 : decode cX7_steals 86 = .ok (.getfield 7, 3) := by decide +kernel
theorem dX7_steals_89 : decode cX7_steals 89 = .ok (.iload_n 2, 1) := by decide +kernel
theorem dX7_steals_90 : decode cX7_steals 90 = .ok (.bipush 6, 2) := by decide +kernel
theorem dX7_steals_92 : decode cX7_steals 92 = .ok (.invokestatic 36, 3) := by decide +kernel
theorem dX7_steals_95 : decode cX7_steals 95 = .ok (.dup2, 1) := by decide +kernel
theorem dX7_steals_96 : decode cX7_steals 96 = .ok (.iaload, 1) := by decide +kernel
theorem dX7_steals_97 : decode cX7_steals 97 = .ok (.iload 6, 2) := by decide +kernel
theorem dX7_steals_99 : decode cX7_steals 99 = .ok (.ifCond .eq 7, 3) := by decide +kernel
theorem dX7_steals_102 : decode cX7_steals 102 = .ok (.iconst 1, 1) := by decide +kernel
theorem dX7_steals_103 : decode cX7_steals 103 = .ok (.goto 4, 3) := by decide +kernel
theorem dX7_steals_106 : decode cX7_steals 106 = .ok (.iconst 0, 1) := by decide +kernel
theorem dX7_steals_107 : decode cX7_steals 107 = .ok (.iadd, 1) := by decide +kernel
theorem dX7_steals_108 : decode cX7_steals 108 = .ok (.iastore, 1) := by decide +kernel
theorem dX7_steals_109 : decode cX7_steals 109 = .ok (.aload_n 0, 1) := by decide +kernel
theorem dX7_steals_110 : decode cX7_steals 110 = .ok (.getfield 7, 3) := by decide +kernel
theorem dX7_steals_113 : decode cX7_steals 113 = .ok (.iload_n 2, 1) := by decide +kernel
theorem dX7_steals_114 : decode cX7_steals 114 = .ok (.iconst 5, 1) := by decide +kernel
theorem dX7_steals_115 : decode cX7_steals 115 = .ok (.invokestatic 36, 3) := by decide +kernel
theorem dX7_steals_118 : decode cX7_steals 118 = .ok (.aload_n 0, 1) := by decide +kernel
theorem dX7_steals_119 : decode cX7_steals 119 = .ok (.getfield 7, 3) := by decide +kernel
theorem dX7_steals_122 : decode cX7_steals 122 = .ok (.iload_n 2, 1) := by decide +kernel
theorem dX7_steals_123 : decode cX7_steals 123 = .ok (.iload 4, 2) := by decide +kernel
theorem dX7_steals_125 : decode cX7_steals 125 = .ok (.iconst 3, 1) := by decide +kernel
theorem dX7_steals_126 : decode cX7_steals 126 = .ok (.invokestatic 40, 3) := by decide +kernel
theorem dX7_steals_129 : decode cX7_steals 129 = .ok (.iaload, 1) := by decide +kernel
theorem dX7_steals_130 : decode cX7_steals 130 = .ok (.iconst 3, 1) := by decide +kernel
theorem dX7_steals_131 : decode cX7_steals 131 = .ok (.if_icmp .ne 7, 3) := by decide +kernel
theorem dX7_steals_134 : decode cX7_steals 134 = .ok (.iconst 1, 1) := by decide +kernel
theorem dX7_steals_135 : decode cX7_steals 135 = .ok (.goto 13, 3) := by decide +kernel
theorem dX7_steals_138 : decode cX7_steals 138 = .ok (.aload_n 0, 1) := by decide +kernel
theorem dX7_steals_139 : decode cX7_steals 139 = .ok (.getfield 7, 3) := by decide +kernel
theorem dX7_steals_142 : decode cX7_steals 142 = .ok (.iload_n 2, 1) := by decide +kernel
theorem dX7_steals_143 : decode cX7_steals 143 = .ok (.iconst 5, 1) := by decide +kernel
theorem dX7_steals_144 : decode cX7_steals 144 = .ok (.invokestatic 36, 3) := by decide +kernel
theorem dX7_steals_147 : decode cX7_steals 147 = .ok (.iaload, 1) := by decide +kernel
theorem dX7_steals_148 : decode cX7_steals 148 = .ok (.iastore, 1) := by decide +kernel
theorem dX7_steals_149 : decode cX7_steals 149 = .ok (.aload_n 0, 1) := by decide +kernel
theorem dX7_steals_150 : decode cX7_steals 150 = .ok (.getfield 7, 3) := by decide +kernel
theorem dX7_steals_153 : decode cX7_steals 153 = .ok (.iload_n 2, 1) := by decide +kernel
theorem dX7_steals_154 : decode cX7_steals 154 = .ok (.iload 4, 2) := by decide +kernel
theorem dX7_steals_156 : decode cX7_steals 156 = .ok (.iconst 1, 1) := by decide +kernel
theorem dX7_steals_157 : decode cX7_steals 157 = .ok (.iload_n 1, 1) := by decide +kernel
theorem dX7_steals_158 : decode cX7_steals 158 = .ok (.iadd, 1) := by decide +kernel
theorem dX7_steals_159 : decode cX7_steals 159 = .ok (.invokestatic 40, 3) := by decide +kernel
theorem dX7_steals_162 : decode cX7_steals 162 = .ok (.iaload, 1) := by decide +kernel
theorem dX7_steals_163 : decode cX7_steals 163 = .ok (.ireturn, 1) := by decide +kernel
theorem dX7_tagOf_0 : decode cX7_tagOf 0 = .ok (.aload_n 0, 1) := by decide +kernel
theorem dX7_tagOf_1 : decode cX7_tagOf 1 = .ok (.getfield 7, 3) := by decide +kernel
theorem dX7_tagOf_4 : decode cX7_tagOf 4 = .ok (.iload_n 2, 1) := by decide +kernel
theorem dX7_tagOf_5 : decode cX7_tagOf 5 = .ok (.bipush 11, 2) := by decide +kernel
theorem dX7_tagOf_7 : decode cX7_tagOf 7 = .ok (.iload_n 1, 1) := by decide +kernel
theorem dX7_tagOf_8 : decode cX7_tagOf 8 = .ok (.iadd, 1) := by decide +kernel
theorem dX7_tagOf_9 : decode cX7_tagOf 9 = .ok (.invokestatic 36, 3) := by decide +kernel
theorem dX7_tagOf_12 : decode cX7_tagOf 12 = .ok (.iaload, 1) := by decide +kernel
theorem dX7_tagOf_13 : decode cX7_tagOf 13 = .ok (.aload_n 0, 1) := by decide +kernel
theorem dX7_tagOf_14 : decode cX7_tagOf 14 = .ok (.iload_n 1, 1) := by decide +kernel
theorem dX7_tagOf_15 : decode cX7_tagOf 15 = .ok (.iload_n 2, 1) := by decide +kernel
theorem dX7_tagOf_16 : decode cX7_tagOf 16 = .ok (.invokevirtual 63, 3) := by decide +kernel
theorem dX7_tagOf_19 : decode cX7_tagOf 19 = .ok (.imul, 1) := by decide +kernel
theorem dX7_tagOf_20 : decode cX7_tagOf 20 = .ok (.aload_n 0, 1) := by decide +kernel
theorem dX7_tagOf_21 : decode cX7_tagOf 21 = .ok (.getfield 7, 3) := by decide +kernel
theorem dX7_tagOf_24 : decode cX7_tagOf 24 = .ok (.iload_n 2, 1) := by decide +kernel
theorem dX7_tagOf_25 : decode cX7_tagOf 25 = .ok (.bipush 13, 2) := by decide +kernel
theorem dX7_tagOf_27 : decode cX7_tagOf 27 = .ok (.iload_n 1, 1) := by decide +kernel
theorem dX7_tagOf_28 : decode cX7_tagOf 28 = .ok (.iadd, 1) := by decide +kernel
theorem dX7_tagOf_29 : decode cX7_tagOf 29 = .ok (.invokestatic 36, 3) := by decide +kernel
theorem dX7_tagOf_32 : decode cX7_tagOf 32 = .ok (.iaload, 1) := by decide +kernel
theorem dX7_tagOf_33 : decode cX7_tagOf 33 = .ok (.iadd, 1) := by decide +kernel
theorem dX7_tagOf_34 : decode cX7_tagOf 34 = .ok (.sipush 257, 3) := by decide +kernel
theorem dX7_tagOf_37 : decode cX7_tagOf 37 = .ok (.irem, 1) := by decide +kernel
theorem dX7_tagOf_38 : decode cX7_tagOf 38 = .ok (.ireturn, 1) := by decide +kernel
theorem dX7_takes_0 : decode cX7_takes 0 = .ok (.aload_n 0, 1) := by decide +kernel
theorem dX7_takes_1 : decode cX7_takes 1 = .ok (.getfield 163, 3) := by decide +kernel
theorem dX7_takes_4 : decode cX7_takes 4 = .ok (.aload_n 0, 1) := by decide +kernel
theorem dX7_takes_5 : decode cX7_takes 5 = .ok (.getfield 151, 3) := by decide +kernel
theorem dX7_takes_8 : decode cX7_takes 8 = .ok (.if_icmp .ge 15, 3) := by decide +kernel
theorem dX7_takes_11 : decode cX7_takes 11 = .ok (.aload_n 0, 1) := by decide +kernel
theorem dX7_takes_12 : decode cX7_takes 12 = .ok (.getfield 23, 3) := by decide +kernel
theorem dX7_takes_15 : decode cX7_takes 15 = .ok (.aload_n 0, 1) := by decide +kernel
theorem dX7_takes_16 : decode cX7_takes 16 = .ok (.getfield 163, 3) := by decide +kernel
theorem dX7_takes_19 : decode cX7_takes 19 = .ok (.iaload, 1) := by decide +kernel
theorem dX7_takes_20 : decode cX7_takes 20 = .ok (.goto 4, 3) := by decide +kernel
theorem dX7_takes_23 : decode cX7_takes 23 = .ok (.iconst 0, 1) := by decide +kernel
theorem dX7_takes_24 : decode cX7_takes 24 = .ok (.istore_n 3, 1) := by decide +kernel
theorem dX7_takes_25 : decode cX7_takes 25 = .ok (.aload_n 0, 1) := by decide +kernel
theorem dX7_takes_26 : decode cX7_takes 26 = .ok (.aload_n 0, 1) := by decide +kernel
theorem dX7_takes_27 : decode cX7_takes 27 = .ok (.getfield 159, 3) := by decide +kernel
theorem dX7_takes_30 : decode cX7_takes 30 = .ok (.ifCond .ne 12, 3) := by decide +kernel
theorem dX7_takes_33 : decode cX7_takes 33 = .ok (.iload_n 3, 1) := by decide +kernel
theorem dX7_takes_34 : decode cX7_takes 34 = .ok (.iload_n 1, 1) := by decide +kernel
theorem dX7_takes_35 : decode cX7_takes 35 = .ok (.iload_n 2, 1) := by decide +kernel
theorem dX7_takes_36 : decode cX7_takes 36 = .ok (.invokestatic 32, 3) := by decide +kernel
theorem dX7_takes_39 : decode cX7_takes 39 = .ok (.ifCond .ne 7, 3) := by decide +kernel
theorem dX7_takes_42 : decode cX7_takes 42 = .ok (.iconst 1, 1) := by decide +kernel
theorem dX7_takes_43 : decode cX7_takes 43 = .ok (.goto 4, 3) := by decide +kernel
theorem dX7_takes_46 : decode cX7_takes 46 = .ok (.iconst 0, 1) := by decide +kernel
theorem dX7_takes_47 : decode cX7_takes 47 = .ok (.putfield 159, 3) := by decide +kernel
theorem dX7_takes_50 : decode cX7_takes 50 = .ok (.aload_n 0, 1) := by decide +kernel
theorem dX7_takes_51 : decode cX7_takes 51 = .ok (.dup, 1) := by decide +kernel
theorem dX7_takes_52 : decode cX7_takes 52 = .ok (.getfield 163, 3) := by decide +kernel
theorem dX7_takes_55 : decode cX7_takes 55 = .ok (.aload_n 0, 1) := by decide +kernel
theorem dX7_takes_56 : decode cX7_takes 56 = .ok (.getfield 159, 3) := by decide +kernel
theorem dX7_takes_59 : decode cX7_takes 59 = .ok (.ifCond .eq 7, 3) := by decide +kernel
theorem dX7_takes_62 : decode cX7_takes 62 = .ok (.iconst 0, 1) := by decide +kernel
theorem dX7_takes_63 : decode cX7_takes 63 = .ok (.goto 4, 3) := by decide +kernel
theorem dX7_takes_66 : decode cX7_takes 66 = .ok (.iconst 1, 1) := by decide +kernel
theorem dX7_takes_67 : decode cX7_takes 67 = .ok (.iadd, 1) := by decide +kernel
theorem dX7_takes_68 : decode cX7_takes 68 = .ok (.putfield 163, 3) := by decide +kernel
theorem dX7_takes_71 : decode cX7_takes 71 = .ok (.iload_n 3, 1) := by decide +kernel
theorem dX7_takes_72 : decode cX7_takes 72 = .ok (.iload_n 1, 1) := by decide +kernel
theorem dX7_takes_73 : decode cX7_takes 73 = .ok (.isub, 1) := by decide +kernel
theorem dX7_takes_74 : decode cX7_takes 74 = .ok (.ireturn, 1) := by decide +kernel
theorem dX7_takesBehind_0 : decode cX7_takesBehind 0 = .ok (.aload_n 0, 1) := by decide +kernel
theorem dX7_takesBehind_1 : decode cX7_takesBehind 1 = .ok (.iload_n 1, 1) := by decide +kernel
theorem dX7_takesBehind_2 : decode cX7_takesBehind 2 = .ok (.invokevirtual 169, 3) := by decide +kernel
theorem dX7_takesBehind_5 : decode cX7_takesBehind 5 = .ok (.istore_n 3, 1) := by decide +kernel
theorem dX7_takesBehind_6 : decode cX7_takesBehind 6 = .ok (.aload_n 0, 1) := by decide +kernel
theorem dX7_takesBehind_7 : decode cX7_takesBehind 7 = .ok (.dup, 1) := by decide +kernel
theorem dX7_takesBehind_8 : decode cX7_takesBehind 8 = .ok (.getfield 163, 3) := by decide +kernel
theorem dX7_takesBehind_11 : decode cX7_takesBehind 11 = .ok (.iload_n 3, 1) := by decide +kernel
theorem dX7_takesBehind_12 : decode cX7_takesBehind 12 = .ok (.ifCond .eq 7, 3) := by decide +kernel
theorem dX7_takesBehind_15 : decode cX7_takesBehind 15 = .ok (.iconst 1, 1) := by decide +kernel
theorem dX7_takesBehind_16 : decode cX7_takesBehind 16 = .ok (.goto 4, 3) := by decide +kernel
theorem dX7_takesBehind_19 : decode cX7_takesBehind 19 = .ok (.iconst 0, 1) := by decide +kernel
theorem dX7_takesBehind_20 : decode cX7_takesBehind 20 = .ok (.iadd, 1) := by decide +kernel
theorem dX7_takesBehind_21 : decode cX7_takesBehind 21 = .ok (.putfield 163, 3) := by decide +kernel
theorem dX7_takesBehind_24 : decode cX7_takesBehind 24 = .ok (.iload_n 3, 1) := by decide +kernel
theorem dX7_takesBehind_25 : decode cX7_takesBehind 25 = .ok (.ifCond .eq 10, 3) := by decide +kernel
theorem dX7_takesBehind_28 : decode cX7_takesBehind 28 = .ok (.aload_n 0, 1) := by decide +kernel
theorem dX7_takesBehind_29 : decode cX7_takesBehind 29 = .ok (.invokevirtual 172, 3) := by decide +kernel
theorem dX7_takesBehind_32 : decode cX7_takesBehind 32 = .ok (.goto 4, 3) := by decide +kernel
theorem dX7_takesBehind_35 : decode cX7_takesBehind 35 = .ok (.iload_n 2, 1) := by decide +kernel
theorem dX7_takesBehind_36 : decode cX7_takesBehind 36 = .ok (.ireturn, 1) := by decide +kernel
theorem dX7_takesNumber_0 : decode cX7_takesNumber 0 = .ok (.aload_n 0, 1) := by decide +kernel
theorem dX7_takesNumber_1 : decode cX7_takesNumber 1 = .ok (.bipush 48, 2) := by decide +kernel
theorem dX7_takesNumber_3 : decode cX7_takesNumber 3 = .ok (.bipush 57, 2) := by decide +kernel
theorem dX7_takesNumber_5 : decode cX7_takesNumber 5 = .ok (.invokevirtual 166, 3) := by decide +kernel
theorem dX7_takesNumber_8 : decode cX7_takesNumber 8 = .ok (.istore_n 1, 1) := by decide +kernel
theorem dX7_takesNumber_9 : decode cX7_takesNumber 9 = .ok (.iconst 0, 1) := by decide +kernel
theorem dX7_takesNumber_10 : decode cX7_takesNumber 10 = .ok (.istore_n 2, 1) := by decide +kernel
theorem dX7_takesNumber_11 : decode cX7_takesNumber 11 = .ok (.iload_n 2, 1) := by decide +kernel
theorem dX7_takesNumber_12 : decode cX7_takesNumber 12 = .ok (.iconst 2, 1) := by decide +kernel
theorem dX7_takesNumber_13 : decode cX7_takesNumber 13 = .ok (.if_icmp .ge 64, 3) := by decide +kernel
theorem dX7_takesNumber_16 : decode cX7_takesNumber 16 = .ok (.iload_n 1, 1) := by decide +kernel
theorem dX7_takesNumber_17 : decode cX7_takesNumber 17 = .ok (.ifCond .le 60, 3) := by decide +kernel
theorem dX7_takesNumber_20 : decode cX7_takesNumber 20 = .ok (.aload_n 0, 1) := by decide +kernel
theorem dX7_takesNumber_21 : decode cX7_takesNumber 21 = .ok (.getfield 159, 3) := by decide +kernel
theorem dX7_takesNumber_24 : decode cX7_takesNumber 24 = .ok (.ifCond .ne 53, 3) := by decide +kernel
theorem dX7_takesNumber_27 : decode cX7_takesNumber 27 = .ok (.aload_n 0, 1) := by decide +kernel
theorem dX7_takesNumber_28 : decode cX7_takesNumber 28 = .ok (.getfield 163, 3) := by decide +kernel
theorem dX7_takesNumber_31 : decode cX7_takesNumber 31 = .ok (.aload_n 0, 1) := by decide +kernel
theorem dX7_takesNumber_32 : decode cX7_takesNumber 32 = .ok (.getfield 151, 3) := by decide +kernel
theorem dX7_takesNumber_35 : decode cX7_takesNumber 35 = .ok (.if_icmp .ge 42, 3) := by decide +kernel
theorem dX7_takesNumber_38 : decode cX7_takesNumber 38 = .ok (.aload_n 0, 1) := by decide +kernel
theorem dX7_takesNumber_39 : decode cX7_takesNumber 39 = .ok (.getfield 23, 3) := by decide +kernel
theorem dX7_takesNumber_42 : decode cX7_takesNumber 42 = .ok (.aload_n 0, 1) := by decide +kernel
theorem dX7_takesNumber_43 : decode cX7_takesNumber 43 = .ok (.getfield 163, 3) := by decide +kernel
theorem dX7_takesNumber_46 : decode cX7_takesNumber 46 = .ok (.iaload, 1) := by decide +kernel
theorem dX7_takesNumber_47 : decode cX7_takesNumber 47 = .ok (.bipush 48, 2) := by decide +kernel
theorem dX7_takesNumber_49 : decode cX7_takesNumber 49 = .ok (.bipush 57, 2) := by decide +kernel
theorem dX7_takesNumber_51 : decode cX7_takesNumber 51 = .ok (.invokestatic 32, 3) := by decide +kernel
theorem dX7_takesNumber_54 : decode cX7_takesNumber 54 = .ok (.ifCond .eq 23, 3) := by decide +kernel
theorem dX7_takesNumber_57 : decode cX7_takesNumber 57 = .ok (.bipush 10, 2) := by decide +kernel
theorem dX7_takesNumber_59 : decode cX7_takesNumber 59 = .ok (.iload_n 1, 1) := by decide +kernel
theorem dX7_takesNumber_60 : decode cX7_takesNumber 60 = .ok (.imul, 1) := by decide +kernel
theorem dX7_takesNumber_61 : decode cX7_takesNumber 61 = .ok (.aload_n 0, 1) := by decide +kernel
theorem dX7_takesNumber_62 : decode cX7_takesNumber 62 = .ok (.bipush 48, 2) := by decide +kernel
theorem dX7_takesNumber_64 : decode cX7_takesNumber 64 = .ok (.bipush 57, 2) := by decide +kernel
theorem dX7_takesNumber_66 : decode cX7_takesNumber 66 = .ok (.invokevirtual 166, 3) := by decide +kernel
theorem dX7_takesNumber_69 : decode cX7_takesNumber 69 = .ok (.iadd, 1) := by decide +kernel
theorem dX7_takesNumber_70 : decode cX7_takesNumber 70 = .ok (.istore_n 1, 1) := by decide +kernel
theorem dX7_takesNumber_71 : decode cX7_takesNumber 71 = .ok (.iinc 2 1, 3) := by decide +kernel
theorem dX7_takesNumber_74 : decode cX7_takesNumber 74 = .ok (.goto (-63), 3) := by decide +kernel
theorem dX7_takesNumber_77 : decode cX7_takesNumber 77 = .ok (.iload_n 1, 1) := by decide +kernel
theorem dX7_takesNumber_78 : decode cX7_takesNumber 78 = .ok (.ireturn, 1) := by decide +kernel
theorem dX7_toldPart_0 : decode cX7_toldPart 0 = .ok (.aload_n 0, 1) := by decide +kernel
theorem dX7_toldPart_1 : decode cX7_toldPart 1 = .ok (.iload_n 1, 1) := by decide +kernel
theorem dX7_toldPart_2 : decode cX7_toldPart 2 = .ok (.iload_n 2, 1) := by decide +kernel
theorem dX7_toldPart_3 : decode cX7_toldPart 3 = .ok (.invokevirtual 63, 3) := by decide +kernel
theorem dX7_toldPart_6 : decode cX7_toldPart 6 = .ok (.iload_n 3, 1) := by decide +kernel
theorem dX7_toldPart_7 : decode cX7_toldPart 7 = .ok (.iadd, 1) := by decide +kernel
theorem dX7_toldPart_8 : decode cX7_toldPart 8 = .ok (.sipush 256, 3) := by decide +kernel
theorem dX7_toldPart_11 : decode cX7_toldPart 11 = .ok (.irem, 1) := by decide +kernel
theorem dX7_toldPart_12 : decode cX7_toldPart 12 = .ok (.ireturn, 1) := by decide +kernel
theorem dX7_tries_0 : decode cX7_tries 0 = .ok (.aload_n 0, 1) := by decide +kernel
theorem dX7_tries_1 : decode cX7_tries 1 = .ok (.invokevirtual 48, 3) := by decide +kernel
theorem dX7_tries_4 : decode cX7_tries 4 = .ok (.aload_n 0, 1) := by decide +kernel
theorem dX7_tries_5 : decode cX7_tries 5 = .ok (.iload_n 1, 1) := by decide +kernel
theorem dX7_tries_6 : decode cX7_tries 6 = .ok (.iload_n 2, 1) := by decide +kernel
theorem dX7_tries_7 : decode cX7_tries 7 = .ok (.iload_n 3, 1) := by decide +kernel
theorem dX7_tries_8 : decode cX7_tries 8 = .ok (.iload 4, 2) := by decide +kernel
theorem dX7_tries_10 : decode cX7_tries 10 = .ok (.iload 5, 2) := by decide +kernel
theorem dX7_tries_12 : decode cX7_tries 12 = .ok (.invokevirtual 113, 3) := by decide +kernel
theorem dX7_tries_15 : decode cX7_tries 15 = .ok (.istore 6, 2) := by decide +kernel
theorem dX7_tries_17 : decode cX7_tries 17 = .ok (.iload 6, 2) := by decide +kernel
theorem dX7_tries_19 : decode cX7_tries 19 = .ok (.ifCond .lt 7, 3) := by decide +kernel
theorem dX7_tries_22 : decode cX7_tries 22 = .ok (.aload_n 0, 1) := by decide +kernel
theorem dX7_tries_23 : decode cX7_tries 23 = .ok (.invokevirtual 51, 3) := by decide +kernel
theorem dX7_tries_26 : decode cX7_tries 26 = .ok (.iload 6, 2) := by decide +kernel
theorem dX7_tries_28 : decode cX7_tries 28 = .ok (.ireturn, 1) := by decide +kernel
theorem dX7_undo_0 : decode cX7_undo 0 = .ok (.aload_n 0, 1) := by decide +kernel
theorem dX7_undo_1 : decode cX7_undo 1 = .ok (.getfield 44, 3) := by decide +kernel
theorem dX7_undo_4 : decode cX7_undo 4 = .ok (.ifCond .ne 6, 3) := by decide +kernel
theorem dX7_undo_7 : decode cX7_undo 7 = .ok (.bipush (-5), 2) := by decide +kernel
theorem dX7_undo_9 : decode cX7_undo 9 = .ok (.ireturn, 1) := by decide +kernel
theorem dX7_undo_10 : decode cX7_undo 10 = .ok (.aload_n 0, 1) := by decide +kernel
theorem dX7_undo_11 : decode cX7_undo 11 = .ok (.dup, 1) := by decide +kernel
theorem dX7_undo_12 : decode cX7_undo 12 = .ok (.getfield 44, 3) := by decide +kernel
theorem dX7_undo_15 : decode cX7_undo 15 = .ok (.iconst 1, 1) := by decide +kernel
theorem dX7_undo_16 : decode cX7_undo 16 = .ok (.isub, 1) := by decide +kernel
theorem dX7_undo_17 : decode cX7_undo 17 = .ok (.putfield 44, 3) := by decide +kernel
theorem dX7_undo_20 : decode cX7_undo 20 = .ok (.iconst 0, 1) := by decide +kernel
theorem dX7_undo_21 : decode cX7_undo 21 = .ok (.istore_n 1, 1) := by decide +kernel
theorem dX7_undo_22 : decode cX7_undo 22 = .ok (.iload_n 1, 1) := by decide +kernel
theorem dX7_undo_23 : decode cX7_undo 23 = .ok (.sipush 292, 3) := by decide +kernel
theorem dX7_undo_26 : decode cX7_undo 26 = .ok (.if_icmp .ge 30, 3) := by decide +kernel
theorem dX7_undo_29 : decode cX7_undo 29 = .ok (.aload_n 0, 1) := by decide +kernel
theorem dX7_undo_30 : decode cX7_undo 30 = .ok (.getfield 7, 3) := by decide +kernel
theorem dX7_undo_33 : decode cX7_undo 33 = .ok (.iload_n 1, 1) := by decide +kernel
theorem dX7_undo_34 : decode cX7_undo 34 = .ok (.aload_n 0, 1) := by decide +kernel
theorem dX7_undo_35 : decode cX7_undo 35 = .ok (.getfield 13, 3) := by decide +kernel
theorem dX7_undo_38 : decode cX7_undo 38 = .ok (.sipush 292, 3) := by decide +kernel
theorem dX7_undo_41 : decode cX7_undo 41 = .ok (.aload_n 0, 1) := by decide +kernel
theorem dX7_undo_42 : decode cX7_undo 42 = .ok (.getfield 44, 3) := by decide +kernel
theorem dX7_undo_45 : decode cX7_undo 45 = .ok (.imul, 1) := by decide +kernel
theorem dX7_undo_46 : decode cX7_undo 46 = .ok (.iload_n 1, 1) := by decide +kernel
theorem dX7_undo_47 : decode cX7_undo 47 = .ok (.iadd, 1) := by decide +kernel
theorem dX7_undo_48 : decode cX7_undo 48 = .ok (.iaload, 1) := by decide +kernel
theorem dX7_undo_49 : decode cX7_undo 49 = .ok (.iastore, 1) := by decide +kernel
theorem dX7_undo_50 : decode cX7_undo 50 = .ok (.iinc 1 1, 3) := by decide +kernel
theorem dX7_undo_53 : decode cX7_undo 53 = .ok (.goto (-31), 3) := by decide +kernel
theorem dX7_undo_56 : decode cX7_undo 56 = .ok (.aload_n 0, 1) := by decide +kernel
theorem dX7_undo_57 : decode cX7_undo 57 = .ok (.getfield 44, 3) := by decide +kernel
theorem dX7_undo_60 : decode cX7_undo 60 = .ok (.ireturn, 1) := by decide +kernel
theorem dX7_versionsAtRisk_0 : decode cX7_versionsAtRisk 0 = .ok (.iconst 0, 1) := by decide +kernel
theorem dX7_versionsAtRisk_1 : decode cX7_versionsAtRisk 1 = .ok (.istore_n 2, 1) := by decide +kernel
theorem dX7_versionsAtRisk_2 : decode cX7_versionsAtRisk 2 = .ok (.iconst 0, 1) := by decide +kernel
theorem dX7_versionsAtRisk_3 : decode cX7_versionsAtRisk 3 = .ok (.istore_n 3, 1) := by decide +kernel
theorem dX7_versionsAtRisk_4 : decode cX7_versionsAtRisk 4 = .ok (.iload_n 3, 1) := by decide +kernel
theorem dX7_versionsAtRisk_5 : decode cX7_versionsAtRisk 5 = .ok (.aload_n 0, 1) := by decide +kernel
theorem dX7_versionsAtRisk_6 : decode cX7_versionsAtRisk 6 = .ok (.getfield 7, 3) := by decide +kernel
theorem dX7_versionsAtRisk_9 : decode cX7_versionsAtRisk 9 = .ok (.iload_n 1, 1) := by decide +kernel
theorem dX7_versionsAtRisk_10 : decode cX7_versionsAtRisk 10 = .ok (.iconst 0, 1) := by decide +kernel
theorem dX7_versionsAtRisk_11 : decode cX7_versionsAtRisk 11 = .ok (.invokestatic 36, 3) := by decide +kernel
theorem dX7_versionsAtRisk_14 : decode cX7_versionsAtRisk 14 = .ok (.iaload, 1) := by decide +kernel
theorem dX7_versionsAtRisk_15 : decode cX7_versionsAtRisk 15 = .ok (.if_icmp .gt 36, 3) := by decide +kernel
theorem dX7_versionsAtRisk_18 : decode cX7_versionsAtRisk 18 = .ok (.iload_n 2, 1) := by decide +kernel
theorem dX7_versionsAtRisk_19 : decode cX7_versionsAtRisk 19 = .ok (.aload_n 0, 1) := by decide +kernel
theorem dX7_versionsAtRisk_20 : decode cX7_versionsAtRisk 20 = .ok (.getfield 7, 3) := by decide +kernel
theorem dX7_versionsAtRisk_23 : decode cX7_versionsAtRisk 23 = .ok (.iload_n 1, 1) := by decide +kernel
theorem dX7_versionsAtRisk_24 : decode cX7_versionsAtRisk 24 = .ok (.iload_n 3, 1) := by decide +kernel
theorem dX7_versionsAtRisk_25 : decode cX7_versionsAtRisk 25 = .ok (.iconst 3, 1) := by decide +kernel
theorem dX7_versionsAtRisk_26 : decode cX7_versionsAtRisk 26 = .ok (.invokestatic 40, 3) := by decide +kernel
theorem dX7_versionsAtRisk_29 : decode cX7_versionsAtRisk 29 = .ok (.iaload, 1) := by decide +kernel
theorem dX7_versionsAtRisk_30 : decode cX7_versionsAtRisk 30 = .ok (.iconst 1, 1) := by decide +kernel
theorem dX7_versionsAtRisk_31 : decode cX7_versionsAtRisk 31 = .ok (.iconst 2, 1) := by decide +kernel
theorem dX7_versionsAtRisk_32 : decode cX7_versionsAtRisk 32 = .ok (.invokestatic 32, 3) := by decide +kernel
theorem dX7_versionsAtRisk_35 : decode cX7_versionsAtRisk 35 = .ok (.ifCond .eq 7, 3) := by decide +kernel
theorem dX7_versionsAtRisk_38 : decode cX7_versionsAtRisk 38 = .ok (.iconst 1, 1) := by decide +kernel
theorem dX7_versionsAtRisk_39 : decode cX7_versionsAtRisk 39 = .ok (.goto 4, 3) := by decide +kernel
theorem dX7_versionsAtRisk_42 : decode cX7_versionsAtRisk 42 = .ok (.iconst 0, 1) := by decide +kernel
theorem dX7_versionsAtRisk_43 : decode cX7_versionsAtRisk 43 = .ok (.iadd, 1) := by decide +kernel
theorem dX7_versionsAtRisk_44 : decode cX7_versionsAtRisk 44 = .ok (.istore_n 2, 1) := by decide +kernel
theorem dX7_versionsAtRisk_45 : decode cX7_versionsAtRisk 45 = .ok (.iinc 3 1, 3) := by decide +kernel
theorem dX7_versionsAtRisk_48 : decode cX7_versionsAtRisk 48 = .ok (.goto (-44), 3) := by decide +kernel
theorem dX7_versionsAtRisk_51 : decode cX7_versionsAtRisk 51 = .ok (.iload_n 2, 1) := by decide +kernel
theorem dX7_versionsAtRisk_52 : decode cX7_versionsAtRisk 52 = .ok (.ireturn, 1) := by decide +kernel
theorem dX7_wipe_0 : decode cX7_wipe 0 = .ok (.aload_n 0, 1) := by decide +kernel
theorem dX7_wipe_1 : decode cX7_wipe 1 = .ok (.getfield 151, 3) := by decide +kernel
theorem dX7_wipe_4 : decode cX7_wipe 4 = .ok (.istore_n 1, 1) := by decide +kernel
theorem dX7_wipe_5 : decode cX7_wipe 5 = .ok (.aload_n 0, 1) := by decide +kernel
theorem dX7_wipe_6 : decode cX7_wipe 6 = .ok (.iconst 0, 1) := by decide +kernel
theorem dX7_wipe_7 : decode cX7_wipe 7 = .ok (.putfield 151, 3) := by decide +kernel
theorem dX7_wipe_10 : decode cX7_wipe 10 = .ok (.iload_n 1, 1) := by decide +kernel
theorem dX7_wipe_11 : decode cX7_wipe 11 = .ok (.ireturn, 1) := by decide +kernel
end
section
theorem dL_law_0 : decode cL_law 0 = .ok (.new 7, 3) := by decide +kernel
theorem dL_law_3 : decode cL_law 3 = .ok (.dup, 1) := by decide +kernel
theorem dL_law_4 : decode cL_law 4 = .ok (.invokespecial 9, 3) := by decide +kernel
theorem dL_law_7 : decode cL_law 7 = .ok (.astore_n 1, 1) := by decide +kernel
theorem dL_law_8 : decode cL_law 8 = .ok (.new 10, 3) := by decide +kernel
theorem dL_law_11 : decode cL_law 11 = .ok (.dup, 1) := by decide +kernel
theorem dL_law_12 : decode cL_law 12 = .ok (.invokespecial 12, 3) := by decide +kernel
theorem dL_law_15 : decode cL_law 15 = .ok (.astore_n 2, 1) := by decide +kernel
theorem dL_law_16 : decode cL_law 16 = .ok (.iconst 0, 1) := by decide +kernel
theorem dL_law_17 : decode cL_law 17 = .ok (.istore_n 3, 1) := by decide +kernel
theorem dL_law_18 : decode cL_law 18 = .ok (.iload_n 3, 1) := by decide +kernel
theorem dL_law_19 : decode cL_law 19 = .ok (.aload_n 0, 1) := by decide +kernel
theorem dL_law_20 : decode cL_law 20 = .ok (.arraylength, 1) := by decide +kernel
theorem dL_law_21 : decode cL_law 21 = .ok (.iconst 5, 1) := by decide +kernel
theorem dL_law_22 : decode cL_law 22 = .ok (.isub, 1) := by decide +kernel
theorem dL_law_23 : decode cL_law 23 = .ok (.if_icmp .gt 920, 3) := by decide +kernel
theorem dL_law_26 : decode cL_law 26 = .ok (.aload_n 0, 1) := by decide +kernel
theorem dL_law_27 : decode cL_law 27 = .ok (.iload_n 3, 1) := by decide +kernel
theorem dL_law_28 : decode cL_law 28 = .ok (.iaload, 1) := by decide +kernel
theorem dL_law_29 : decode cL_law 29 = .ok (.bipush 31, 2) := by decide +kernel
theorem dL_law_31 : decode cL_law 31 = .ok (.iand, 1) := by decide +kernel
theorem dL_law_32 : decode cL_law 32 = .ok (.tableswitch 905 0 26 #[124, 157, 180, 203, 226, 249, 272, 325, 348, 391, 414, 457, 490, 533, 556, 599, 642, 685, 708, 731, 754, 807, 820, 833, 846, 859, 882], 124) := by decide +kernel
theorem dL_law_156 : decode cL_law 156 = .ok (.aload_n 1, 1) := by decide +kernel
theorem dL_law_157 : decode cL_law 157 = .ok (.aload_n 0, 1) := by decide +kernel
theorem dL_law_158 : decode cL_law 158 = .ok (.iload_n 3, 1) := by decide +kernel
theorem dL_law_159 : decode cL_law 159 = .ok (.iconst 1, 1) := by decide +kernel
theorem dL_law_160 : decode cL_law 160 = .ok (.iadd, 1) := by decide +kernel
theorem dL_law_161 : decode cL_law 161 = .ok (.iaload, 1) := by decide +kernel
theorem dL_law_162 : decode cL_law 162 = .ok (.aload_n 0, 1) := by decide +kernel
theorem dL_law_163 : decode cL_law 163 = .ok (.iload_n 3, 1) := by decide +kernel
theorem dL_law_164 : decode cL_law 164 = .ok (.iconst 2, 1) := by decide +kernel
theorem dL_law_165 : decode cL_law 165 = .ok (.iadd, 1) := by decide +kernel
theorem dL_law_166 : decode cL_law 166 = .ok (.iaload, 1) := by decide +kernel
theorem dL_law_167 : decode cL_law 167 = .ok (.invokevirtual 13, 3) := by decide +kernel
theorem dL_law_170 : decode cL_law 170 = .ok (.aload_n 2, 1) := by decide +kernel
theorem dL_law_171 : decode cL_law 171 = .ok (.aload_n 0, 1) := by decide +kernel
theorem dL_law_172 : decode cL_law 172 = .ok (.iload_n 3, 1) := by decide +kernel
theorem dL_law_173 : decode cL_law 173 = .ok (.iconst 1, 1) := by decide +kernel
theorem dL_law_174 : decode cL_law 174 = .ok (.iadd, 1) := by decide +kernel
theorem dL_law_175 : decode cL_law 175 = .ok (.iaload, 1) := by decide +kernel
theorem dL_law_176 : decode cL_law 176 = .ok (.aload_n 0, 1) := by decide +kernel
theorem dL_law_177 : decode cL_law 177 = .ok (.iload_n 3, 1) := by decide +kernel
theorem dL_law_178 : decode cL_law 178 = .ok (.iconst 2, 1) := by decide +kernel
theorem dL_law_179 : decode cL_law 179 = .ok (.iadd, 1) := by decide +kernel
theorem dL_law_180 : decode cL_law 180 = .ok (.iaload, 1) := by decide +kernel
theorem dL_law_181 : decode cL_law 181 = .ok (.invokevirtual 17, 3) := by decide +kernel
theorem dL_law_184 : decode cL_law 184 = .ok (.if_icmp .eq 753, 3) := by decide +kernel
theorem dL_law_187 : decode cL_law 187 = .ok (.iconst 0, 1) := by decide +kernel
theorem dL_law_188 : decode cL_law 188 = .ok (.ireturn, 1) := by decide +kernel
theorem dL_law_189 : decode cL_law 189 = .ok (.aload_n 1, 1) := by decide +kernel
theorem dL_law_190 : decode cL_law 190 = .ok (.aload_n 0, 1) := by decide +kernel
theorem dL_law_191 : decode cL_law 191 = .ok (.iload_n 3, 1) := by decide +kernel
theorem dL_law_192 : decode cL_law 192 = .ok (.iconst 1, 1) := by decide +kernel
theorem dL_law_193 : decode cL_law 193 = .ok (.iadd, 1) := by decide +kernel
theorem dL_law_194 : decode cL_law 194 = .ok (.iaload, 1) := by decide +kernel
theorem dL_law_195 : decode cL_law 195 = .ok (.invokevirtual 18, 3) := by decide +kernel
theorem dL_law_198 : decode cL_law 198 = .ok (.aload_n 2, 1) := by decide +kernel
theorem dL_law_199 : decode cL_law 199 = .ok (.aload_n 0, 1) := by decide +kernel
theorem dL_law_200 : decode cL_law 200 = .ok (.iload_n 3, 1) := by decide +kernel
theorem dL_law_201 : decode cL_law 201 = .ok (.iconst 1, 1) := by decide +kernel
theorem dL_law_202 : decode cL_law 202 = .ok (.iadd, 1) := by decide +kernel
theorem dL_law_203 : decode cL_law 203 = .ok (.iaload, 1) := by decide +kernel
theorem dL_law_204 : decode cL_law 204 = .ok (.invokevirtual 22, 3) := by decide +kernel
theorem dL_law_207 : decode cL_law 207 = .ok (.if_icmp .eq 730, 3) := by decide +kernel
theorem dL_law_210 : decode cL_law 210 = .ok (.iconst 0, 1) := by decide +kernel
theorem dL_law_211 : decode cL_law 211 = .ok (.ireturn, 1) := by decide +kernel
theorem dL_law_212 : decode cL_law 212 = .ok (.aload_n 1, 1) := by decide +kernel
theorem dL_law_213 : decode cL_law 213 = .ok (.aload_n 0, 1) := by decide +kernel
theorem dL_law_214 : decode cL_law 214 = .ok (.iload_n 3, 1) := by decide +kernel
theorem dL_law_215 : decode cL_law 215 = .ok (.iconst 1, 1) := by decide +kernel
theorem dL_law_216 : decode cL_law 216 = .ok (.iadd, 1) := by decide +kernel
theorem dL_law_217 : decode cL_law 217 = .ok (.iaload, 1) := by decide +kernel
theorem dL_law_218 : decode cL_law 218 = .ok (.invokevirtual 23, 3) := by decide +kernel
theorem dL_law_221 : decode cL_law 221 = .ok (.aload_n 2, 1) := by decide +kernel
theorem dL_law_222 : decode cL_law 222 = .ok (.aload_n 0, 1) := by decide +kernel
theorem dL_law_223 : decode cL_law 223 = .ok (.iload_n 3, 1) := by decide +kernel
theorem dL_law_224 : decode cL_law 224 = .ok (.iconst 1, 1) := by decide +kernel
theorem dL_law_225 : decode cL_law 225 = .ok (.iadd, 1) := by decide +kernel
theorem dL_law_226 : decode cL_law 226 = .ok (.iaload, 1) := by decide +kernel
theorem dL_law_227 : decode cL_law 227 = .ok (.invokevirtual 26, 3) := by decide +kernel
theorem dL_law_230 : decode cL_law 230 = .ok (.if_icmp .eq 707, 3) := by decide +kernel
theorem dL_law_233 : decode cL_law 233 = .ok (.iconst 0, 1) := by decide +kernel
theorem dL_law_234 : decode cL_law 234 = .ok (.ireturn, 1) := by decide +kernel
theorem dL_law_235 : decode cL_law 235 = .ok (.aload_n 1, 1) := by decide +kernel
theorem dL_law_236 : decode cL_law 236 = .ok (.aload_n 0, 1) := by decide +kernel
theorem dL_law_237 : decode cL_law 237 = .ok (.iload_n 3, 1) := by decide +kernel
theorem dL_law_238 : decode cL_law 238 = .ok (.iconst 1, 1) := by decide +kernel
theorem dL_law_239 : decode cL_law 239 = .ok (.iadd, 1) := by decide +kernel
theorem dL_law_240 : decode cL_law 240 = .ok (.iaload, 1) := by decide +kernel
theorem dL_law_241 : decode cL_law 241 = .ok (.invokevirtual 27, 3) := by decide +kernel
theorem dL_law_244 : decode cL_law 244 = .ok (.aload_n 2, 1) := by decide +kernel
theorem dL_law_245 : decode cL_law 245 = .ok (.aload_n 0, 1) := by decide +kernel
theorem dL_law_246 : decode cL_law 246 = .ok (.iload_n 3, 1) := by decide +kernel
theorem dL_law_247 : decode cL_law 247 = .ok (.iconst 1, 1) := by decide +kernel
theorem dL_law_248 : decode cL_law 248 = .ok (.iadd, 1) := by decide +kernel
theorem dL_law_249 : decode cL_law 249 = .ok (.iaload, 1) := by decide +kernel
theorem dL_law_250 : decode cL_law 250 = .ok (.invokevirtual 30, 3) := by decide +kernel
theorem dL_law_253 : decode cL_law 253 = .ok (.if_icmp .eq 684, 3) := by decide +kernel
theorem dL_law_256 : decode cL_law 256 = .ok (.iconst 0, 1) := by decide +kernel
theorem dL_law_257 : decode cL_law 257 = .ok (.ireturn, 1) := by decide +kernel
theorem dL_law_258 : decode cL_law 258 = .ok (.aload_n 1, 1) := by decide +kernel
theorem dL_law_259 : decode cL_law 259 = .ok (.aload_n 0, 1) := by decide +kernel
theorem dL_law_260 : decode cL_law 260 = .ok (.iload_n 3, 1) := by decide +kernel
theorem dL_law_261 : decode cL_law 261 = .ok (.iconst 1, 1) := by decide +kernel
theorem dL_law_262 : decode cL_law 262 = .ok (.iadd, 1) := by decide +kernel
theorem dL_law_263 : decode cL_law 263 = .ok (.iaload, 1) := by decide +kernel
theorem dL_law_264 : decode cL_law 264 = .ok (.invokevirtual 31, 3) := by decide +kernel
theorem dL_law_267 : decode cL_law 267 = .ok (.aload_n 2, 1) := by decide +kernel
theorem dL_law_268 : decode cL_law 268 = .ok (.aload_n 0, 1) := by decide +kernel
theorem dL_law_269 : decode cL_law 269 = .ok (.iload_n 3, 1) := by decide +kernel
theorem dL_law_270 : decode cL_law 270 = .ok (.iconst 1, 1) := by decide +kernel
theorem dL_law_271 : decode cL_law 271 = .ok (.iadd, 1) := by decide +kernel
theorem dL_law_272 : decode cL_law 272 = .ok (.iaload, 1) := by decide +kernel
theorem dL_law_273 : decode cL_law 273 = .ok (.invokevirtual 34, 3) := by decide +kernel
theorem dL_law_276 : decode cL_law 276 = .ok (.if_icmp .eq 661, 3) := by decide +kernel
theorem dL_law_279 : decode cL_law 279 = .ok (.iconst 0, 1) := by decide +kernel
theorem dL_law_280 : decode cL_law 280 = .ok (.ireturn, 1) := by decide +kernel
theorem dL_law_281 : decode cL_law 281 = .ok (.aload_n 1, 1) := by decide +kernel
theorem dL_law_282 : decode cL_law 282 = .ok (.aload_n 0, 1) := by decide +kernel
theorem dL_law_283 : decode cL_law 283 = .ok (.iload_n 3, 1) := by decide +kernel
theorem dL_law_284 : decode cL_law 284 = .ok (.iconst 1, 1) := by decide +kernel
theorem dL_law_285 : decode cL_law 285 = .ok (.iadd, 1) := by decide +kernel
theorem dL_law_286 : decode cL_law 286 = .ok (.iaload, 1) := by decide +kernel
theorem dL_law_287 : decode cL_law 287 = .ok (.invokevirtual 35, 3) := by decide +kernel
theorem dL_law_290 : decode cL_law 290 = .ok (.aload_n 2, 1) := by decide +kernel
theorem dL_law_291 : decode cL_law 291 = .ok (.aload_n 0, 1) := by decide +kernel
theorem dL_law_292 : decode cL_law 292 = .ok (.iload_n 3, 1) := by decide +kernel
theorem dL_law_293 : decode cL_law 293 = .ok (.iconst 1, 1) := by decide +kernel
theorem dL_law_294 : decode cL_law 294 = .ok (.iadd, 1) := by decide +kernel
theorem dL_law_295 : decode cL_law 295 = .ok (.iaload, 1) := by decide +kernel
theorem dL_law_296 : decode cL_law 296 = .ok (.invokevirtual 38, 3) := by decide +kernel
theorem dL_law_299 : decode cL_law 299 = .ok (.if_icmp .eq 638, 3) := by decide +kernel
theorem dL_law_302 : decode cL_law 302 = .ok (.iconst 0, 1) := by decide +kernel
theorem dL_law_303 : decode cL_law 303 = .ok (.ireturn, 1) := by decide +kernel
theorem dL_law_304 : decode cL_law 304 = .ok (.aload_n 1, 1) := by decide +kernel
theorem dL_law_305 : decode cL_law 305 = .ok (.aload_n 0, 1) := by decide +kernel
theorem dL_law_306 : decode cL_law 306 = .ok (.iload_n 3, 1) := by decide +kernel
theorem dL_law_307 : decode cL_law 307 = .ok (.iconst 1, 1) := by decide +kernel
theorem dL_law_308 : decode cL_law 308 = .ok (.iadd, 1) := by decide +kernel
theorem dL_law_309 : decode cL_law 309 = .ok (.iaload, 1) := by decide +kernel
theorem dL_law_310 : decode cL_law 310 = .ok (.aload_n 0, 1) := by decide +kernel
theorem dL_law_311 : decode cL_law 311 = .ok (.iload_n 3, 1) := by decide +kernel
theorem dL_law_312 : decode cL_law 312 = .ok (.iconst 2, 1) := by decide +kernel
theorem dL_law_313 : decode cL_law 313 = .ok (.iadd, 1) := by decide +kernel
theorem dL_law_314 : decode cL_law 314 = .ok (.iaload, 1) := by decide +kernel
theorem dL_law_315 : decode cL_law 315 = .ok (.aload_n 0, 1) := by decide +kernel
theorem dL_law_316 : decode cL_law 316 = .ok (.iload_n 3, 1) := by decide +kernel
theorem dL_law_317 : decode cL_law 317 = .ok (.iconst 3, 1) := by decide +kernel
theorem dL_law_318 : decode cL_law 318 = .ok (.iadd, 1) := by decide +kernel
theorem dL_law_319 : decode cL_law 319 = .ok (.iaload, 1) := by decide +kernel
theorem dL_law_320 : decode cL_law 320 = .ok (.aload_n 0, 1) := by decide +kernel
theorem dL_law_321 : decode cL_law 321 = .ok (.iload_n 3, 1) := by decide +kernel
theorem dL_law_322 : decode cL_law 322 = .ok (.iconst 4, 1) := by decide +kernel
theorem dL_law_323 : decode cL_law 323 = .ok (.iadd, 1) := by decide +kernel
theorem dL_law_324 : decode cL_law 324 = .ok (.iaload, 1) := by decide +kernel
theorem dL_law_325 : decode cL_law 325 = .ok (.invokevirtual 39, 3) := by decide +kernel
theorem dL_law_328 : decode cL_law 328 = .ok (.aload_n 2, 1) := by decide +kernel
theorem dL_law_329 : decode cL_law 329 = .ok (.aload_n 0, 1) := by decide +kernel
theorem dL_law_330 : decode cL_law 330 = .ok (.iload_n 3, 1) := by decide +kernel
theorem dL_law_331 : decode cL_law 331 = .ok (.iconst 1, 1) := by decide +kernel
theorem dL_law_332 : decode cL_law 332 = .ok (.iadd, 1) := by decide +kernel
theorem dL_law_333 : decode cL_law 333 = .ok (.iaload, 1) := by decide +kernel
theorem dL_law_334 : decode cL_law 334 = .ok (.aload_n 0, 1) := by decide +kernel
theorem dL_law_335 : decode cL_law 335 = .ok (.iload_n 3, 1) := by decide +kernel
theorem dL_law_336 : decode cL_law 336 = .ok (.iconst 2, 1) := by decide +kernel
theorem dL_law_337 : decode cL_law 337 = .ok (.iadd, 1) := by decide +kernel
theorem dL_law_338 : decode cL_law 338 = .ok (.iaload, 1) := by decide +kernel
theorem dL_law_339 : decode cL_law 339 = .ok (.aload_n 0, 1) := by decide +kernel
theorem dL_law_340 : decode cL_law 340 = .ok (.iload_n 3, 1) := by decide +kernel
theorem dL_law_341 : decode cL_law 341 = .ok (.iconst 3, 1) := by decide +kernel
theorem dL_law_342 : decode cL_law 342 = .ok (.iadd, 1) := by decide +kernel
theorem dL_law_343 : decode cL_law 343 = .ok (.iaload, 1) := by decide +kernel
theorem dL_law_344 : decode cL_law 344 = .ok (.aload_n 0, 1) := by decide +kernel
theorem dL_law_345 : decode cL_law 345 = .ok (.iload_n 3, 1) := by decide +kernel
theorem dL_law_346 : decode cL_law 346 = .ok (.iconst 4, 1) := by decide +kernel
theorem dL_law_347 : decode cL_law 347 = .ok (.iadd, 1) := by decide +kernel
theorem dL_law_348 : decode cL_law 348 = .ok (.iaload, 1) := by decide +kernel
theorem dL_law_349 : decode cL_law 349 = .ok (.invokevirtual 43, 3) := by decide +kernel
theorem dL_law_352 : decode cL_law 352 = .ok (.if_icmp .eq 585, 3) := by decide +kernel
theorem dL_law_355 : decode cL_law 355 = .ok (.iconst 0, 1) := by decide +kernel
theorem dL_law_356 : decode cL_law 356 = .ok (.ireturn, 1) := by decide +kernel
theorem dL_law_357 : decode cL_law 357 = .ok (.aload_n 1, 1) := by decide +kernel
theorem dL_law_358 : decode cL_law 358 = .ok (.aload_n 0, 1) := by decide +kernel
theorem dL_law_359 : decode cL_law 359 = .ok (.iload_n 3, 1) := by decide +kernel
theorem dL_law_360 : decode cL_law 360 = .ok (.iconst 1, 1) := by decide +kernel
theorem dL_law_361 : decode cL_law 361 = .ok (.iadd, 1) := by decide +kernel
theorem dL_law_362 : decode cL_law 362 = .ok (.iaload, 1) := by decide +kernel
theorem dL_law_363 : decode cL_law 363 = .ok (.invokevirtual 44, 3) := by decide +kernel
theorem dL_law_366 : decode cL_law 366 = .ok (.aload_n 2, 1) := by decide +kernel
theorem dL_law_367 : decode cL_law 367 = .ok (.aload_n 0, 1) := by decide +kernel
theorem dL_law_368 : decode cL_law 368 = .ok (.iload_n 3, 1) := by decide +kernel
theorem dL_law_369 : decode cL_law 369 = .ok (.iconst 1, 1) := by decide +kernel
theorem dL_law_370 : decode cL_law 370 = .ok (.iadd, 1) := by decide +kernel
theorem dL_law_371 : decode cL_law 371 = .ok (.iaload, 1) := by decide +kernel
theorem dL_law_372 : decode cL_law 372 = .ok (.invokevirtual 47, 3) := by decide +kernel
theorem dL_law_375 : decode cL_law 375 = .ok (.if_icmp .eq 562, 3) := by decide +kernel
theorem dL_law_378 : decode cL_law 378 = .ok (.iconst 0, 1) := by decide +kernel
theorem dL_law_379 : decode cL_law 379 = .ok (.ireturn, 1) := by decide +kernel
theorem dL_law_380 : decode cL_law 380 = .ok (.aload_n 1, 1) := by decide +kernel
theorem dL_law_381 : decode cL_law 381 = .ok (.aload_n 0, 1) := by decide +kernel
theorem dL_law_382 : decode cL_law 382 = .ok (.iload_n 3, 1) := by decide +kernel
theorem dL_law_383 : decode cL_law 383 = .ok (.iconst 1, 1) := by decide +kernel
theorem dL_law_384 : decode cL_law 384 = .ok (.iadd, 1) := by decide +kernel
theorem dL_law_385 : decode cL_law 385 = .ok (.iaload, 1) := by decide +kernel
theorem dL_law_386 : decode cL_law 386 = .ok (.aload_n 0, 1) := by decide +kernel
theorem dL_law_387 : decode cL_law 387 = .ok (.iload_n 3, 1) := by decide +kernel
theorem dL_law_388 : decode cL_law 388 = .ok (.iconst 2, 1) := by decide +kernel
theorem dL_law_389 : decode cL_law 389 = .ok (.iadd, 1) := by decide +kernel
theorem dL_law_390 : decode cL_law 390 = .ok (.iaload, 1) := by decide +kernel
theorem dL_law_391 : decode cL_law 391 = .ok (.aload_n 0, 1) := by decide +kernel
theorem dL_law_392 : decode cL_law 392 = .ok (.iload_n 3, 1) := by decide +kernel
theorem dL_law_393 : decode cL_law 393 = .ok (.iconst 3, 1) := by decide +kernel
theorem dL_law_394 : decode cL_law 394 = .ok (.iadd, 1) := by decide +kernel
theorem dL_law_395 : decode cL_law 395 = .ok (.iaload, 1) := by decide +kernel
theorem dL_law_396 : decode cL_law 396 = .ok (.invokevirtual 48, 3) := by decide +kernel
theorem dL_law_399 : decode cL_law 399 = .ok (.aload_n 2, 1) := by decide +kernel
theorem dL_law_400 : decode cL_law 400 = .ok (.aload_n 0, 1) := by decide +kernel
theorem dL_law_401 : decode cL_law 401 = .ok (.iload_n 3, 1) := by decide +kernel
theorem dL_law_402 : decode cL_law 402 = .ok (.iconst 1, 1) := by decide +kernel
theorem dL_law_403 : decode cL_law 403 = .ok (.iadd, 1) := by decide +kernel
theorem dL_law_404 : decode cL_law 404 = .ok (.iaload, 1) := by decide +kernel
theorem dL_law_405 : decode cL_law 405 = .ok (.aload_n 0, 1) := by decide +kernel
theorem dL_law_406 : decode cL_law 406 = .ok (.iload_n 3, 1) := by decide +kernel
theorem dL_law_407 : decode cL_law 407 = .ok (.iconst 2, 1) := by decide +kernel
theorem dL_law_408 : decode cL_law 408 = .ok (.iadd, 1) := by decide +kernel
theorem dL_law_409 : decode cL_law 409 = .ok (.iaload, 1) := by decide +kernel
theorem dL_law_410 : decode cL_law 410 = .ok (.aload_n 0, 1) := by decide +kernel
theorem dL_law_411 : decode cL_law 411 = .ok (.iload_n 3, 1) := by decide +kernel
theorem dL_law_412 : decode cL_law 412 = .ok (.iconst 3, 1) := by decide +kernel
theorem dL_law_413 : decode cL_law 413 = .ok (.iadd, 1) := by decide +kernel
theorem dL_law_414 : decode cL_law 414 = .ok (.iaload, 1) := by decide +kernel
theorem dL_law_415 : decode cL_law 415 = .ok (.invokevirtual 52, 3) := by decide +kernel
theorem dL_law_418 : decode cL_law 418 = .ok (.if_icmp .eq 519, 3) := by decide +kernel
theorem dL_law_421 : decode cL_law 421 = .ok (.iconst 0, 1) := by decide +kernel
theorem dL_law_422 : decode cL_law 422 = .ok (.ireturn, 1) := by decide +kernel
theorem dL_law_423 : decode cL_law 423 = .ok (.aload_n 1, 1) := by decide +kernel
theorem dL_law_424 : decode cL_law 424 = .ok (.aload_n 0, 1) := by decide +kernel
theorem dL_law_425 : decode cL_law 425 = .ok (.iload_n 3, 1) := by decide +kernel
theorem dL_law_426 : decode cL_law 426 = .ok (.iconst 1, 1) := by decide +kernel
theorem dL_law_427 : decode cL_law 427 = .ok (.iadd, 1) := by decide +kernel
theorem dL_law_428 : decode cL_law 428 = .ok (.iaload, 1) := by decide +kernel
theorem dL_law_429 : decode cL_law 429 = .ok (.invokevirtual 53, 3) := by decide +kernel
theorem dL_law_432 : decode cL_law 432 = .ok (.aload_n 2, 1) := by decide +kernel
theorem dL_law_433 : decode cL_law 433 = .ok (.aload_n 0, 1) := by decide +kernel
theorem dL_law_434 : decode cL_law 434 = .ok (.iload_n 3, 1) := by decide +kernel
theorem dL_law_435 : decode cL_law 435 = .ok (.iconst 1, 1) := by decide +kernel
theorem dL_law_436 : decode cL_law 436 = .ok (.iadd, 1) := by decide +kernel
theorem dL_law_437 : decode cL_law 437 = .ok (.iaload, 1) := by decide +kernel
theorem dL_law_438 : decode cL_law 438 = .ok (.invokevirtual 56, 3) := by decide +kernel
theorem dL_law_441 : decode cL_law 441 = .ok (.if_icmp .eq 496, 3) := by decide +kernel
theorem dL_law_444 : decode cL_law 444 = .ok (.iconst 0, 1) := by decide +kernel
theorem dL_law_445 : decode cL_law 445 = .ok (.ireturn, 1) := by decide +kernel
theorem dL_law_446 : decode cL_law 446 = .ok (.aload_n 1, 1) := by decide +kernel
theorem dL_law_447 : decode cL_law 447 = .ok (.aload_n 0, 1) := by decide +kernel
theorem dL_law_448 : decode cL_law 448 = .ok (.iload_n 3, 1) := by decide +kernel
theorem dL_law_449 : decode cL_law 449 = .ok (.iconst 1, 1) := by decide +kernel
theorem dL_law_450 : decode cL_law 450 = .ok (.iadd, 1) := by decide +kernel
theorem dL_law_451 : decode cL_law 451 = .ok (.iaload, 1) := by decide +kernel
theorem dL_law_452 : decode cL_law 452 = .ok (.aload_n 0, 1) := by decide +kernel
theorem dL_law_453 : decode cL_law 453 = .ok (.iload_n 3, 1) := by decide +kernel
theorem dL_law_454 : decode cL_law 454 = .ok (.iconst 2, 1) := by decide +kernel
theorem dL_law_455 : decode cL_law 455 = .ok (.iadd, 1) := by decide +kernel
theorem dL_law_456 : decode cL_law 456 = .ok (.iaload, 1) := by decide +kernel
theorem dL_law_457 : decode cL_law 457 = .ok (.aload_n 0, 1) := by decide +kernel
theorem dL_law_458 : decode cL_law 458 = .ok (.iload_n 3, 1) := by decide +kernel
theorem dL_law_459 : decode cL_law 459 = .ok (.iconst 3, 1) := by decide +kernel
theorem dL_law_460 : decode cL_law 460 = .ok (.iadd, 1) := by decide +kernel
theorem dL_law_461 : decode cL_law 461 = .ok (.iaload, 1) := by decide +kernel
theorem dL_law_462 : decode cL_law 462 = .ok (.invokevirtual 57, 3) := by decide +kernel
theorem dL_law_465 : decode cL_law 465 = .ok (.aload_n 2, 1) := by decide +kernel
theorem dL_law_466 : decode cL_law 466 = .ok (.aload_n 0, 1) := by decide +kernel
theorem dL_law_467 : decode cL_law 467 = .ok (.iload_n 3, 1) := by decide +kernel
theorem dL_law_468 : decode cL_law 468 = .ok (.iconst 1, 1) := by decide +kernel
theorem dL_law_469 : decode cL_law 469 = .ok (.iadd, 1) := by decide +kernel
theorem dL_law_470 : decode cL_law 470 = .ok (.iaload, 1) := by decide +kernel
theorem dL_law_471 : decode cL_law 471 = .ok (.aload_n 0, 1) := by decide +kernel
theorem dL_law_472 : decode cL_law 472 = .ok (.iload_n 3, 1) := by decide +kernel
theorem dL_law_473 : decode cL_law 473 = .ok (.iconst 2, 1) := by decide +kernel
theorem dL_law_474 : decode cL_law 474 = .ok (.iadd, 1) := by decide +kernel
theorem dL_law_475 : decode cL_law 475 = .ok (.iaload, 1) := by decide +kernel
theorem dL_law_476 : decode cL_law 476 = .ok (.aload_n 0, 1) := by decide +kernel
theorem dL_law_477 : decode cL_law 477 = .ok (.iload_n 3, 1) := by decide +kernel
theorem dL_law_478 : decode cL_law 478 = .ok (.iconst 3, 1) := by decide +kernel
theorem dL_law_479 : decode cL_law 479 = .ok (.iadd, 1) := by decide +kernel
theorem dL_law_480 : decode cL_law 480 = .ok (.iaload, 1) := by decide +kernel
theorem dL_law_481 : decode cL_law 481 = .ok (.invokevirtual 60, 3) := by decide +kernel
theorem dL_law_484 : decode cL_law 484 = .ok (.if_icmp .eq 453, 3) := by decide +kernel
theorem dL_law_487 : decode cL_law 487 = .ok (.iconst 0, 1) := by decide +kernel
theorem dL_law_488 : decode cL_law 488 = .ok (.ireturn, 1) := by decide +kernel
theorem dL_law_489 : decode cL_law 489 = .ok (.aload_n 1, 1) := by decide +kernel
theorem dL_law_490 : decode cL_law 490 = .ok (.aload_n 0, 1) := by decide +kernel
theorem dL_law_491 : decode cL_law 491 = .ok (.iload_n 3, 1) := by decide +kernel
theorem dL_law_492 : decode cL_law 492 = .ok (.iconst 1, 1) := by decide +kernel
theorem dL_law_493 : decode cL_law 493 = .ok (.iadd, 1) := by decide +kernel
theorem dL_law_494 : decode cL_law 494 = .ok (.iaload, 1) := by decide +kernel
theorem dL_law_495 : decode cL_law 495 = .ok (.aload_n 0, 1) := by decide +kernel
theorem dL_law_496 : decode cL_law 496 = .ok (.iload_n 3, 1) := by decide +kernel
theorem dL_law_497 : decode cL_law 497 = .ok (.iconst 2, 1) := by decide +kernel
theorem dL_law_498 : decode cL_law 498 = .ok (.iadd, 1) := by decide +kernel
theorem dL_law_499 : decode cL_law 499 = .ok (.iaload, 1) := by decide +kernel
theorem dL_law_500 : decode cL_law 500 = .ok (.invokevirtual 61, 3) := by decide +kernel
theorem dL_law_503 : decode cL_law 503 = .ok (.aload_n 2, 1) := by decide +kernel
theorem dL_law_504 : decode cL_law 504 = .ok (.aload_n 0, 1) := by decide +kernel
theorem dL_law_505 : decode cL_law 505 = .ok (.iload_n 3, 1) := by decide +kernel
theorem dL_law_506 : decode cL_law 506 = .ok (.iconst 1, 1) := by decide +kernel
theorem dL_law_507 : decode cL_law 507 = .ok (.iadd, 1) := by decide +kernel
theorem dL_law_508 : decode cL_law 508 = .ok (.iaload, 1) := by decide +kernel
theorem dL_law_509 : decode cL_law 509 = .ok (.aload_n 0, 1) := by decide +kernel
theorem dL_law_510 : decode cL_law 510 = .ok (.iload_n 3, 1) := by decide +kernel
theorem dL_law_511 : decode cL_law 511 = .ok (.iconst 2, 1) := by decide +kernel
theorem dL_law_512 : decode cL_law 512 = .ok (.iadd, 1) := by decide +kernel
theorem dL_law_513 : decode cL_law 513 = .ok (.iaload, 1) := by decide +kernel
theorem dL_law_514 : decode cL_law 514 = .ok (.invokevirtual 64, 3) := by decide +kernel
theorem dL_law_517 : decode cL_law 517 = .ok (.if_icmp .eq 420, 3) := by decide +kernel
theorem dL_law_520 : decode cL_law 520 = .ok (.iconst 0, 1) := by decide +kernel
theorem dL_law_521 : decode cL_law 521 = .ok (.ireturn, 1) := by decide +kernel
theorem dL_law_522 : decode cL_law 522 = .ok (.aload_n 1, 1) := by decide +kernel
theorem dL_law_523 : decode cL_law 523 = .ok (.aload_n 0, 1) := by decide +kernel
theorem dL_law_524 : decode cL_law 524 = .ok (.iload_n 3, 1) := by decide +kernel
theorem dL_law_525 : decode cL_law 525 = .ok (.iconst 1, 1) := by decide +kernel
theorem dL_law_526 : decode cL_law 526 = .ok (.iadd, 1) := by decide +kernel
theorem dL_law_527 : decode cL_law 527 = .ok (.iaload, 1) := by decide +kernel
theorem dL_law_528 : decode cL_law 528 = .ok (.aload_n 0, 1) := by decide +kernel
theorem dL_law_529 : decode cL_law 529 = .ok (.iload_n 3, 1) := by decide +kernel
theorem dL_law_530 : decode cL_law 530 = .ok (.iconst 2, 1) := by decide +kernel
theorem dL_law_531 : decode cL_law 531 = .ok (.iadd, 1) := by decide +kernel
theorem dL_law_532 : decode cL_law 532 = .ok (.iaload, 1) := by decide +kernel
theorem dL_law_533 : decode cL_law 533 = .ok (.aload_n 0, 1) := by decide +kernel
theorem dL_law_534 : decode cL_law 534 = .ok (.iload_n 3, 1) := by decide +kernel
theorem dL_law_535 : decode cL_law 535 = .ok (.iconst 3, 1) := by decide +kernel
theorem dL_law_536 : decode cL_law 536 = .ok (.iadd, 1) := by decide +kernel
theorem dL_law_537 : decode cL_law 537 = .ok (.iaload, 1) := by decide +kernel
theorem dL_law_538 : decode cL_law 538 = .ok (.invokevirtual 65, 3) := by decide +kernel
theorem dL_law_541 : decode cL_law 541 = .ok (.aload_n 2, 1) := by decide +kernel
theorem dL_law_542 : decode cL_law 542 = .ok (.aload_n 0, 1) := by decide +kernel
theorem dL_law_543 : decode cL_law 543 = .ok (.iload_n 3, 1) := by decide +kernel
theorem dL_law_544 : decode cL_law 544 = .ok (.iconst 1, 1) := by decide +kernel
theorem dL_law_545 : decode cL_law 545 = .ok (.iadd, 1) := by decide +kernel
theorem dL_law_546 : decode cL_law 546 = .ok (.iaload, 1) := by decide +kernel
theorem dL_law_547 : decode cL_law 547 = .ok (.aload_n 0, 1) := by decide +kernel
theorem dL_law_548 : decode cL_law 548 = .ok (.iload_n 3, 1) := by decide +kernel
theorem dL_law_549 : decode cL_law 549 = .ok (.iconst 2, 1) := by decide +kernel
theorem dL_law_550 : decode cL_law 550 = .ok (.iadd, 1) := by decide +kernel
theorem dL_law_551 : decode cL_law 551 = .ok (.iaload, 1) := by decide +kernel
theorem dL_law_552 : decode cL_law 552 = .ok (.aload_n 0, 1) := by decide +kernel
theorem dL_law_553 : decode cL_law 553 = .ok (.iload_n 3, 1) := by decide +kernel
theorem dL_law_554 : decode cL_law 554 = .ok (.iconst 3, 1) := by decide +kernel
theorem dL_law_555 : decode cL_law 555 = .ok (.iadd, 1) := by decide +kernel
theorem dL_law_556 : decode cL_law 556 = .ok (.iaload, 1) := by decide +kernel
theorem dL_law_557 : decode cL_law 557 = .ok (.invokevirtual 68, 3) := by decide +kernel
theorem dL_law_560 : decode cL_law 560 = .ok (.if_icmp .eq 377, 3) := by decide +kernel
theorem dL_law_563 : decode cL_law 563 = .ok (.iconst 0, 1) := by decide +kernel
theorem dL_law_564 : decode cL_law 564 = .ok (.ireturn, 1) := by decide +kernel
theorem dL_law_565 : decode cL_law 565 = .ok (.aload_n 1, 1) := by decide +kernel
theorem dL_law_566 : decode cL_law 566 = .ok (.aload_n 0, 1) := by decide +kernel
theorem dL_law_567 : decode cL_law 567 = .ok (.iload_n 3, 1) := by decide +kernel
theorem dL_law_568 : decode cL_law 568 = .ok (.iconst 1, 1) := by decide +kernel
theorem dL_law_569 : decode cL_law 569 = .ok (.iadd, 1) := by decide +kernel
theorem dL_law_570 : decode cL_law 570 = .ok (.iaload, 1) := by decide +kernel
theorem dL_law_571 : decode cL_law 571 = .ok (.invokevirtual 69, 3) := by decide +kernel
theorem dL_law_574 : decode cL_law 574 = .ok (.aload_n 2, 1) := by decide +kernel
theorem dL_law_575 : decode cL_law 575 = .ok (.aload_n 0, 1) := by decide +kernel
theorem dL_law_576 : decode cL_law 576 = .ok (.iload_n 3, 1) := by decide +kernel
theorem dL_law_577 : decode cL_law 577 = .ok (.iconst 1, 1) := by decide +kernel
theorem dL_law_578 : decode cL_law 578 = .ok (.iadd, 1) := by decide +kernel
theorem dL_law_579 : decode cL_law 579 = .ok (.iaload, 1) := by decide +kernel
theorem dL_law_580 : decode cL_law 580 = .ok (.invokevirtual 72, 3) := by decide +kernel
theorem dL_law_583 : decode cL_law 583 = .ok (.if_icmp .eq 354, 3) := by decide +kernel
theorem dL_law_586 : decode cL_law 586 = .ok (.iconst 0, 1) := by decide +kernel
theorem dL_law_587 : decode cL_law 587 = .ok (.ireturn, 1) := by decide +kernel
theorem dL_law_588 : decode cL_law 588 = .ok (.aload_n 1, 1) := by decide +kernel
theorem dL_law_589 : decode cL_law 589 = .ok (.aload_n 0, 1) := by decide +kernel
theorem dL_law_590 : decode cL_law 590 = .ok (.iload_n 3, 1) := by decide +kernel
theorem dL_law_591 : decode cL_law 591 = .ok (.iconst 1, 1) := by decide +kernel
theorem dL_law_592 : decode cL_law 592 = .ok (.iadd, 1) := by decide +kernel
theorem dL_law_593 : decode cL_law 593 = .ok (.iaload, 1) := by decide +kernel
theorem dL_law_594 : decode cL_law 594 = .ok (.aload_n 0, 1) := by decide +kernel
theorem dL_law_595 : decode cL_law 595 = .ok (.iload_n 3, 1) := by decide +kernel
theorem dL_law_596 : decode cL_law 596 = .ok (.iconst 2, 1) := by decide +kernel
theorem dL_law_597 : decode cL_law 597 = .ok (.iadd, 1) := by decide +kernel
theorem dL_law_598 : decode cL_law 598 = .ok (.iaload, 1) := by decide +kernel
theorem dL_law_599 : decode cL_law 599 = .ok (.aload_n 0, 1) := by decide +kernel
theorem dL_law_600 : decode cL_law 600 = .ok (.iload_n 3, 1) := by decide +kernel
theorem dL_law_601 : decode cL_law 601 = .ok (.iconst 3, 1) := by decide +kernel
theorem dL_law_602 : decode cL_law 602 = .ok (.iadd, 1) := by decide +kernel
theorem dL_law_603 : decode cL_law 603 = .ok (.iaload, 1) := by decide +kernel
theorem dL_law_604 : decode cL_law 604 = .ok (.invokevirtual 73, 3) := by decide +kernel
theorem dL_law_607 : decode cL_law 607 = .ok (.aload_n 2, 1) := by decide +kernel
theorem dL_law_608 : decode cL_law 608 = .ok (.aload_n 0, 1) := by decide +kernel
theorem dL_law_609 : decode cL_law 609 = .ok (.iload_n 3, 1) := by decide +kernel
theorem dL_law_610 : decode cL_law 610 = .ok (.iconst 1, 1) := by decide +kernel
theorem dL_law_611 : decode cL_law 611 = .ok (.iadd, 1) := by decide +kernel
theorem dL_law_612 : decode cL_law 612 = .ok (.iaload, 1) := by decide +kernel
theorem dL_law_613 : decode cL_law 613 = .ok (.aload_n 0, 1) := by decide +kernel
theorem dL_law_614 : decode cL_law 614 = .ok (.iload_n 3, 1) := by decide +kernel
theorem dL_law_615 : decode cL_law 615 = .ok (.iconst 2, 1) := by decide +kernel
theorem dL_law_616 : decode cL_law 616 = .ok (.iadd, 1) := by decide +kernel
theorem dL_law_617 : decode cL_law 617 = .ok (.iaload, 1) := by decide +kernel
theorem dL_law_618 : decode cL_law 618 = .ok (.aload_n 0, 1) := by decide +kernel
theorem dL_law_619 : decode cL_law 619 = .ok (.iload_n 3, 1) := by decide +kernel
theorem dL_law_620 : decode cL_law 620 = .ok (.iconst 3, 1) := by decide +kernel
theorem dL_law_621 : decode cL_law 621 = .ok (.iadd, 1) := by decide +kernel
theorem dL_law_622 : decode cL_law 622 = .ok (.iaload, 1) := by decide +kernel
theorem dL_law_623 : decode cL_law 623 = .ok (.invokevirtual 76, 3) := by decide +kernel
theorem dL_law_626 : decode cL_law 626 = .ok (.if_icmp .eq 311, 3) := by decide +kernel
theorem dL_law_629 : decode cL_law 629 = .ok (.iconst 0, 1) := by decide +kernel
theorem dL_law_630 : decode cL_law 630 = .ok (.ireturn, 1) := by decide +kernel
theorem dL_law_631 : decode cL_law 631 = .ok (.aload_n 1, 1) := by decide +kernel
theorem dL_law_632 : decode cL_law 632 = .ok (.aload_n 0, 1) := by decide +kernel
theorem dL_law_633 : decode cL_law 633 = .ok (.iload_n 3, 1) := by decide +kernel
theorem dL_law_634 : decode cL_law 634 = .ok (.iconst 1, 1) := by decide +kernel
theorem dL_law_635 : decode cL_law 635 = .ok (.iadd, 1) := by decide +kernel
theorem dL_law_636 : decode cL_law 636 = .ok (.iaload, 1) := by decide +kernel
theorem dL_law_637 : decode cL_law 637 = .ok (.aload_n 0, 1) := by decide +kernel
theorem dL_law_638 : decode cL_law 638 = .ok (.iload_n 3, 1) := by decide +kernel
theorem dL_law_639 : decode cL_law 639 = .ok (.iconst 2, 1) := by decide +kernel
theorem dL_law_640 : decode cL_law 640 = .ok (.iadd, 1) := by decide +kernel
theorem dL_law_641 : decode cL_law 641 = .ok (.iaload, 1) := by decide +kernel
theorem dL_law_642 : decode cL_law 642 = .ok (.aload_n 0, 1) := by decide +kernel
theorem dL_law_643 : decode cL_law 643 = .ok (.iload_n 3, 1) := by decide +kernel
theorem dL_law_644 : decode cL_law 644 = .ok (.iconst 3, 1) := by decide +kernel
theorem dL_law_645 : decode cL_law 645 = .ok (.iadd, 1) := by decide +kernel
theorem dL_law_646 : decode cL_law 646 = .ok (.iaload, 1) := by decide +kernel
theorem dL_law_647 : decode cL_law 647 = .ok (.invokevirtual 77, 3) := by decide +kernel
theorem dL_law_650 : decode cL_law 650 = .ok (.aload_n 2, 1) := by decide +kernel
theorem dL_law_651 : decode cL_law 651 = .ok (.aload_n 0, 1) := by decide +kernel
theorem dL_law_652 : decode cL_law 652 = .ok (.iload_n 3, 1) := by decide +kernel
theorem dL_law_653 : decode cL_law 653 = .ok (.iconst 1, 1) := by decide +kernel
theorem dL_law_654 : decode cL_law 654 = .ok (.iadd, 1) := by decide +kernel
theorem dL_law_655 : decode cL_law 655 = .ok (.iaload, 1) := by decide +kernel
theorem dL_law_656 : decode cL_law 656 = .ok (.aload_n 0, 1) := by decide +kernel
theorem dL_law_657 : decode cL_law 657 = .ok (.iload_n 3, 1) := by decide +kernel
theorem dL_law_658 : decode cL_law 658 = .ok (.iconst 2, 1) := by decide +kernel
theorem dL_law_659 : decode cL_law 659 = .ok (.iadd, 1) := by decide +kernel
theorem dL_law_660 : decode cL_law 660 = .ok (.iaload, 1) := by decide +kernel
theorem dL_law_661 : decode cL_law 661 = .ok (.aload_n 0, 1) := by decide +kernel
theorem dL_law_662 : decode cL_law 662 = .ok (.iload_n 3, 1) := by decide +kernel
theorem dL_law_663 : decode cL_law 663 = .ok (.iconst 3, 1) := by decide +kernel
theorem dL_law_664 : decode cL_law 664 = .ok (.iadd, 1) := by decide +kernel
theorem dL_law_665 : decode cL_law 665 = .ok (.iaload, 1) := by decide +kernel
theorem dL_law_666 : decode cL_law 666 = .ok (.invokevirtual 80, 3) := by decide +kernel
theorem dL_law_669 : decode cL_law 669 = .ok (.if_icmp .eq 268, 3) := by decide +kernel
theorem dL_law_672 : decode cL_law 672 = .ok (.iconst 0, 1) := by decide +kernel
theorem dL_law_673 : decode cL_law 673 = .ok (.ireturn, 1) := by decide +kernel
theorem dL_law_674 : decode cL_law 674 = .ok (.aload_n 1, 1) := by decide +kernel
theorem dL_law_675 : decode cL_law 675 = .ok (.aload_n 0, 1) := by decide +kernel
theorem dL_law_676 : decode cL_law 676 = .ok (.iload_n 3, 1) := by decide +kernel
theorem dL_law_677 : decode cL_law 677 = .ok (.iconst 1, 1) := by decide +kernel
theorem dL_law_678 : decode cL_law 678 = .ok (.iadd, 1) := by decide +kernel
theorem dL_law_679 : decode cL_law 679 = .ok (.iaload, 1) := by decide +kernel
theorem dL_law_680 : decode cL_law 680 = .ok (.aload_n 0, 1) := by decide +kernel
theorem dL_law_681 : decode cL_law 681 = .ok (.iload_n 3, 1) := by decide +kernel
theorem dL_law_682 : decode cL_law 682 = .ok (.iconst 2, 1) := by decide +kernel
theorem dL_law_683 : decode cL_law 683 = .ok (.iadd, 1) := by decide +kernel
theorem dL_law_684 : decode cL_law 684 = .ok (.iaload, 1) := by decide +kernel
theorem dL_law_685 : decode cL_law 685 = .ok (.aload_n 0, 1) := by decide +kernel
theorem dL_law_686 : decode cL_law 686 = .ok (.iload_n 3, 1) := by decide +kernel
theorem dL_law_687 : decode cL_law 687 = .ok (.iconst 3, 1) := by decide +kernel
theorem dL_law_688 : decode cL_law 688 = .ok (.iadd, 1) := by decide +kernel
theorem dL_law_689 : decode cL_law 689 = .ok (.iaload, 1) := by decide +kernel
theorem dL_law_690 : decode cL_law 690 = .ok (.invokevirtual 81, 3) := by decide +kernel
theorem dL_law_693 : decode cL_law 693 = .ok (.aload_n 2, 1) := by decide +kernel
theorem dL_law_694 : decode cL_law 694 = .ok (.aload_n 0, 1) := by decide +kernel
theorem dL_law_695 : decode cL_law 695 = .ok (.iload_n 3, 1) := by decide +kernel
theorem dL_law_696 : decode cL_law 696 = .ok (.iconst 1, 1) := by decide +kernel
theorem dL_law_697 : decode cL_law 697 = .ok (.iadd, 1) := by decide +kernel
theorem dL_law_698 : decode cL_law 698 = .ok (.iaload, 1) := by decide +kernel
theorem dL_law_699 : decode cL_law 699 = .ok (.aload_n 0, 1) := by decide +kernel
theorem dL_law_700 : decode cL_law 700 = .ok (.iload_n 3, 1) := by decide +kernel
theorem dL_law_701 : decode cL_law 701 = .ok (.iconst 2, 1) := by decide +kernel
theorem dL_law_702 : decode cL_law 702 = .ok (.iadd, 1) := by decide +kernel
theorem dL_law_703 : decode cL_law 703 = .ok (.iaload, 1) := by decide +kernel
theorem dL_law_704 : decode cL_law 704 = .ok (.aload_n 0, 1) := by decide +kernel
theorem dL_law_705 : decode cL_law 705 = .ok (.iload_n 3, 1) := by decide +kernel
theorem dL_law_706 : decode cL_law 706 = .ok (.iconst 3, 1) := by decide +kernel
theorem dL_law_707 : decode cL_law 707 = .ok (.iadd, 1) := by decide +kernel
theorem dL_law_708 : decode cL_law 708 = .ok (.iaload, 1) := by decide +kernel
theorem dL_law_709 : decode cL_law 709 = .ok (.invokevirtual 84, 3) := by decide +kernel
theorem dL_law_712 : decode cL_law 712 = .ok (.if_icmp .eq 225, 3) := by decide +kernel
theorem dL_law_715 : decode cL_law 715 = .ok (.iconst 0, 1) := by decide +kernel
theorem dL_law_716 : decode cL_law 716 = .ok (.ireturn, 1) := by decide +kernel
theorem dL_law_717 : decode cL_law 717 = .ok (.aload_n 1, 1) := by decide +kernel
theorem dL_law_718 : decode cL_law 718 = .ok (.aload_n 0, 1) := by decide +kernel
theorem dL_law_719 : decode cL_law 719 = .ok (.iload_n 3, 1) := by decide +kernel
theorem dL_law_720 : decode cL_law 720 = .ok (.iconst 1, 1) := by decide +kernel
theorem dL_law_721 : decode cL_law 721 = .ok (.iadd, 1) := by decide +kernel
theorem dL_law_722 : decode cL_law 722 = .ok (.iaload, 1) := by decide +kernel
theorem dL_law_723 : decode cL_law 723 = .ok (.invokevirtual 85, 3) := by decide +kernel
theorem dL_law_726 : decode cL_law 726 = .ok (.aload_n 2, 1) := by decide +kernel
theorem dL_law_727 : decode cL_law 727 = .ok (.aload_n 0, 1) := by decide +kernel
theorem dL_law_728 : decode cL_law 728 = .ok (.iload_n 3, 1) := by decide +kernel
theorem dL_law_729 : decode cL_law 729 = .ok (.iconst 1, 1) := by decide +kernel
theorem dL_law_730 : decode cL_law 730 = .ok (.iadd, 1) := by decide +kernel
theorem dL_law_731 : decode cL_law 731 = .ok (.iaload, 1) := by decide +kernel
theorem dL_law_732 : decode cL_law 732 = .ok (.invokevirtual 88, 3) := by decide +kernel
theorem dL_law_735 : decode cL_law 735 = .ok (.if_icmp .eq 202, 3) := by decide +kernel
theorem dL_law_738 : decode cL_law 738 = .ok (.iconst 0, 1) := by decide +kernel
theorem dL_law_739 : decode cL_law 739 = .ok (.ireturn, 1) := by decide +kernel
theorem dL_law_740 : decode cL_law 740 = .ok (.aload_n 1, 1) := by decide +kernel
theorem dL_law_741 : decode cL_law 741 = .ok (.aload_n 0, 1) := by decide +kernel
theorem dL_law_742 : decode cL_law 742 = .ok (.iload_n 3, 1) := by decide +kernel
theorem dL_law_743 : decode cL_law 743 = .ok (.iconst 1, 1) := by decide +kernel
theorem dL_law_744 : decode cL_law 744 = .ok (.iadd, 1) := by decide +kernel
theorem dL_law_745 : decode cL_law 745 = .ok (.iaload, 1) := by decide +kernel
theorem dL_law_746 : decode cL_law 746 = .ok (.invokevirtual 89, 3) := by decide +kernel
theorem dL_law_749 : decode cL_law 749 = .ok (.aload_n 2, 1) := by decide +kernel
theorem dL_law_750 : decode cL_law 750 = .ok (.aload_n 0, 1) := by decide +kernel
theorem dL_law_751 : decode cL_law 751 = .ok (.iload_n 3, 1) := by decide +kernel
theorem dL_law_752 : decode cL_law 752 = .ok (.iconst 1, 1) := by decide +kernel
theorem dL_law_753 : decode cL_law 753 = .ok (.iadd, 1) := by decide +kernel
theorem dL_law_754 : decode cL_law 754 = .ok (.iaload, 1) := by decide +kernel
theorem dL_law_755 : decode cL_law 755 = .ok (.invokevirtual 92, 3) := by decide +kernel
theorem dL_law_758 : decode cL_law 758 = .ok (.if_icmp .eq 179, 3) := by decide +kernel
theorem dL_law_761 : decode cL_law 761 = .ok (.iconst 0, 1) := by decide +kernel
theorem dL_law_762 : decode cL_law 762 = .ok (.ireturn, 1) := by decide +kernel
theorem dL_law_763 : decode cL_law 763 = .ok (.aload_n 1, 1) := by decide +kernel
theorem dL_law_764 : decode cL_law 764 = .ok (.aload_n 0, 1) := by decide +kernel
theorem dL_law_765 : decode cL_law 765 = .ok (.iload_n 3, 1) := by decide +kernel
theorem dL_law_766 : decode cL_law 766 = .ok (.iconst 1, 1) := by decide +kernel
theorem dL_law_767 : decode cL_law 767 = .ok (.iadd, 1) := by decide +kernel
theorem dL_law_768 : decode cL_law 768 = .ok (.iaload, 1) := by decide +kernel
theorem dL_law_769 : decode cL_law 769 = .ok (.invokevirtual 93, 3) := by decide +kernel
theorem dL_law_772 : decode cL_law 772 = .ok (.aload_n 2, 1) := by decide +kernel
theorem dL_law_773 : decode cL_law 773 = .ok (.aload_n 0, 1) := by decide +kernel
theorem dL_law_774 : decode cL_law 774 = .ok (.iload_n 3, 1) := by decide +kernel
theorem dL_law_775 : decode cL_law 775 = .ok (.iconst 1, 1) := by decide +kernel
theorem dL_law_776 : decode cL_law 776 = .ok (.iadd, 1) := by decide +kernel
theorem dL_law_777 : decode cL_law 777 = .ok (.iaload, 1) := by decide +kernel
theorem dL_law_778 : decode cL_law 778 = .ok (.invokevirtual 96, 3) := by decide +kernel
theorem dL_law_781 : decode cL_law 781 = .ok (.if_icmp .eq 156, 3) := by decide +kernel
theorem dL_law_784 : decode cL_law 784 = .ok (.iconst 0, 1) := by decide +kernel
theorem dL_law_785 : decode cL_law 785 = .ok (.ireturn, 1) := by decide +kernel
theorem dL_law_786 : decode cL_law 786 = .ok (.aload_n 1, 1) := by decide +kernel
theorem dL_law_787 : decode cL_law 787 = .ok (.aload_n 0, 1) := by decide +kernel
theorem dL_law_788 : decode cL_law 788 = .ok (.iload_n 3, 1) := by decide +kernel
theorem dL_law_789 : decode cL_law 789 = .ok (.iconst 1, 1) := by decide +kernel
theorem dL_law_790 : decode cL_law 790 = .ok (.iadd, 1) := by decide +kernel
theorem dL_law_791 : decode cL_law 791 = .ok (.iaload, 1) := by decide +kernel
theorem dL_law_792 : decode cL_law 792 = .ok (.i2l, 1) := by decide +kernel
theorem dL_law_793 : decode cL_law 793 = .ok (.bipush 32, 2) := by decide +kernel
theorem dL_law_795 : decode cL_law 795 = .ok (.lshl, 1) := by decide +kernel
theorem dL_law_796 : decode cL_law 796 = .ok (.aload_n 0, 1) := by decide +kernel
theorem dL_law_797 : decode cL_law 797 = .ok (.iload_n 3, 1) := by decide +kernel
theorem dL_law_798 : decode cL_law 798 = .ok (.iconst 2, 1) := by decide +kernel
theorem dL_law_799 : decode cL_law 799 = .ok (.iadd, 1) := by decide +kernel
theorem dL_law_800 : decode cL_law 800 = .ok (.iaload, 1) := by decide +kernel
theorem dL_law_801 : decode cL_law 801 = .ok (.i2l, 1) := by decide +kernel
theorem dL_law_802 : decode cL_law 802 = .ok (.ldc2_w 97, 3) := by decide +kernel
theorem dL_law_805 : decode cL_law 805 = .ok (.land, 1) := by decide +kernel
theorem dL_law_806 : decode cL_law 806 = .ok (.lor, 1) := by decide +kernel
theorem dL_law_807 : decode cL_law 807 = .ok (.invokevirtual 99, 3) := by decide +kernel
theorem dL_law_810 : decode cL_law 810 = .ok (.aload_n 2, 1) := by decide +kernel
theorem dL_law_811 : decode cL_law 811 = .ok (.aload_n 0, 1) := by decide +kernel
theorem dL_law_812 : decode cL_law 812 = .ok (.iload_n 3, 1) := by decide +kernel
theorem dL_law_813 : decode cL_law 813 = .ok (.iconst 1, 1) := by decide +kernel
theorem dL_law_814 : decode cL_law 814 = .ok (.iadd, 1) := by decide +kernel
theorem dL_law_815 : decode cL_law 815 = .ok (.iaload, 1) := by decide +kernel
theorem dL_law_816 : decode cL_law 816 = .ok (.i2l, 1) := by decide +kernel
theorem dL_law_817 : decode cL_law 817 = .ok (.bipush 32, 2) := by decide +kernel
theorem dL_law_819 : decode cL_law 819 = .ok (.lshl, 1) := by decide +kernel
theorem dL_law_820 : decode cL_law 820 = .ok (.aload_n 0, 1) := by decide +kernel
theorem dL_law_821 : decode cL_law 821 = .ok (.iload_n 3, 1) := by decide +kernel
theorem dL_law_822 : decode cL_law 822 = .ok (.iconst 2, 1) := by decide +kernel
theorem dL_law_823 : decode cL_law 823 = .ok (.iadd, 1) := by decide +kernel
theorem dL_law_824 : decode cL_law 824 = .ok (.iaload, 1) := by decide +kernel
theorem dL_law_825 : decode cL_law 825 = .ok (.i2l, 1) := by decide +kernel
theorem dL_law_826 : decode cL_law 826 = .ok (.ldc2_w 97, 3) := by decide +kernel
theorem dL_law_829 : decode cL_law 829 = .ok (.land, 1) := by decide +kernel
theorem dL_law_830 : decode cL_law 830 = .ok (.lor, 1) := by decide +kernel
theorem dL_law_831 : decode cL_law 831 = .ok (.invokevirtual 103, 3) := by decide +kernel
theorem dL_law_834 : decode cL_law 834 = .ok (.if_icmp .eq 103, 3) := by decide +kernel
theorem dL_law_837 : decode cL_law 837 = .ok (.iconst 0, 1) := by decide +kernel
theorem dL_law_838 : decode cL_law 838 = .ok (.ireturn, 1) := by decide +kernel
theorem dL_law_839 : decode cL_law 839 = .ok (.aload_n 1, 1) := by decide +kernel
theorem dL_law_840 : decode cL_law 840 = .ok (.invokevirtual 104, 3) := by decide +kernel
theorem dL_law_843 : decode cL_law 843 = .ok (.aload_n 2, 1) := by decide +kernel
theorem dL_law_844 : decode cL_law 844 = .ok (.invokevirtual 108, 3) := by decide +kernel
theorem dL_law_847 : decode cL_law 847 = .ok (.if_icmp .eq 90, 3) := by decide +kernel
theorem dL_law_850 : decode cL_law 850 = .ok (.iconst 0, 1) := by decide +kernel
theorem dL_law_851 : decode cL_law 851 = .ok (.ireturn, 1) := by decide +kernel
theorem dL_law_852 : decode cL_law 852 = .ok (.aload_n 1, 1) := by decide +kernel
theorem dL_law_853 : decode cL_law 853 = .ok (.invokevirtual 109, 3) := by decide +kernel
theorem dL_law_856 : decode cL_law 856 = .ok (.aload_n 2, 1) := by decide +kernel
theorem dL_law_857 : decode cL_law 857 = .ok (.invokevirtual 112, 3) := by decide +kernel
theorem dL_law_860 : decode cL_law 860 = .ok (.if_icmp .eq 77, 3) := by decide +kernel
theorem dL_law_863 : decode cL_law 863 = .ok (.iconst 0, 1) := by decide +kernel
theorem dL_law_864 : decode cL_law 864 = .ok (.ireturn, 1) := by decide +kernel
theorem dL_law_865 : decode cL_law 865 = .ok (.aload_n 1, 1) := by decide +kernel
theorem dL_law_866 : decode cL_law 866 = .ok (.invokevirtual 113, 3) := by decide +kernel
theorem dL_law_869 : decode cL_law 869 = .ok (.aload_n 2, 1) := by decide +kernel
theorem dL_law_870 : decode cL_law 870 = .ok (.invokevirtual 116, 3) := by decide +kernel
theorem dL_law_873 : decode cL_law 873 = .ok (.if_icmp .eq 64, 3) := by decide +kernel
theorem dL_law_876 : decode cL_law 876 = .ok (.iconst 0, 1) := by decide +kernel
theorem dL_law_877 : decode cL_law 877 = .ok (.ireturn, 1) := by decide +kernel
theorem dL_law_878 : decode cL_law 878 = .ok (.aload_n 1, 1) := by decide +kernel
theorem dL_law_879 : decode cL_law 879 = .ok (.invokevirtual 117, 3) := by decide +kernel
theorem dL_law_882 : decode cL_law 882 = .ok (.aload_n 2, 1) := by decide +kernel
theorem dL_law_883 : decode cL_law 883 = .ok (.invokevirtual 120, 3) := by decide +kernel
theorem dL_law_886 : decode cL_law 886 = .ok (.if_icmp .eq 51, 3) := by decide +kernel
theorem dL_law_889 : decode cL_law 889 = .ok (.iconst 0, 1) := by decide +kernel
theorem dL_law_890 : decode cL_law 890 = .ok (.ireturn, 1) := by decide +kernel
theorem dL_law_891 : decode cL_law 891 = .ok (.aload_n 1, 1) := by decide +kernel
theorem dL_law_892 : decode cL_law 892 = .ok (.aload_n 0, 1) := by decide +kernel
theorem dL_law_893 : decode cL_law 893 = .ok (.iload_n 3, 1) := by decide +kernel
theorem dL_law_894 : decode cL_law 894 = .ok (.iconst 1, 1) := by decide +kernel
theorem dL_law_895 : decode cL_law 895 = .ok (.iadd, 1) := by decide +kernel
theorem dL_law_896 : decode cL_law 896 = .ok (.iaload, 1) := by decide +kernel
theorem dL_law_897 : decode cL_law 897 = .ok (.invokevirtual 121, 3) := by decide +kernel
theorem dL_law_900 : decode cL_law 900 = .ok (.aload_n 2, 1) := by decide +kernel
theorem dL_law_901 : decode cL_law 901 = .ok (.aload_n 0, 1) := by decide +kernel
theorem dL_law_902 : decode cL_law 902 = .ok (.iload_n 3, 1) := by decide +kernel
theorem dL_law_903 : decode cL_law 903 = .ok (.iconst 1, 1) := by decide +kernel
theorem dL_law_904 : decode cL_law 904 = .ok (.iadd, 1) := by decide +kernel
theorem dL_law_905 : decode cL_law 905 = .ok (.iaload, 1) := by decide +kernel
theorem dL_law_906 : decode cL_law 906 = .ok (.invokevirtual 124, 3) := by decide +kernel
theorem dL_law_909 : decode cL_law 909 = .ok (.if_icmp .eq 28, 3) := by decide +kernel
theorem dL_law_912 : decode cL_law 912 = .ok (.iconst 0, 1) := by decide +kernel
theorem dL_law_913 : decode cL_law 913 = .ok (.ireturn, 1) := by decide +kernel
theorem dL_law_914 : decode cL_law 914 = .ok (.aload_n 1, 1) := by decide +kernel
theorem dL_law_915 : decode cL_law 915 = .ok (.aload_n 0, 1) := by decide +kernel
theorem dL_law_916 : decode cL_law 916 = .ok (.iload_n 3, 1) := by decide +kernel
theorem dL_law_917 : decode cL_law 917 = .ok (.iconst 1, 1) := by decide +kernel
theorem dL_law_918 : decode cL_law 918 = .ok (.iadd, 1) := by decide +kernel
theorem dL_law_919 : decode cL_law 919 = .ok (.iaload, 1) := by decide +kernel
theorem dL_law_920 : decode cL_law 920 = .ok (.invokevirtual 125, 3) := by decide +kernel
theorem dL_law_923 : decode cL_law 923 = .ok (.aload_n 2, 1) := by decide +kernel
theorem dL_law_924 : decode cL_law 924 = .ok (.aload_n 0, 1) := by decide +kernel
theorem dL_law_925 : decode cL_law 925 = .ok (.iload_n 3, 1) := by decide +kernel
theorem dL_law_926 : decode cL_law 926 = .ok (.iconst 1, 1) := by decide +kernel
theorem dL_law_927 : decode cL_law 927 = .ok (.iadd, 1) := by decide +kernel
theorem dL_law_928 : decode cL_law 928 = .ok (.iaload, 1) := by decide +kernel
theorem dL_law_929 : decode cL_law 929 = .ok (.invokevirtual 128, 3) := by decide +kernel
theorem dL_law_932 : decode cL_law 932 = .ok (.if_icmp .eq 5, 3) := by decide +kernel
theorem dL_law_935 : decode cL_law 935 = .ok (.iconst 0, 1) := by decide +kernel
theorem dL_law_936 : decode cL_law 936 = .ok (.ireturn, 1) := by decide +kernel
theorem dL_law_937 : decode cL_law 937 = .ok (.iinc 3 5, 3) := by decide +kernel
theorem dL_law_940 : decode cL_law 940 = .ok (.goto (-922), 3) := by decide +kernel
theorem dL_law_943 : decode cL_law 943 = .ok (.iconst 1, 1) := by decide +kernel
theorem dL_law_944 : decode cL_law 944 = .ok (.ireturn, 1) := by decide +kernel
end
section
theorem i_vc : Claimed_1_1 ∧ Claimed_1_2 := sorry
end
